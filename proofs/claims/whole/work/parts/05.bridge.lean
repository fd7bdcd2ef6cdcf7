theorem mw_44 : Cond.fieldLink RX0 9 "JamBridge$Bridge" "spans" "I" ∈ WW := WT_in 44 (by decide +kernel) (by decide +kernel)
theorem mw_59 : Cond.fieldLink RX0 31 "JamBridge$Bridge" "vehicles" "I" ∈ WW := WT_in 59 (by decide +kernel) (by decide +kernel)
theorem mw_288 : Cond.methodLink RX0 70 yX0_hasSpan ∈ WW := WT_in 288 (by decide +kernel) (by decide +kernel)
theorem mw_289 : Cond.instanceMethod yX0_hasSpan ∈ WW := WT_in 289 (by decide +kernel) (by decide +kernel)
theorem mw_290 : Cond.selects RX0 yX0_hasSpan yX0_hasSpan ∈ WW := WT_in 290 (by decide +kernel) (by decide +kernel)
theorem mw_2 : Cond.initialized RX0 ∈ WW := WT_in 2 (by decide +kernel) (by decide +kernel)
theorem mw_291 : Cond.code yX0_hasSpan cX0_hasSpan 2 (some .boolean) ∈ WW := WT_in 291 (by decide +kernel) (by decide +kernel)
theorem mw_47 : Cond.fieldLink RX0 15 "JamBridge$Bridge" "lengths" "[I" ∈ WW := WT_in 47 (by decide +kernel) (by decide +kernel)
theorem mw_49 : Cond.fieldLink RX0 19 "JamBridge$Bridge" "jars" "[I" ∈ WW := WT_in 49 (by decide +kernel) (by decide +kernel)
theorem mw_52 : Cond.fieldLink RX0 22 "JamBridge$Bridge" "ages" "[I" ∈ WW := WT_in 52 (by decide +kernel) (by decide +kernel)
theorem mw_292 : Cond.methodLink RX0 74 yJ9_min_7cf53 ∈ WW := WT_in 292 (by decide +kernel) (by decide +kernel)
theorem mw_293 : Cond.static yJ9_min_7cf53 ∈ WW := WT_in 293 (by decide +kernel) (by decide +kernel)
theorem mw_11 : Cond.initialized "java/lang/Math" ∈ WW := WT_in 11 (by decide +kernel) (by decide +kernel)
theorem mw_294 : Cond.code yJ9_min_7cf53 cJ9_min_7cf53 2 (some .int) ∈ WW := WT_in 294 (by decide +kernel) (by decide +kernel)
theorem mw_54 : Cond.fieldLink RX0 25 "JamBridge$Bridge" "cracks" "[I" ∈ WW := WT_in 54 (by decide +kernel) (by decide +kernel)
theorem mw_66 : Cond.fieldLink RX0 40 "JamBridge$Bridge" "places" "[I" ∈ WW := WT_in 66 (by decide +kernel) (by decide +kernel)
theorem mw_64 : Cond.fieldLink RX0 37 "JamBridge$Bridge" "weights" "[I" ∈ WW := WT_in 64 (by decide +kernel) (by decide +kernel)
theorem mw_697 : Cond.methodLink RX0 80 yX0_loadOf ∈ WW := WT_in 697 (by decide +kernel) (by decide +kernel)
theorem mw_273 : Cond.instanceMethod yX0_loadOf ∈ WW := WT_in 273 (by decide +kernel) (by decide +kernel)
theorem mw_274 : Cond.selects RX0 yX0_loadOf yX0_loadOf ∈ WW := WT_in 274 (by decide +kernel) (by decide +kernel)
theorem mw_275 : Cond.code yX0_loadOf cX0_loadOf 4 (some .int) ∈ WW := WT_in 275 (by decide +kernel) (by decide +kernel)
theorem mw_698 : Cond.methodLink RX0 84 yX0_strengthOf ∈ WW := WT_in 698 (by decide +kernel) (by decide +kernel)
theorem mw_285 : Cond.instanceMethod yX0_strengthOf ∈ WW := WT_in 285 (by decide +kernel) (by decide +kernel)
theorem mw_286 : Cond.selects RX0 yX0_strengthOf yX0_strengthOf ∈ WW := WT_in 286 (by decide +kernel) (by decide +kernel)
theorem mw_287 : Cond.code yX0_strengthOf cX0_strengthOf 3 (some .int) ∈ WW := WT_in 287 (by decide +kernel) (by decide +kernel)
theorem mw_949 : Cond.methodLink RX0 87 yX0_comesBefore ∈ WW := WT_in 949 (by decide +kernel) (by decide +kernel)
theorem mw_951 : Cond.instanceMethod yX0_comesBefore ∈ WW := WT_in 951 (by decide +kernel) (by decide +kernel)
theorem ms_13 : Cond.selects RX0 yX0_comesBefore yX0_comesBefore ∈ WW := WS_in 13 (by decide +kernel) (by decide +kernel)
theorem mw_952 : Cond.code yX0_comesBefore cX0_comesBefore 5 (some .boolean) ∈ WW := WT_in 952 (by decide +kernel) (by decide +kernel)
theorem mw_62 : Cond.fieldLink RX0 34 "JamBridge$Bridge" "numbers" "[I" ∈ WW := WT_in 62 (by decide +kernel) (by decide +kernel)
theorem mw_988 : Cond.methodLink RX0 91 yX0_hasPosition ∈ WW := WT_in 988 (by decide +kernel) (by decide +kernel)
theorem mw_989 : Cond.instanceMethod yX0_hasPosition ∈ WW := WT_in 989 (by decide +kernel) (by decide +kernel)
theorem mw_990 : Cond.selects RX0 yX0_hasPosition yX0_hasPosition ∈ WW := WT_in 990 (by decide +kernel) (by decide +kernel)
theorem mw_991 : Cond.code yX0_hasPosition cX0_hasPosition 2 (some .boolean) ∈ WW := WT_in 991 (by decide +kernel) (by decide +kernel)
theorem mw_72 : Cond.fieldLink RX0 49 "JamBridge$Bridge" "rate" "I" ∈ WW := WT_in 72 (by decide +kernel) (by decide +kernel)
theorem mw_57 : Cond.fieldLink RX0 28 "JamBridge$Bridge" "stresses" "[I" ∈ WW := WT_in 57 (by decide +kernel) (by decide +kernel)
theorem mw_75 : Cond.fieldLink RX0 52 "JamBridge$Bridge" "till" "I" ∈ WW := WT_in 75 (by decide +kernel) (by decide +kernel)
theorem mw_68 : Cond.fieldLink RX0 43 "JamBridge$Bridge" "nextNumber" "I" ∈ WW := WT_in 68 (by decide +kernel) (by decide +kernel)
theorem mw_996 : Cond.methodLink RX0 144 yX0_tollAt ∈ WW := WT_in 996 (by decide +kernel) (by decide +kernel)
theorem mw_997 : Cond.instanceMethod yX0_tollAt ∈ WW := WT_in 997 (by decide +kernel) (by decide +kernel)
theorem mw_998 : Cond.selects RX0 yX0_tollAt yX0_tollAt ∈ WW := WT_in 998 (by decide +kernel) (by decide +kernel)
theorem mw_999 : Cond.code yX0_tollAt cX0_tollAt 2 (some .int) ∈ WW := WT_in 999 (by decide +kernel) (by decide +kernel)
theorem mw_78 : Cond.fieldLink RX0 55 "JamBridge$Bridge" "paid" "I" ∈ WW := WT_in 78 (by decide +kernel) (by decide +kernel)
theorem mw_80 : Cond.fieldLink RX0 58 "JamBridge$Bridge" "crossed" "I" ∈ WW := WT_in 80 (by decide +kernel) (by decide +kernel)
theorem mw_984 : Cond.methodLink RX0 131 yX0_isOnLastSpan ∈ WW := WT_in 984 (by decide +kernel) (by decide +kernel)
theorem mw_985 : Cond.instanceMethod yX0_isOnLastSpan ∈ WW := WT_in 985 (by decide +kernel) (by decide +kernel)
theorem mw_986 : Cond.selects RX0 yX0_isOnLastSpan yX0_isOnLastSpan ∈ WW := WT_in 986 (by decide +kernel) (by decide +kernel)
theorem mw_987 : Cond.code yX0_isOnLastSpan cX0_isOnLastSpan 2 (some .boolean) ∈ WW := WT_in 987 (by decide +kernel) (by decide +kernel)
theorem mw_1004 : Cond.methodLink RX0 141 yX0_mayMove ∈ WW := WT_in 1004 (by decide +kernel) (by decide +kernel)
theorem mw_1006 : Cond.instanceMethod yX0_mayMove ∈ WW := WT_in 1006 (by decide +kernel) (by decide +kernel)
theorem ms_18 : Cond.selects RX0 yX0_mayMove yX0_mayMove ∈ WW := WS_in 18 (by decide +kernel) (by decide +kernel)
theorem mw_1007 : Cond.code yX0_mayMove cX0_mayMove 4 (some .boolean) ∈ WW := WT_in 1007 (by decide +kernel) (by decide +kernel)
theorem mw_992 : Cond.methodLink RX0 134 yX0_payToll ∈ WW := WT_in 992 (by decide +kernel) (by decide +kernel)
theorem mw_994 : Cond.instanceMethod yX0_payToll ∈ WW := WT_in 994 (by decide +kernel) (by decide +kernel)
theorem ms_16 : Cond.selects RX0 yX0_payToll yX0_payToll ∈ WW := WS_in 16 (by decide +kernel) (by decide +kernel)
theorem mw_995 : Cond.code yX0_payToll cX0_payToll 3 none ∈ WW := WT_in 995 (by decide +kernel) (by decide +kernel)
theorem mw_1000 : Cond.methodLink RX0 138 yX0_removeVehicle ∈ WW := WT_in 1000 (by decide +kernel) (by decide +kernel)
theorem mw_1002 : Cond.instanceMethod yX0_removeVehicle ∈ WW := WT_in 1002 (by decide +kernel) (by decide +kernel)
theorem ms_17 : Cond.selects RX0 yX0_removeVehicle yX0_removeVehicle ∈ WW := WS_in 17 (by decide +kernel) (by decide +kernel)
theorem mw_1003 : Cond.code yX0_removeVehicle cX0_removeVehicle 3 none ∈ WW := WT_in 1003 (by decide +kernel) (by decide +kernel)
theorem mw_1012 : Cond.methodLink RX0 147 yX0_strains ∈ WW := WT_in 1012 (by decide +kernel) (by decide +kernel)
theorem mw_694 : Cond.instanceMethod yX0_strains ∈ WW := WT_in 694 (by decide +kernel) (by decide +kernel)
theorem mw_695 : Cond.selects RX0 yX0_strains yX0_strains ∈ WW := WT_in 695 (by decide +kernel) (by decide +kernel)
theorem mw_696 : Cond.code yX0_strains cX0_strains 2 (some .boolean) ∈ WW := WT_in 696 (by decide +kernel) (by decide +kernel)
theorem mw_1013 : Cond.methodLink RX0 150 yX0_crack ∈ WW := WT_in 1013 (by decide +kernel) (by decide +kernel)
theorem mw_1015 : Cond.instanceMethod yX0_crack ∈ WW := WT_in 1015 (by decide +kernel) (by decide +kernel)
theorem ms_20 : Cond.selects RX0 yX0_crack yX0_crack ∈ WW := WS_in 20 (by decide +kernel) (by decide +kernel)
theorem mw_1016 : Cond.code yX0_crack cX0_crack 2 none ∈ WW := WT_in 1016 (by decide +kernel) (by decide +kernel)
theorem mw_1021 : Cond.methodLink RX0 153 yJ9_max_7cf53 ∈ WW := WT_in 1021 (by decide +kernel) (by decide +kernel)
theorem mw_297 : Cond.static yJ9_max_7cf53 ∈ WW := WT_in 297 (by decide +kernel) (by decide +kernel)
theorem mw_298 : Cond.code yJ9_max_7cf53 cJ9_max_7cf53 2 (some .int) ∈ WW := WT_in 298 (by decide +kernel) (by decide +kernel)
theorem mw_82 : Cond.fieldLink RX0 61 "JamBridge$Bridge" "sunk" "I" ∈ WW := WT_in 82 (by decide +kernel) (by decide +kernel)
theorem mw_69 : Cond.fieldLink RX0 46 "JamBridge$Bridge" "hour" "I" ∈ WW := WT_in 69 (by decide +kernel) (by decide +kernel)
theorem mw_976 : Cond.methodLink RX0 116 yX0_ageSpans ∈ WW := WT_in 976 (by decide +kernel) (by decide +kernel)
theorem mw_978 : Cond.instanceMethod yX0_ageSpans ∈ WW := WT_in 978 (by decide +kernel) (by decide +kernel)
theorem ms_14 : Cond.selects RX0 yX0_ageSpans yX0_ageSpans ∈ WW := WS_in 14 (by decide +kernel) (by decide +kernel)
theorem mw_979 : Cond.code yX0_ageSpans cX0_ageSpans 2 none ∈ WW := WT_in 979 (by decide +kernel) (by decide +kernel)
theorem mw_980 : Cond.methodLink RX0 119 yX0_moveVehicles ∈ WW := WT_in 980 (by decide +kernel) (by decide +kernel)
theorem mw_982 : Cond.instanceMethod yX0_moveVehicles ∈ WW := WT_in 982 (by decide +kernel) (by decide +kernel)
theorem ms_15 : Cond.selects RX0 yX0_moveVehicles yX0_moveVehicles ∈ WW := WS_in 15 (by decide +kernel) (by decide +kernel)
theorem mw_983 : Cond.code yX0_moveVehicles cX0_moveVehicles 4 none ∈ WW := WT_in 983 (by decide +kernel) (by decide +kernel)
theorem mw_1008 : Cond.methodLink RX0 122 yX0_stressSpans ∈ WW := WT_in 1008 (by decide +kernel) (by decide +kernel)
theorem mw_1010 : Cond.instanceMethod yX0_stressSpans ∈ WW := WT_in 1010 (by decide +kernel) (by decide +kernel)
theorem ms_19 : Cond.selects RX0 yX0_stressSpans yX0_stressSpans ∈ WW := WS_in 19 (by decide +kernel) (by decide +kernel)
theorem mw_1011 : Cond.code yX0_stressSpans cX0_stressSpans 2 none ∈ WW := WT_in 1011 (by decide +kernel) (by decide +kernel)
theorem mw_1022 : Cond.methodLink RX0 128 yX0_sinkVehicles ∈ WW := WT_in 1022 (by decide +kernel) (by decide +kernel)
theorem mw_1024 : Cond.instanceMethod yX0_sinkVehicles ∈ WW := WT_in 1024 (by decide +kernel) (by decide +kernel)
theorem ms_22 : Cond.selects RX0 yX0_sinkVehicles yX0_sinkVehicles ∈ WW := WS_in 22 (by decide +kernel) (by decide +kernel)
theorem mw_1025 : Cond.code yX0_sinkVehicles cX0_sinkVehicles 4 none ∈ WW := WT_in 1025 (by decide +kernel) (by decide +kernel)
theorem mw_1017 : Cond.methodLink RX0 125 yX0_spreadCracks ∈ WW := WT_in 1017 (by decide +kernel) (by decide +kernel)
theorem mw_1019 : Cond.instanceMethod yX0_spreadCracks ∈ WW := WT_in 1019 (by decide +kernel) (by decide +kernel)
theorem ms_21 : Cond.selects RX0 yX0_spreadCracks yX0_spreadCracks ∈ WW := WS_in 21 (by decide +kernel) (by decide +kernel)
theorem mw_1020 : Cond.code yX0_spreadCracks cX0_spreadCracks 6 none ∈ WW := WT_in 1020 (by decide +kernel) (by decide +kernel)
theorem mw_1218 : Cond.methodLink RX0 94 yX0_appendSpan ∈ WW := WT_in 1218 (by decide +kernel) (by decide +kernel)
theorem mw_808 : Cond.instanceMethod yX0_appendSpan ∈ WW := WT_in 808 (by decide +kernel) (by decide +kernel)
theorem mw_809 : Cond.selects RX0 yX0_appendSpan yX0_appendSpan ∈ WW := WT_in 809 (by decide +kernel) (by decide +kernel)
theorem mw_810 : Cond.code yX0_appendSpan cX0_appendSpan 3 (some .int) ∈ WW := WT_in 810 (by decide +kernel) (by decide +kernel)
theorem mw_1219 : Cond.methodLink RX0 97 yX0_addJars ∈ WW := WT_in 1219 (by decide +kernel) (by decide +kernel)
theorem mw_833 : Cond.instanceMethod yX0_addJars ∈ WW := WT_in 833 (by decide +kernel) (by decide +kernel)
theorem mw_834 : Cond.selects RX0 yX0_addJars yX0_addJars ∈ WW := WT_in 834 (by decide +kernel) (by decide +kernel)
theorem mw_835 : Cond.code yX0_addJars cX0_addJars 5 (some .int) ∈ WW := WT_in 835 (by decide +kernel) (by decide +kernel)
theorem mw_1220 : Cond.methodLink RX0 100 yX0_appendVehicle ∈ WW := WT_in 1220 (by decide +kernel) (by decide +kernel)
theorem mw_962 : Cond.instanceMethod yX0_appendVehicle ∈ WW := WT_in 962 (by decide +kernel) (by decide +kernel)
theorem mw_963 : Cond.selects RX0 yX0_appendVehicle yX0_appendVehicle ∈ WW := WT_in 963 (by decide +kernel) (by decide +kernel)
theorem mw_964 : Cond.code yX0_appendVehicle cX0_appendVehicle 3 (some .int) ∈ WW := WT_in 964 (by decide +kernel) (by decide +kernel)
theorem mw_1221 : Cond.methodLink RX0 103 yX0_repair ∈ WW := WT_in 1221 (by decide +kernel) (by decide +kernel)
theorem mw_844 : Cond.instanceMethod yX0_repair ∈ WW := WT_in 844 (by decide +kernel) (by decide +kernel)
theorem mw_845 : Cond.selects RX0 yX0_repair yX0_repair ∈ WW := WT_in 845 (by decide +kernel) (by decide +kernel)
theorem mw_846 : Cond.code yX0_repair cX0_repair 3 (some .int) ∈ WW := WT_in 846 (by decide +kernel) (by decide +kernel)
theorem mw_1222 : Cond.methodLink RX0 106 yX0_replaceRate ∈ WW := WT_in 1222 (by decide +kernel) (by decide +kernel)
theorem mw_1034 : Cond.instanceMethod yX0_replaceRate ∈ WW := WT_in 1034 (by decide +kernel) (by decide +kernel)
theorem mw_1035 : Cond.selects RX0 yX0_replaceRate yX0_replaceRate ∈ WW := WT_in 1035 (by decide +kernel) (by decide +kernel)
theorem mw_1036 : Cond.code yX0_replaceRate cX0_replaceRate 3 (some .int) ∈ WW := WT_in 1036 (by decide +kernel) (by decide +kernel)
theorem mw_1223 : Cond.methodLink RX0 109 yX0_letHoursPass ∈ WW := WT_in 1223 (by decide +kernel) (by decide +kernel)
theorem mw_973 : Cond.instanceMethod yX0_letHoursPass ∈ WW := WT_in 973 (by decide +kernel) (by decide +kernel)
theorem mw_974 : Cond.selects RX0 yX0_letHoursPass yX0_letHoursPass ∈ WW := WT_in 974 (by decide +kernel) (by decide +kernel)
theorem mw_975 : Cond.code yX0_letHoursPass cX0_letHoursPass 4 (some .int) ∈ WW := WT_in 975 (by decide +kernel) (by decide +kernel)
theorem mw_1224 : Cond.methodLink RX0 112 yX0_dropLastSpan ∈ WW := WT_in 1224 (by decide +kernel) (by decide +kernel)
theorem mw_819 : Cond.instanceMethod yX0_dropLastSpan ∈ WW := WT_in 819 (by decide +kernel) (by decide +kernel)
theorem mw_820 : Cond.selects RX0 yX0_dropLastSpan yX0_dropLastSpan ∈ WW := WT_in 820 (by decide +kernel) (by decide +kernel)
theorem mw_821 : Cond.code yX0_dropLastSpan cX0_dropLastSpan 2 (some .int) ∈ WW := WT_in 821 (by decide +kernel) (by decide +kernel)
def F_X0_hasSpan (b : Bv) (p0 : Int32) : Option (Bool) := if p0 < 0 then some false else if (B_spans b) ≤ p0 then some false else if 10 ≤ p0 then some false else some true
set_option maxHeartbeats 4000000 in
set_option maxRecDepth 100000 in
theorem c_X0_hasSpan (g : GG) (l : Launch) (a : Nat → Nat) (b : Bv) (p0 : Int32) (z : Bool) (hF : F_X0_hasSpan b p0 = some z) : MI g l yX0_hasSpan cX0_hasSpan 2 (some .boolean) ({ frames := 0, cells := 0, slots := 0, locals := 0 } : Room) [.ref (a 0), .int p0] [wB g a b] 0 0 (bi z) [wB g a b] := by
  refine MI.bg (by decide) (Nat.le_of_ble_eq_true rfl) ?_
  intro p e s m below meth c A Q hQ hx hb hr hml hown hts hlocks hmn hK hE hA hP hD hS ls hl
  rw [F_X0_hasSpan] at hF
  have hl : lv_has ls 2 [(0, .ref (a 0)), (1, .int p0)] := hl
  refine lv_iload_n hx hb dX0_hasSpan_0 rfl (lv_at hl 1 rfl) ?_
  refine lv_if_lt (tgt := 22) hx hb dX0_hasSpan_1 (by decide) (fun c1 => ?_) (fun c1 => ?_)
  · have hF := ob_pos c1 hF
    refine lv_iconst (v := 0) hx hb dX0_hasSpan_22 (by decide) ?_
    cases hF
    rw [hQ]
    exact jb_zret hx hb hr rfl hlocks hP hD hS dX0_hasSpan_23 rfl (Nat.le_of_ble_eq_true rfl) (Nat.le_of_ble_eq_true rfl)
  · have hF := ob_neg c1 hF
    refine lv_iload_n hx hb dX0_hasSpan_4 rfl (lv_at hl 1 rfl) ?_
    refine lv_aload_n hx hb dX0_hasSpan_5 rfl (lv_at hl 0 rfl) ?_
    refine va_get (D := g.1) (ci := 4) (v := .int (B_spans b)) (C := RX0) (T := TX0) (N := 17) hx hb hts inX0 hown hK hP 0 rfl rfl 0 (by decide) (hts _ mw_44) (fun _ h9 => h9) rfl dX0_hasSpan_6 ?_
    refine lv_icmp_ge (tgt := 22) hx hb dX0_hasSpan_9 (by decide) (fun c2 => ?_) (fun c2 => ?_)
    · have hF := ob_pos c2 hF
      refine lv_iconst (v := 0) hx hb dX0_hasSpan_22 (by decide) ?_
      cases hF
      rw [hQ]
      exact jb_zret hx hb hr rfl hlocks hP hD hS dX0_hasSpan_23 rfl (Nat.le_of_ble_eq_true rfl) (Nat.le_of_ble_eq_true rfl)
    · have hF := ob_neg c2 hF
      refine lv_iload_n hx hb dX0_hasSpan_12 rfl (lv_at hl 1 rfl) ?_
      refine lv_bipush (v := 10) hx hb dX0_hasSpan_13 (by decide) ?_
      refine lv_icmp_ge (tgt := 22) hx hb dX0_hasSpan_15 (by decide) (fun c3 => ?_) (fun c3 => ?_)
      · have hF := ob_pos c3 hF
        refine lv_iconst (v := 0) hx hb dX0_hasSpan_22 (by decide) ?_
        cases hF
        rw [hQ]
        exact jb_zret hx hb hr rfl hlocks hP hD hS dX0_hasSpan_23 rfl (Nat.le_of_ble_eq_true rfl) (Nat.le_of_ble_eq_true rfl)
      · have hF := ob_neg c3 hF
        refine lv_iconst (v := 1) hx hb dX0_hasSpan_18 (by decide) ?_
        refine lv_goto (tgt := 23) hx hb dX0_hasSpan_19 (by decide) ?_
        cases hF
        rw [hQ]
        exact jb_zret hx hb hr rfl hlocks hP hD hS dX0_hasSpan_23 rfl (Nat.le_of_ble_eq_true rfl) (Nat.le_of_ble_eq_true rfl)
def F_X0_hasPosition (b : Bv) (p0 : Int32) : Option (Bool) := if p0 < 0 then some false else if (B_vehicles b) ≤ p0 then some false else if 8 ≤ p0 then some false else some true
set_option maxHeartbeats 4000000 in
set_option maxRecDepth 100000 in
theorem c_X0_hasPosition (g : GG) (l : Launch) (a : Nat → Nat) (b : Bv) (p0 : Int32) (z : Bool) (hF : F_X0_hasPosition b p0 = some z) : MI g l yX0_hasPosition cX0_hasPosition 2 (some .boolean) ({ frames := 0, cells := 0, slots := 0, locals := 0 } : Room) [.ref (a 0), .int p0] [wB g a b] 0 0 (bi z) [wB g a b] := by
  refine MI.bg (by decide) (Nat.le_of_ble_eq_true rfl) ?_
  intro p e s m below meth c A Q hQ hx hb hr hml hown hts hlocks hmn hK hE hA hP hD hS ls hl
  rw [F_X0_hasPosition] at hF
  have hl : lv_has ls 2 [(0, .ref (a 0)), (1, .int p0)] := hl
  refine lv_iload_n hx hb dX0_hasPosition_0 rfl (lv_at hl 1 rfl) ?_
  refine lv_if_lt (tgt := 22) hx hb dX0_hasPosition_1 (by decide) (fun c1 => ?_) (fun c1 => ?_)
  · have hF := ob_pos c1 hF
    refine lv_iconst (v := 0) hx hb dX0_hasPosition_22 (by decide) ?_
    cases hF
    rw [hQ]
    exact jb_zret hx hb hr rfl hlocks hP hD hS dX0_hasPosition_23 rfl (Nat.le_of_ble_eq_true rfl) (Nat.le_of_ble_eq_true rfl)
  · have hF := ob_neg c1 hF
    refine lv_iload_n hx hb dX0_hasPosition_4 rfl (lv_at hl 1 rfl) ?_
    refine lv_aload_n hx hb dX0_hasPosition_5 rfl (lv_at hl 0 rfl) ?_
    refine va_get (D := g.1) (ci := 4) (v := .int (B_vehicles b)) (C := RX0) (T := TX0) (N := 17) hx hb hts inX0 hown hK hP 0 rfl rfl 6 (by decide) (hts _ mw_59) (fun _ h9 => h9) rfl dX0_hasPosition_6 ?_
    refine lv_icmp_ge (tgt := 22) hx hb dX0_hasPosition_9 (by decide) (fun c2 => ?_) (fun c2 => ?_)
    · have hF := ob_pos c2 hF
      refine lv_iconst (v := 0) hx hb dX0_hasPosition_22 (by decide) ?_
      cases hF
      rw [hQ]
      exact jb_zret hx hb hr rfl hlocks hP hD hS dX0_hasPosition_23 rfl (Nat.le_of_ble_eq_true rfl) (Nat.le_of_ble_eq_true rfl)
    · have hF := ob_neg c2 hF
      refine lv_iload_n hx hb dX0_hasPosition_12 rfl (lv_at hl 1 rfl) ?_
      refine lv_bipush (v := 8) hx hb dX0_hasPosition_13 (by decide) ?_
      refine lv_icmp_ge (tgt := 22) hx hb dX0_hasPosition_15 (by decide) (fun c3 => ?_) (fun c3 => ?_)
      · have hF := ob_pos c3 hF
        refine lv_iconst (v := 0) hx hb dX0_hasPosition_22 (by decide) ?_
        cases hF
        rw [hQ]
        exact jb_zret hx hb hr rfl hlocks hP hD hS dX0_hasPosition_23 rfl (Nat.le_of_ble_eq_true rfl) (Nat.le_of_ble_eq_true rfl)
      · have hF := ob_neg c3 hF
        refine lv_iconst (v := 1) hx hb dX0_hasPosition_18 (by decide) ?_
        refine lv_goto (tgt := 23) hx hb dX0_hasPosition_19 (by decide) ?_
        cases hF
        rw [hQ]
        exact jb_zret hx hb hr rfl hlocks hP hD hS dX0_hasPosition_23 rfl (Nat.le_of_ble_eq_true rfl) (Nat.le_of_ble_eq_true rfl)
def F_X0_strengthOf (b : Bv) (p0 : Int32) : Option (Int32) := (F_X0_hasSpan b p0).bind (fun z1 => if (bi z1) = 0 then some 0 else ck (inb p0 10) (if 1 ≤ ((B_lengths b) p0.toNatClampNeg) then ck (inb p0 10) (ck (inb p0 10) (ck (inb p0 10) (ck (nz ((B_lengths b) p0.toNatClampNeg)) (ck (inb p0 10) (ck (nz 10) (some ((((((B_jars b) p0.toNatClampNeg) * (imin ((B_ages b) p0.toNatClampNeg) 24)) / ((B_lengths b) p0.toNatClampNeg)) * (10 - ((B_cracks b) p0.toNatClampNeg))) / 10))))))) else some 0))
set_option maxHeartbeats 4000000 in
set_option maxRecDepth 100000 in
theorem c_X0_strengthOf (g : GG) (l : Launch) (a : Nat → Nat) (b : Bv) (p0 : Int32) (z : Int32) (hF : F_X0_strengthOf b p0 = some z) : MI g l yX0_strengthOf cX0_strengthOf 3 (some .int) ({ frames := 1, cells := 0, slots := 0, locals := 21 } : Room) [.ref (a 0), .int p0] [wB g a b] 0 0 z [wB g a b] := by
  refine MI.bg (by decide) (Nat.le_of_ble_eq_true rfl) ?_
  intro p e s m below meth c A Q hQ hx hb hr hml hown hts hlocks hmn hK hE hA hP hD hS ls hl
  rw [F_X0_strengthOf] at hF
  have hl : lv_has ls 3 [(0, .ref (a 0)), (1, .int p0)] := hl
  refine lv_aload_n hx hb dX0_strengthOf_0 rfl (lv_at hl 0 rfl) ?_
  refine lv_iload_n hx hb dX0_strengthOf_1 rfl (lv_at hl 1 rfl) ?_
  obtain ⟨z1, hz1, hF⟩ := ob_bind hF
  refine cl_i (csR := []) (csF := [wB g a b]) (rest := []) hx hb hml hown hts hK hE hA hl hP hD hS (c_X0_hasSpan g l a b p0 z1 hz1) [0] [] [0] ⟨rfl, rfl, rfl, rfl, rfl, rfl, rfl⟩ ⟨0, 4, _, _, rfl, rfl, rfl⟩ 1 (jb_giV mw_288 mw_289 mw_290 mw_2 mw_291) ⟨rfl, rfl⟩ (by decide +kernel) ⟨⟨(Nat.le_of_ble_eq_true rfl), (Nat.le_of_ble_eq_true rfl)⟩, (Nat.le_of_ble_eq_true rfl), (Nat.le_of_ble_eq_true rfl)⟩ ⟨rfl, rfl⟩ (Nat.le_of_ble_eq_true rfl) dX0_strengthOf_2 (fun H locs hP hD hS => ?_)
  refine lv_if_eq (tgt := 18) hx hb dX0_strengthOf_5 (by decide) (fun c2 => ?_) (fun c2 => ?_)
  · have hF := ob_pos c2 hF
    refine lv_iconst (v := 0) hx hb dX0_strengthOf_18 (by decide) ?_
    cases hF
    rw [hQ]
    exact jb_iret hx hb hr hlocks hP hD hS dX0_strengthOf_19 rfl (Nat.le_of_ble_eq_true rfl) (Nat.le_of_ble_eq_true rfl)
  · have hF := ob_neg c2 hF
    refine lv_aload_n hx hb dX0_strengthOf_8 rfl (lv_at hl 0 rfl) ?_
    refine va_get (D := g.1) (ci := 4) (v := .ref (a 1)) (C := RX0) (T := TX0) (N := 17) hx hb hts inX0 hown hK hP 0 rfl rfl 1 (by decide) (hts _ mw_47) (fun _ h9 => h9) rfl dX0_strengthOf_9 ?_
    refine lv_iload_n hx hb dX0_strengthOf_12 rfl (lv_at hl 1 rfl) ?_
    have h3 := inb_in (ck_t hF)
    have hF := ck_s hF
    refine va_iald hx hb hK hP 1 0 rfl rfl h3 dX0_strengthOf_13 ?_
    refine lv_iconst (v := 1) hx hb dX0_strengthOf_14 (by decide) ?_
    refine lv_icmp_ge (tgt := 20) hx hb dX0_strengthOf_15 (by decide) (fun c4 => ?_) (fun c4 => ?_)
    · have hF := ob_pos c4 hF
      refine lv_aload_n hx hb dX0_strengthOf_20 rfl (lv_at hl 0 rfl) ?_
      refine va_get (D := g.1) (ci := 4) (v := .ref (a 2)) (C := RX0) (T := TX0) (N := 17) hx hb hts inX0 hown hK hP 0 rfl rfl 2 (by decide) (hts _ mw_49) (fun _ h9 => h9) rfl dX0_strengthOf_21 ?_
      refine lv_iload_n hx hb dX0_strengthOf_24 rfl (lv_at hl 1 rfl) ?_
      have h5 := inb_in (ck_t hF)
      have hF := ck_s hF
      refine va_iald hx hb hK hP 2 0 rfl rfl h5 dX0_strengthOf_25 ?_
      refine lv_aload_n hx hb dX0_strengthOf_26 rfl (lv_at hl 0 rfl) ?_
      refine va_get (D := g.1) (ci := 4) (v := .ref (a 3)) (C := RX0) (T := TX0) (N := 17) hx hb hts inX0 hown hK hP 0 rfl rfl 3 (by decide) (hts _ mw_52) (fun _ h9 => h9) rfl dX0_strengthOf_27 ?_
      refine lv_iload_n hx hb dX0_strengthOf_30 rfl (lv_at hl 1 rfl) ?_
      have h6 := inb_in (ck_t hF)
      have hF := ck_s hF
      refine va_iald hx hb hK hP 3 0 rfl rfl h6 dX0_strengthOf_31 ?_
      refine lv_bipush (v := 24) hx hb dX0_strengthOf_32 (by decide) ?_
      refine va_mmin hx hb (hml.trans hl.1.symm) hown (hts _ mw_292) (hts _ mw_293) (hts _ mw_11) (hts _ mw_294) (Nat.le_of_ble_eq_true rfl) (Nat.le_of_ble_eq_true rfl) (Nat.le_of_ble_eq_true rfl) (Nat.le_of_ble_eq_true rfl) dX0_strengthOf_34 ?_
      refine lv_imul hx hb dX0_strengthOf_37 ?_
      refine lv_aload_n hx hb dX0_strengthOf_38 rfl (lv_at hl 0 rfl) ?_
      refine va_get (D := g.1) (ci := 4) (v := .ref (a 1)) (C := RX0) (T := TX0) (N := 17) hx hb hts inX0 hown hK hP 0 rfl rfl 1 (by decide) (hts _ mw_47) (fun _ h9 => h9) rfl dX0_strengthOf_39 ?_
      refine lv_iload_n hx hb dX0_strengthOf_42 rfl (lv_at hl 1 rfl) ?_
      have h7 := inb_in (ck_t hF)
      have hF := ck_s hF
      refine va_iald hx hb hK hP 1 0 rfl rfl h7 dX0_strengthOf_43 ?_
      have h8 := nz_ne (ck_t hF)
      have hF := ck_s hF
      refine lv_idiv hx hb dX0_strengthOf_44 h8 ?_
      refine lv_istore_n (lv' := [(2, .int ((((B_jars b) p0.toNatClampNeg) * (imin ((B_ages b) p0.toNatClampNeg) 24)) / ((B_lengths b) p0.toNatClampNeg))), (0, .ref (a 0)), (1, .int p0)]) hx hb dX0_strengthOf_45 rfl hl (by decide) rfl (fun ls hl => ?_)
      refine lv_iload_n hx hb dX0_strengthOf_46 rfl (lv_at hl 0 rfl) ?_
      refine lv_bipush (v := 10) hx hb dX0_strengthOf_47 (by decide) ?_
      refine lv_aload_n hx hb dX0_strengthOf_49 rfl (lv_at hl 1 rfl) ?_
      refine va_get (D := g.1) (ci := 4) (v := .ref (a 4)) (C := RX0) (T := TX0) (N := 17) hx hb hts inX0 hown hK hP 0 rfl rfl 4 (by decide) (hts _ mw_54) (fun _ h9 => h9) rfl dX0_strengthOf_50 ?_
      refine lv_iload_n hx hb dX0_strengthOf_53 rfl (lv_at hl 2 rfl) ?_
      have h9 := inb_in (ck_t hF)
      have hF := ck_s hF
      refine va_iald hx hb hK hP 4 0 rfl rfl h9 dX0_strengthOf_54 ?_
      refine lv_isub hx hb dX0_strengthOf_55 ?_
      refine lv_imul hx hb dX0_strengthOf_56 ?_
      refine lv_bipush (v := 10) hx hb dX0_strengthOf_57 (by decide) ?_
      have h10 := nz_ne (ck_t hF)
      have hF := ck_s hF
      refine lv_idiv hx hb dX0_strengthOf_59 h10 ?_
      cases hF
      rw [hQ]
      exact jb_iret hx hb hr hlocks hP hD hS dX0_strengthOf_60 rfl (Nat.le_of_ble_eq_true rfl) (Nat.le_of_ble_eq_true rfl)
    · have hF := ob_neg c4 hF
      refine lv_iconst (v := 0) hx hb dX0_strengthOf_18 (by decide) ?_
      cases hF
      rw [hQ]
      exact jb_iret hx hb hr hlocks hP hD hS dX0_strengthOf_19 rfl (Nat.le_of_ble_eq_true rfl) (Nat.le_of_ble_eq_true rfl)
def F_X0_loadOf_L4 (b : Bv) (y1 : Int32) (k : Int32 → Int32 → Option (Int32)) : Nat → Int32 → Int32 → Option (Int32)
  | 0, _, _ => none
  | n + 1, x2, x3 => if (B_vehicles b) ≤ x3 then k x2 x3 else ck (inb x3 8) (if ¬ ((B_places b) x3.toNatClampNeg) = y1 then F_X0_loadOf_L4 b y1 k n x2 (x3 + 1) else ck (inb x3 8) (F_X0_loadOf_L4 b y1 k n (x2 + ((B_weights b) x3.toNatClampNeg)) (x3 + 1)))
def F_X0_loadOf (b : Bv) (p0 : Int32) : Option (Int32) := F_X0_loadOf_L4 b p0 (fun x1 x2 => some x1) 1000 0 0
set_option maxHeartbeats 4000000 in
set_option maxRecDepth 100000 in
theorem c_X0_loadOf (g : GG) (l : Launch) (a : Nat → Nat) (b : Bv) (p0 : Int32) (z : Int32) (hF : F_X0_loadOf b p0 = some z) : MI g l yX0_loadOf cX0_loadOf 4 (some .int) ({ frames := 0, cells := 0, slots := 0, locals := 0 } : Room) [.ref (a 0), .int p0] [wB g a b] 0 0 z [wB g a b] := by
  refine MI.bg (by decide) (Nat.le_of_ble_eq_true rfl) ?_
  intro p e s m below meth c A Q hQ hx hb hr hml hown hts hlocks hmn hK hE hA hP hD hS ls hl
  rw [F_X0_loadOf] at hF
  have hl : lv_has ls 4 [(0, .ref (a 0)), (1, .int p0)] := hl
  refine lv_iconst (v := 0) hx hb dX0_loadOf_0 (by decide) ?_
  refine lv_istore_n (lv' := [(2, .int 0), (0, .ref (a 0)), (1, .int p0)]) hx hb dX0_loadOf_1 rfl hl (by decide) rfl (fun ls hl => ?_)
  refine lv_iconst (v := 0) hx hb dX0_loadOf_2 (by decide) ?_
  refine lv_istore_n (lv' := [(3, .int 0), (2, .int 0), (0, .ref (a 0)), (1, .int p0)]) hx hb dX0_loadOf_3 rfl hl (by decide) rfl (fun ls hl => ?_)
  obtain ⟨k2, ek2, hF⟩ := ob_k (F := fun k9 => F_X0_loadOf_L4 b p0 k9 1000 0 0) hF
  have loop2 : ∀ (n9 : Nat) (x1 : Int32) (x2 : Int32), F_X0_loadOf_L4 b p0 k2 n9 x1 x2 = some z → ∀ (H : Heap) (locs : List Loc), va_P g.1 vwCl ([wB g a b] : List va_W).flatten H → va_D A ([wB g a b] : List va_W).flatten → va_S A s.heap H locs → ∀ ls : Array Slot, lv_has ls 4 [(0, .ref (a 0)), (1, .int p0), (2, .int x1), (3, .int x2)] → W p l e ({ frames := 0, cells := 0, slots := 0, locals := 0 } : Room) s m ([.ref (a 0), .int p0] : List Value).toArray below meth c H locs 0 0 Q (F0 m 4 ls []) := by
    intro n9
    induction n9 with
    | zero => intro x1 x2 hF; rw [F_X0_loadOf_L4] at hF; cases hF
    | succ n9 ih2 =>
      intro x1 x2 hF H locs hP hD hS ls hl
      rw [F_X0_loadOf_L4] at hF
      refine lv_iload_n hx hb dX0_loadOf_4 rfl (lv_at hl 3 rfl) ?_
      refine lv_aload_n hx hb dX0_loadOf_5 rfl (lv_at hl 0 rfl) ?_
      refine va_get (D := g.1) (ci := 4) (v := .int (B_vehicles b)) (C := RX0) (T := TX0) (N := 17) hx hb hts inX0 hown hK hP 0 rfl rfl 6 (by decide) (hts _ mw_59) (fun _ h9 => h9) rfl dX0_loadOf_6 ?_
      refine lv_icmp_ge (tgt := 37) hx hb dX0_loadOf_9 (by decide) (fun c3 => ?_) (fun c3 => ?_)
      · have hF := ob_pos c3 hF
        rw [ek2] at hF
        refine lv_iload_n hx hb dX0_loadOf_37 rfl (lv_at hl 2 rfl) ?_
        cases hF
        rw [hQ]
        exact jb_iret hx hb hr hlocks hP hD hS dX0_loadOf_38 rfl (Nat.le_of_ble_eq_true rfl) (Nat.le_of_ble_eq_true rfl)
      · have hF := ob_neg c3 hF
        refine lv_aload_n hx hb dX0_loadOf_12 rfl (lv_at hl 0 rfl) ?_
        refine va_get (D := g.1) (ci := 4) (v := .ref (a 8)) (C := RX0) (T := TX0) (N := 17) hx hb hts inX0 hown hK hP 0 rfl rfl 9 (by decide) (hts _ mw_66) (fun _ h9 => h9) rfl dX0_loadOf_13 ?_
        refine lv_iload_n hx hb dX0_loadOf_16 rfl (lv_at hl 3 rfl) ?_
        have h4 := inb_in (ck_t hF)
        have hF := ck_s hF
        refine va_iald hx hb hK hP 8 0 rfl rfl h4 dX0_loadOf_17 ?_
        refine lv_iload_n hx hb dX0_loadOf_18 rfl (lv_at hl 1 rfl) ?_
        refine lv_icmp_ne (tgt := 31) hx hb dX0_loadOf_19 (by decide) (fun c5 => ?_) (fun c5 => ?_)
        · have hF := ob_pos c5 hF
          refine lv_iinc (v := x2 + 1) (lv' := [(3, .int (x2 + 1)), (0, .ref (a 0)), (1, .int p0), (2, .int x1)]) hx hb dX0_loadOf_31 hl (k := 3) rfl (by rfl) (by decide) rfl (fun ls hl => ?_)
          refine lv_goto (tgt := 4) hx hb dX0_loadOf_34 (by decide) ?_
          exact ih2 _ _ hF _ _ hP hD hS ls (lv_sub hl [1, 2, 3, 0] rfl)
        · have hF := ob_nneg c5 hF
          refine lv_iload_n hx hb dX0_loadOf_22 rfl (lv_at hl 2 rfl) ?_
          refine lv_aload_n hx hb dX0_loadOf_23 rfl (lv_at hl 0 rfl) ?_
          refine va_get (D := g.1) (ci := 4) (v := .ref (a 7)) (C := RX0) (T := TX0) (N := 17) hx hb hts inX0 hown hK hP 0 rfl rfl 8 (by decide) (hts _ mw_64) (fun _ h9 => h9) rfl dX0_loadOf_24 ?_
          refine lv_iload_n hx hb dX0_loadOf_27 rfl (lv_at hl 3 rfl) ?_
          have h6 := inb_in (ck_t hF)
          have hF := ck_s hF
          refine va_iald hx hb hK hP 7 0 rfl rfl h6 dX0_loadOf_28 ?_
          refine lv_iadd hx hb dX0_loadOf_29 ?_
          refine lv_istore_n (lv' := [(2, .int (x1 + ((B_weights b) x2.toNatClampNeg))), (0, .ref (a 0)), (1, .int p0), (3, .int x2)]) hx hb dX0_loadOf_30 rfl hl (by decide) rfl (fun ls hl => ?_)
          refine lv_iinc (v := x2 + 1) (lv' := [(3, .int (x2 + 1)), (2, .int (x1 + ((B_weights b) x2.toNatClampNeg))), (0, .ref (a 0)), (1, .int p0)]) hx hb dX0_loadOf_31 hl (k := 3) rfl (by rfl) (by decide) rfl (fun ls hl => ?_)
          refine lv_goto (tgt := 4) hx hb dX0_loadOf_34 (by decide) ?_
          exact ih2 _ _ hF _ _ hP hD hS ls (lv_sub hl [2, 3, 1, 0] rfl)
  exact loop2 1000 _ _ hF _ _ hP hD hS ls (lv_sub hl [2, 3, 1, 0] rfl)
def F_X0_strains (b : Bv) (p0 : Int32) : Option (Bool) := (F_X0_loadOf b p0).bind (fun z1 => (F_X0_strengthOf b p0).bind (fun z2 => if (z1 * 5) ≤ (z2 * 4) then some false else some true))
set_option maxHeartbeats 4000000 in
set_option maxRecDepth 100000 in
theorem c_X0_strains (g : GG) (l : Launch) (a : Nat → Nat) (b : Bv) (p0 : Int32) (z : Bool) (hF : F_X0_strains b p0 = some z) : MI g l yX0_strains cX0_strains 2 (some .boolean) ({ frames := 2, cells := 0, slots := 0, locals := 43 } : Room) [.ref (a 0), .int p0] [wB g a b] 0 0 (bi z) [wB g a b] := by
  refine MI.bg (by decide) (Nat.le_of_ble_eq_true rfl) ?_
  intro p e s m below meth c A Q hQ hx hb hr hml hown hts hlocks hmn hK hE hA hP hD hS ls hl
  rw [F_X0_strains] at hF
  have hl : lv_has ls 2 [(0, .ref (a 0)), (1, .int p0)] := hl
  refine lv_aload_n hx hb dX0_strains_0 rfl (lv_at hl 0 rfl) ?_
  refine lv_iload_n hx hb dX0_strains_1 rfl (lv_at hl 1 rfl) ?_
  obtain ⟨z1, hz1, hF⟩ := ob_bind hF
  refine cl_i (csR := []) (csF := [wB g a b]) (rest := []) hx hb hml hown hts hK hE hA hl hP hD hS (c_X0_loadOf g l a b p0 z1 hz1) [0] [] [0] ⟨rfl, rfl, rfl, rfl, rfl, rfl, rfl⟩ ⟨0, 4, _, _, rfl, rfl, rfl⟩ 1 (jb_giV mw_697 mw_273 mw_274 mw_2 mw_275) ⟨rfl, rfl⟩ (by decide +kernel) ⟨⟨(Nat.le_of_ble_eq_true rfl), (Nat.le_of_ble_eq_true rfl)⟩, (Nat.le_of_ble_eq_true rfl), (Nat.le_of_ble_eq_true rfl)⟩ ⟨rfl, rfl⟩ (Nat.le_of_ble_eq_true rfl) dX0_strains_2 (fun H locs hP hD hS => ?_)
  refine lv_iconst (v := 5) hx hb dX0_strains_5 (by decide) ?_
  refine lv_imul hx hb dX0_strains_6 ?_
  refine lv_aload_n hx hb dX0_strains_7 rfl (lv_at hl 0 rfl) ?_
  refine lv_iload_n hx hb dX0_strains_8 rfl (lv_at hl 1 rfl) ?_
  obtain ⟨z2, hz2, hF⟩ := ob_bind hF
  refine cl_i (csR := []) (csF := [wB g a b]) (rest := [.int (z1 * 5)]) hx hb hml hown hts hK hE hA hl hP hD hS (c_X0_strengthOf g l a b p0 z2 hz2) [0] [] [0] ⟨rfl, rfl, rfl, rfl, rfl, rfl, rfl⟩ ⟨0, 4, _, _, rfl, rfl, rfl⟩ 1 (jb_giV mw_698 mw_285 mw_286 mw_2 mw_287) ⟨rfl, rfl⟩ (by decide +kernel) ⟨⟨(Nat.le_of_ble_eq_true rfl), (Nat.le_of_ble_eq_true rfl)⟩, (Nat.le_of_ble_eq_true rfl), (Nat.le_of_ble_eq_true rfl)⟩ ⟨rfl, rfl⟩ (Nat.le_of_ble_eq_true rfl) dX0_strains_9 (fun H locs hP hD hS => ?_)
  refine lv_iconst (v := 4) hx hb dX0_strains_12 (by decide) ?_
  refine lv_imul hx hb dX0_strains_13 ?_
  refine lv_icmp_le (tgt := 21) hx hb dX0_strains_14 (by decide) (fun c3 => ?_) (fun c3 => ?_)
  · have hF := ob_pos c3 hF
    refine lv_iconst (v := 0) hx hb dX0_strains_21 (by decide) ?_
    cases hF
    rw [hQ]
    exact jb_zret hx hb hr rfl hlocks hP hD hS dX0_strains_22 rfl (Nat.le_of_ble_eq_true rfl) (Nat.le_of_ble_eq_true rfl)
  · have hF := ob_neg c3 hF
    refine lv_iconst (v := 1) hx hb dX0_strains_17 (by decide) ?_
    refine lv_goto (tgt := 22) hx hb dX0_strains_18 (by decide) ?_
    cases hF
    rw [hQ]
    exact jb_zret hx hb hr rfl hlocks hP hD hS dX0_strains_22 rfl (Nat.le_of_ble_eq_true rfl) (Nat.le_of_ble_eq_true rfl)
def F_X0_comesBefore (b : Bv) (p0 : Int32) (p1 : Int32) : Option (Bool) := (F_X0_hasSpan b p0).bind (fun z1 => if (bi z1) = 0 then some false else (F_X0_hasSpan b p1).bind (fun z2 => if ¬ (bi z2) = 0 then (F_X0_strengthOf b p0).bind (fun z3 => (F_X0_strengthOf b p1).bind (fun z4 => if z3 = z4 then ck (inb p0 10) (ck (inb p1 10) (if ((B_cracks b) p0.toNatClampNeg) = ((B_cracks b) p1.toNatClampNeg) then if p1 ≤ p0 then some false else some true else ck (inb p0 10) (ck (inb p1 10) (if ((B_cracks b) p0.toNatClampNeg) ≤ ((B_cracks b) p1.toNatClampNeg) then some false else some true)))) else if z4 ≤ z3 then some false else some true)) else some false))
set_option maxHeartbeats 4000000 in
set_option maxRecDepth 100000 in
theorem c_X0_comesBefore (g : GG) (l : Launch) (a : Nat → Nat) (b : Bv) (p0 : Int32) (p1 : Int32) (z : Bool) (hF : F_X0_comesBefore b p0 p1 = some z) : MI g l yX0_comesBefore cX0_comesBefore 5 (some .boolean) ({ frames := 2, cells := 0, slots := 0, locals := 43 } : Room) [.ref (a 0), .int p0, .int p1] [wB g a b] 0 0 (bi z) [wB g a b] := by
  refine MI.bg (by decide) (Nat.le_of_ble_eq_true rfl) ?_
  intro p e s m below meth c A Q hQ hx hb hr hml hown hts hlocks hmn hK hE hA hP hD hS ls hl
  rw [F_X0_comesBefore] at hF
  have hl : lv_has ls 5 [(0, .ref (a 0)), (1, .int p0), (2, .int p1)] := hl
  refine lv_aload_n hx hb dX0_comesBefore_0 rfl (lv_at hl 0 rfl) ?_
  refine lv_iload_n hx hb dX0_comesBefore_1 rfl (lv_at hl 1 rfl) ?_
  obtain ⟨z1, hz1, hF⟩ := ob_bind hF
  refine cl_i (csR := []) (csF := [wB g a b]) (rest := []) hx hb hml hown hts hK hE hA hl hP hD hS (c_X0_hasSpan g l a b p0 z1 hz1) [0] [] [0] ⟨rfl, rfl, rfl, rfl, rfl, rfl, rfl⟩ ⟨0, 4, _, _, rfl, rfl, rfl⟩ 1 (jb_giV mw_288 mw_289 mw_290 mw_2 mw_291) ⟨rfl, rfl⟩ (by decide +kernel) ⟨⟨(Nat.le_of_ble_eq_true rfl), (Nat.le_of_ble_eq_true rfl)⟩, (Nat.le_of_ble_eq_true rfl), (Nat.le_of_ble_eq_true rfl)⟩ ⟨rfl, rfl⟩ (Nat.le_of_ble_eq_true rfl) dX0_comesBefore_2 (fun H locs hP hD hS => ?_)
  refine lv_if_eq (tgt := 16) hx hb dX0_comesBefore_5 (by decide) (fun c2 => ?_) (fun c2 => ?_)
  · have hF := ob_pos c2 hF
    refine lv_iconst (v := 0) hx hb dX0_comesBefore_16 (by decide) ?_
    cases hF
    rw [hQ]
    exact jb_zret hx hb hr rfl hlocks hP hD hS dX0_comesBefore_17 rfl (Nat.le_of_ble_eq_true rfl) (Nat.le_of_ble_eq_true rfl)
  · have hF := ob_neg c2 hF
    refine lv_aload_n hx hb dX0_comesBefore_8 rfl (lv_at hl 0 rfl) ?_
    refine lv_iload_n hx hb dX0_comesBefore_9 rfl (lv_at hl 2 rfl) ?_
    obtain ⟨z3, hz3, hF⟩ := ob_bind hF
    refine cl_i (csR := []) (csF := [wB g a b]) (rest := []) hx hb hml hown hts hK hE hA hl hP hD hS (c_X0_hasSpan g l a b p1 z3 hz3) [0] [] [0] ⟨rfl, rfl, rfl, rfl, rfl, rfl, rfl⟩ ⟨0, 4, _, _, rfl, rfl, rfl⟩ 1 (jb_giV mw_288 mw_289 mw_290 mw_2 mw_291) ⟨rfl, rfl⟩ (by decide +kernel) ⟨⟨(Nat.le_of_ble_eq_true rfl), (Nat.le_of_ble_eq_true rfl)⟩, (Nat.le_of_ble_eq_true rfl), (Nat.le_of_ble_eq_true rfl)⟩ ⟨rfl, rfl⟩ (Nat.le_of_ble_eq_true rfl) dX0_comesBefore_10 (fun H locs hP hD hS => ?_)
    refine lv_if_ne (tgt := 18) hx hb dX0_comesBefore_13 (by decide) (fun c4 => ?_) (fun c4 => ?_)
    · have hF := ob_pos c4 hF
      refine lv_aload_n hx hb dX0_comesBefore_18 rfl (lv_at hl 0 rfl) ?_
      refine lv_iload_n hx hb dX0_comesBefore_19 rfl (lv_at hl 1 rfl) ?_
      obtain ⟨z5, hz5, hF⟩ := ob_bind hF
      refine cl_i (csR := []) (csF := [wB g a b]) (rest := []) hx hb hml hown hts hK hE hA hl hP hD hS (c_X0_strengthOf g l a b p0 z5 hz5) [0] [] [0] ⟨rfl, rfl, rfl, rfl, rfl, rfl, rfl⟩ ⟨0, 4, _, _, rfl, rfl, rfl⟩ 1 (jb_giV mw_698 mw_285 mw_286 mw_2 mw_287) ⟨rfl, rfl⟩ (by decide +kernel) ⟨⟨(Nat.le_of_ble_eq_true rfl), (Nat.le_of_ble_eq_true rfl)⟩, (Nat.le_of_ble_eq_true rfl), (Nat.le_of_ble_eq_true rfl)⟩ ⟨rfl, rfl⟩ (Nat.le_of_ble_eq_true rfl) dX0_comesBefore_20 (fun H locs hP hD hS => ?_)
      refine lv_istore_n (lv' := [(3, .int z5), (0, .ref (a 0)), (1, .int p0), (2, .int p1)]) hx hb dX0_comesBefore_23 rfl hl (by decide) rfl (fun ls hl => ?_)
      refine lv_aload_n hx hb dX0_comesBefore_24 rfl (lv_at hl 1 rfl) ?_
      refine lv_iload_n hx hb dX0_comesBefore_25 rfl (lv_at hl 3 rfl) ?_
      obtain ⟨z6, hz6, hF⟩ := ob_bind hF
      refine cl_i (csR := []) (csF := [wB g a b]) (rest := []) hx hb hml hown hts hK hE hA hl hP hD hS (c_X0_strengthOf g l a b p1 z6 hz6) [0] [] [0] ⟨rfl, rfl, rfl, rfl, rfl, rfl, rfl⟩ ⟨0, 4, _, _, rfl, rfl, rfl⟩ 1 (jb_giV mw_698 mw_285 mw_286 mw_2 mw_287) ⟨rfl, rfl⟩ (by decide +kernel) ⟨⟨(Nat.le_of_ble_eq_true rfl), (Nat.le_of_ble_eq_true rfl)⟩, (Nat.le_of_ble_eq_true rfl), (Nat.le_of_ble_eq_true rfl)⟩ ⟨rfl, rfl⟩ (Nat.le_of_ble_eq_true rfl) dX0_comesBefore_26 (fun H locs hP hD hS => ?_)
      refine lv_istore (lv' := [(4, .int z6), (3, .int z5), (0, .ref (a 0)), (1, .int p0), (2, .int p1)]) hx hb dX0_comesBefore_29 hl (by decide) rfl (fun ls hl => ?_)
      refine lv_iload_n hx hb dX0_comesBefore_31 rfl (lv_at hl 1 rfl) ?_
      refine lv_iload hx hb dX0_comesBefore_32 (lv_at hl 0 rfl) ?_
      refine lv_icmp_eq (tgt := 49) hx hb dX0_comesBefore_34 (by decide) (fun c7 => ?_) (fun c7 => ?_)
      · have hF := ob_pos c7 hF
        refine lv_aload_n hx hb dX0_comesBefore_49 rfl (lv_at hl 2 rfl) ?_
        refine va_get (D := g.1) (ci := 4) (v := .ref (a 4)) (C := RX0) (T := TX0) (N := 17) hx hb hts inX0 hown hK hP 0 rfl rfl 4 (by decide) (hts _ mw_54) (fun _ h9 => h9) rfl dX0_comesBefore_50 ?_
        refine lv_iload_n hx hb dX0_comesBefore_53 rfl (lv_at hl 3 rfl) ?_
        have h8 := inb_in (ck_t hF)
        have hF := ck_s hF
        refine va_iald hx hb hK hP 4 0 rfl rfl h8 dX0_comesBefore_54 ?_
        refine lv_aload_n hx hb dX0_comesBefore_55 rfl (lv_at hl 2 rfl) ?_
        refine va_get (D := g.1) (ci := 4) (v := .ref (a 4)) (C := RX0) (T := TX0) (N := 17) hx hb hts inX0 hown hK hP 0 rfl rfl 4 (by decide) (hts _ mw_54) (fun _ h9 => h9) rfl dX0_comesBefore_56 ?_
        refine lv_iload_n hx hb dX0_comesBefore_59 rfl (lv_at hl 4 rfl) ?_
        have h9 := inb_in (ck_t hF)
        have hF := ck_s hF
        refine va_iald hx hb hK hP 4 0 rfl rfl h9 dX0_comesBefore_60 ?_
        refine lv_icmp_eq (tgt := 85) hx hb dX0_comesBefore_61 (by decide) (fun c10 => ?_) (fun c10 => ?_)
        · have hF := ob_pos c10 hF
          refine lv_iload_n hx hb dX0_comesBefore_85 rfl (lv_at hl 3 rfl) ?_
          refine lv_iload_n hx hb dX0_comesBefore_86 rfl (lv_at hl 4 rfl) ?_
          refine lv_icmp_ge (tgt := 94) hx hb dX0_comesBefore_87 (by decide) (fun c11 => ?_) (fun c11 => ?_)
          · have hF := ob_pos c11 hF
            refine lv_iconst (v := 0) hx hb dX0_comesBefore_94 (by decide) ?_
            cases hF
            rw [hQ]
            exact jb_zret hx hb hr rfl hlocks hP hD hS dX0_comesBefore_95 rfl (Nat.le_of_ble_eq_true rfl) (Nat.le_of_ble_eq_true rfl)
          · have hF := ob_neg c11 hF
            refine lv_iconst (v := 1) hx hb dX0_comesBefore_90 (by decide) ?_
            refine lv_goto (tgt := 95) hx hb dX0_comesBefore_91 (by decide) ?_
            cases hF
            rw [hQ]
            exact jb_zret hx hb hr rfl hlocks hP hD hS dX0_comesBefore_95 rfl (Nat.le_of_ble_eq_true rfl) (Nat.le_of_ble_eq_true rfl)
        · have hF := ob_neg c10 hF
          refine lv_aload_n hx hb dX0_comesBefore_64 rfl (lv_at hl 2 rfl) ?_
          refine va_get (D := g.1) (ci := 4) (v := .ref (a 4)) (C := RX0) (T := TX0) (N := 17) hx hb hts inX0 hown hK hP 0 rfl rfl 4 (by decide) (hts _ mw_54) (fun _ h9 => h9) rfl dX0_comesBefore_65 ?_
          refine lv_iload_n hx hb dX0_comesBefore_68 rfl (lv_at hl 3 rfl) ?_
          have h12 := inb_in (ck_t hF)
          have hF := ck_s hF
          refine va_iald hx hb hK hP 4 0 rfl rfl h12 dX0_comesBefore_69 ?_
          refine lv_aload_n hx hb dX0_comesBefore_70 rfl (lv_at hl 2 rfl) ?_
          refine va_get (D := g.1) (ci := 4) (v := .ref (a 4)) (C := RX0) (T := TX0) (N := 17) hx hb hts inX0 hown hK hP 0 rfl rfl 4 (by decide) (hts _ mw_54) (fun _ h9 => h9) rfl dX0_comesBefore_71 ?_
          refine lv_iload_n hx hb dX0_comesBefore_74 rfl (lv_at hl 4 rfl) ?_
          have h13 := inb_in (ck_t hF)
          have hF := ck_s hF
          refine va_iald hx hb hK hP 4 0 rfl rfl h13 dX0_comesBefore_75 ?_
          refine lv_icmp_le (tgt := 83) hx hb dX0_comesBefore_76 (by decide) (fun c14 => ?_) (fun c14 => ?_)
          · have hF := ob_pos c14 hF
            refine lv_iconst (v := 0) hx hb dX0_comesBefore_83 (by decide) ?_
            cases hF
            rw [hQ]
            exact jb_zret hx hb hr rfl hlocks hP hD hS dX0_comesBefore_84 rfl (Nat.le_of_ble_eq_true rfl) (Nat.le_of_ble_eq_true rfl)
          · have hF := ob_neg c14 hF
            refine lv_iconst (v := 1) hx hb dX0_comesBefore_79 (by decide) ?_
            refine lv_goto (tgt := 84) hx hb dX0_comesBefore_80 (by decide) ?_
            cases hF
            rw [hQ]
            exact jb_zret hx hb hr rfl hlocks hP hD hS dX0_comesBefore_84 rfl (Nat.le_of_ble_eq_true rfl) (Nat.le_of_ble_eq_true rfl)
      · have hF := ob_neg c7 hF
        refine lv_iload_n hx hb dX0_comesBefore_37 rfl (lv_at hl 1 rfl) ?_
        refine lv_iload hx hb dX0_comesBefore_38 (lv_at hl 0 rfl) ?_
        refine lv_icmp_ge (tgt := 47) hx hb dX0_comesBefore_40 (by decide) (fun c15 => ?_) (fun c15 => ?_)
        · have hF := ob_pos c15 hF
          refine lv_iconst (v := 0) hx hb dX0_comesBefore_47 (by decide) ?_
          cases hF
          rw [hQ]
          exact jb_zret hx hb hr rfl hlocks hP hD hS dX0_comesBefore_48 rfl (Nat.le_of_ble_eq_true rfl) (Nat.le_of_ble_eq_true rfl)
        · have hF := ob_neg c15 hF
          refine lv_iconst (v := 1) hx hb dX0_comesBefore_43 (by decide) ?_
          refine lv_goto (tgt := 48) hx hb dX0_comesBefore_44 (by decide) ?_
          cases hF
          rw [hQ]
          exact jb_zret hx hb hr rfl hlocks hP hD hS dX0_comesBefore_48 rfl (Nat.le_of_ble_eq_true rfl) (Nat.le_of_ble_eq_true rfl)
    · have hF := ob_nneg c4 hF
      refine lv_iconst (v := 0) hx hb dX0_comesBefore_16 (by decide) ?_
      cases hF
      rw [hQ]
      exact jb_zret hx hb hr rfl hlocks hP hD hS dX0_comesBefore_17 rfl (Nat.le_of_ble_eq_true rfl) (Nat.le_of_ble_eq_true rfl)
def F_X0_rankOf_L4 (b : Bv) (y1 : Int32) (k : Int32 → Int32 → Option (Int32)) : Nat → Int32 → Int32 → Option (Int32)
  | 0, _, _ => none
  | n + 1, x2, x3 => if (B_spans b) ≤ x3 then k x2 x3 else if x3 = y1 then F_X0_rankOf_L4 b y1 k n x2 (x3 + 1) else (F_X0_comesBefore b x3 y1).bind (fun z1 => if (bi z1) = 0 then F_X0_rankOf_L4 b y1 k n x2 (x3 + 1) else F_X0_rankOf_L4 b y1 k n (x2 + 1) (x3 + 1))
def F_X0_rankOf (b : Bv) (p0 : Int32) : Option (Int32) := F_X0_rankOf_L4 b p0 (fun x2 x3 => some x2) 1000 0 0
set_option maxHeartbeats 4000000 in
set_option maxRecDepth 100000 in
theorem c_X0_rankOf (g : GG) (l : Launch) (a : Nat → Nat) (b : Bv) (p0 : Int32) (z : Int32) (hF : F_X0_rankOf b p0 = some z) : MI g l yX0_rankOf cX0_rankOf 4 (some .int) ({ frames := 3, cells := 0, slots := 0, locals := 67 } : Room) [.ref (a 0), .int p0] [wB g a b] 0 0 z [wB g a b] := by
  refine MI.bg (by decide) (Nat.le_of_ble_eq_true rfl) ?_
  intro p e s m below meth c A Q hQ hx hb hr hml hown hts hlocks hmn hK hE hA hP hD hS ls hl
  rw [F_X0_rankOf] at hF
  have hl : lv_has ls 4 [(0, .ref (a 0)), (1, .int p0)] := hl
  refine lv_iconst (v := 0) hx hb dX0_rankOf_0 (by decide) ?_
  refine lv_istore_n (lv' := [(2, .int 0), (0, .ref (a 0)), (1, .int p0)]) hx hb dX0_rankOf_1 rfl hl (by decide) rfl (fun ls hl => ?_)
  refine lv_iconst (v := 0) hx hb dX0_rankOf_2 (by decide) ?_
  refine lv_istore_n (lv' := [(3, .int 0), (2, .int 0), (0, .ref (a 0)), (1, .int p0)]) hx hb dX0_rankOf_3 rfl hl (by decide) rfl (fun ls hl => ?_)
  obtain ⟨k2, ek2, hF⟩ := ob_k (F := fun k9 => F_X0_rankOf_L4 b p0 k9 1000 0 0) hF
  have loop2 : ∀ (n9 : Nat) (x1 : Int32) (x2 : Int32), F_X0_rankOf_L4 b p0 k2 n9 x1 x2 = some z → ∀ (H : Heap) (locs : List Loc), va_P g.1 vwCl ([wB g a b] : List va_W).flatten H → va_D A ([wB g a b] : List va_W).flatten → va_S A s.heap H locs → ∀ ls : Array Slot, lv_has ls 4 [(0, .ref (a 0)), (1, .int p0), (2, .int x1), (3, .int x2)] → W p l e ({ frames := 3, cells := 0, slots := 0, locals := 67 } : Room) s m ([.ref (a 0), .int p0] : List Value).toArray below meth c H locs 0 0 Q (F0 m 4 ls []) := by
    intro n9
    induction n9 with
    | zero => intro x1 x2 hF; rw [F_X0_rankOf_L4] at hF; cases hF
    | succ n9 ih2 =>
      intro x1 x2 hF H locs hP hD hS ls hl
      rw [F_X0_rankOf_L4] at hF
      refine lv_iload_n hx hb dX0_rankOf_4 rfl (lv_at hl 3 rfl) ?_
      refine lv_aload_n hx hb dX0_rankOf_5 rfl (lv_at hl 0 rfl) ?_
      refine va_get (D := g.1) (ci := 4) (v := .int (B_spans b)) (C := RX0) (T := TX0) (N := 17) hx hb hts inX0 hown hK hP 0 rfl rfl 0 (by decide) (hts _ mw_44) (fun _ h9 => h9) rfl dX0_rankOf_6 ?_
      refine lv_icmp_ge (tgt := 35) hx hb dX0_rankOf_9 (by decide) (fun c3 => ?_) (fun c3 => ?_)
      · have hF := ob_pos c3 hF
        rw [ek2] at hF
        refine lv_iload_n hx hb dX0_rankOf_35 rfl (lv_at hl 2 rfl) ?_
        cases hF
        rw [hQ]
        exact jb_iret hx hb hr hlocks hP hD hS dX0_rankOf_36 rfl (Nat.le_of_ble_eq_true rfl) (Nat.le_of_ble_eq_true rfl)
      · have hF := ob_neg c3 hF
        refine lv_iload_n hx hb dX0_rankOf_12 rfl (lv_at hl 3 rfl) ?_
        refine lv_iload_n hx hb dX0_rankOf_13 rfl (lv_at hl 1 rfl) ?_
        refine lv_icmp_eq (tgt := 29) hx hb dX0_rankOf_14 (by decide) (fun c4 => ?_) (fun c4 => ?_)
        · have hF := ob_pos c4 hF
          refine lv_iinc (v := x2 + 1) (lv' := [(3, .int (x2 + 1)), (0, .ref (a 0)), (1, .int p0), (2, .int x1)]) hx hb dX0_rankOf_29 hl (k := 3) rfl (by rfl) (by decide) rfl (fun ls hl => ?_)
          refine lv_goto (tgt := 4) hx hb dX0_rankOf_32 (by decide) ?_
          exact ih2 _ _ hF _ _ hP hD hS ls (lv_sub hl [1, 2, 3, 0] rfl)
        · have hF := ob_neg c4 hF
          refine lv_aload_n hx hb dX0_rankOf_17 rfl (lv_at hl 0 rfl) ?_
          refine lv_iload_n hx hb dX0_rankOf_18 rfl (lv_at hl 3 rfl) ?_
          refine lv_iload_n hx hb dX0_rankOf_19 rfl (lv_at hl 1 rfl) ?_
          obtain ⟨z5, hz5, hF⟩ := ob_bind hF
          refine cl_i (csR := []) (csF := [wB g a b]) (rest := []) hx hb hml hown hts hK hE hA hl hP hD hS (c_X0_comesBefore g l a b x2 p0 z5 hz5) [0] [] [0] ⟨rfl, rfl, rfl, rfl, rfl, rfl, rfl⟩ ⟨0, 4, _, _, rfl, rfl, rfl⟩ 2 (jb_giV mw_949 mw_951 ms_13 mw_2 mw_952) ⟨rfl, rfl⟩ (by decide +kernel) ⟨⟨(Nat.le_of_ble_eq_true rfl), (Nat.le_of_ble_eq_true rfl)⟩, (Nat.le_of_ble_eq_true rfl), (Nat.le_of_ble_eq_true rfl)⟩ ⟨rfl, rfl⟩ (Nat.le_of_ble_eq_true rfl) dX0_rankOf_20 (fun H locs hP hD hS => ?_)
          refine lv_if_eq (tgt := 29) hx hb dX0_rankOf_23 (by decide) (fun c6 => ?_) (fun c6 => ?_)
          · have hF := ob_pos c6 hF
            refine lv_iinc (v := x2 + 1) (lv' := [(3, .int (x2 + 1)), (0, .ref (a 0)), (1, .int p0), (2, .int x1)]) hx hb dX0_rankOf_29 hl (k := 3) rfl (by rfl) (by decide) rfl (fun ls hl => ?_)
            refine lv_goto (tgt := 4) hx hb dX0_rankOf_32 (by decide) ?_
            exact ih2 _ _ hF _ _ hP hD hS ls (lv_sub hl [1, 2, 3, 0] rfl)
          · have hF := ob_neg c6 hF
            refine lv_iinc (v := x1 + 1) (lv' := [(2, .int (x1 + 1)), (0, .ref (a 0)), (1, .int p0), (3, .int x2)]) hx hb dX0_rankOf_26 hl (k := 2) rfl (by rfl) (by decide) rfl (fun ls hl => ?_)
            refine lv_iinc (v := x2 + 1) (lv' := [(3, .int (x2 + 1)), (2, .int (x1 + 1)), (0, .ref (a 0)), (1, .int p0)]) hx hb dX0_rankOf_29 hl (k := 3) rfl (by rfl) (by decide) rfl (fun ls hl => ?_)
            refine lv_goto (tgt := 4) hx hb dX0_rankOf_32 (by decide) ?_
            exact ih2 _ _ hF _ _ hP hD hS ls (lv_sub hl [2, 3, 1, 0] rfl)
  exact loop2 1000 _ _ hF _ _ hP hD hS ls (lv_sub hl [2, 3, 1, 0] rfl)
def F_X0_positionOf_L2 (b : Bv) (y1 : Int32) (k : Int32 → Option (Int32)) : Nat → Int32 → Option (Int32)
  | 0, _ => none
  | n + 1, x2 => if (B_vehicles b) ≤ x2 then k x2 else ck (inb x2 8) (if ¬ ((B_numbers b) x2.toNatClampNeg) = y1 then F_X0_positionOf_L2 b y1 k n (x2 + 1) else some x2)
def F_X0_positionOf (b : Bv) (p0 : Int32) : Option (Int32) := F_X0_positionOf_L2 b p0 (fun x1 => some (-1)) 1000 0
set_option maxHeartbeats 4000000 in
set_option maxRecDepth 100000 in
theorem c_X0_positionOf (g : GG) (l : Launch) (a : Nat → Nat) (b : Bv) (p0 : Int32) (z : Int32) (hF : F_X0_positionOf b p0 = some z) : MI g l yX0_positionOf cX0_positionOf 3 (some .int) ({ frames := 0, cells := 0, slots := 0, locals := 0 } : Room) [.ref (a 0), .int p0] [wB g a b] 0 0 z [wB g a b] := by
  refine MI.bg (by decide) (Nat.le_of_ble_eq_true rfl) ?_
  intro p e s m below meth c A Q hQ hx hb hr hml hown hts hlocks hmn hK hE hA hP hD hS ls hl
  rw [F_X0_positionOf] at hF
  have hl : lv_has ls 3 [(0, .ref (a 0)), (1, .int p0)] := hl
  refine lv_iconst (v := 0) hx hb dX0_positionOf_0 (by decide) ?_
  refine lv_istore_n (lv' := [(2, .int 0), (0, .ref (a 0)), (1, .int p0)]) hx hb dX0_positionOf_1 rfl hl (by decide) rfl (fun ls hl => ?_)
  obtain ⟨k1, ek1, hF⟩ := ob_k (F := fun k9 => F_X0_positionOf_L2 b p0 k9 1000 0) hF
  have loop1 : ∀ (n9 : Nat) (x1 : Int32), F_X0_positionOf_L2 b p0 k1 n9 x1 = some z → ∀ (H : Heap) (locs : List Loc), va_P g.1 vwCl ([wB g a b] : List va_W).flatten H → va_D A ([wB g a b] : List va_W).flatten → va_S A s.heap H locs → ∀ ls : Array Slot, lv_has ls 3 [(0, .ref (a 0)), (1, .int p0), (2, .int x1)] → W p l e ({ frames := 0, cells := 0, slots := 0, locals := 0 } : Room) s m ([.ref (a 0), .int p0] : List Value).toArray below meth c H locs 0 0 Q (F0 m 2 ls []) := by
    intro n9
    induction n9 with
    | zero => intro x1 hF; rw [F_X0_positionOf_L2] at hF; cases hF
    | succ n9 ih1 =>
      intro x1 hF H locs hP hD hS ls hl
      rw [F_X0_positionOf_L2] at hF
      refine lv_iload_n hx hb dX0_positionOf_2 rfl (lv_at hl 2 rfl) ?_
      refine lv_aload_n hx hb dX0_positionOf_3 rfl (lv_at hl 0 rfl) ?_
      refine va_get (D := g.1) (ci := 4) (v := .int (B_vehicles b)) (C := RX0) (T := TX0) (N := 17) hx hb hts inX0 hown hK hP 0 rfl rfl 6 (by decide) (hts _ mw_59) (fun _ h9 => h9) rfl dX0_positionOf_4 ?_
      refine lv_icmp_ge (tgt := 28) hx hb dX0_positionOf_7 (by decide) (fun c2 => ?_) (fun c2 => ?_)
      · have hF := ob_pos c2 hF
        rw [ek1] at hF
        refine lv_iconst (v := (-1)) hx hb dX0_positionOf_28 (by decide) ?_
        cases hF
        rw [hQ]
        exact jb_iret hx hb hr hlocks hP hD hS dX0_positionOf_29 rfl (Nat.le_of_ble_eq_true rfl) (Nat.le_of_ble_eq_true rfl)
      · have hF := ob_neg c2 hF
        refine lv_aload_n hx hb dX0_positionOf_10 rfl (lv_at hl 0 rfl) ?_
        refine va_get (D := g.1) (ci := 4) (v := .ref (a 6)) (C := RX0) (T := TX0) (N := 17) hx hb hts inX0 hown hK hP 0 rfl rfl 7 (by decide) (hts _ mw_62) (fun _ h9 => h9) rfl dX0_positionOf_11 ?_
        refine lv_iload_n hx hb dX0_positionOf_14 rfl (lv_at hl 2 rfl) ?_
        have h3 := inb_in (ck_t hF)
        have hF := ck_s hF
        refine va_iald hx hb hK hP 6 0 rfl rfl h3 dX0_positionOf_15 ?_
        refine lv_iload_n hx hb dX0_positionOf_16 rfl (lv_at hl 1 rfl) ?_
        refine lv_icmp_ne (tgt := 22) hx hb dX0_positionOf_17 (by decide) (fun c4 => ?_) (fun c4 => ?_)
        · have hF := ob_pos c4 hF
          refine lv_iinc (v := x1 + 1) (lv' := [(2, .int (x1 + 1)), (0, .ref (a 0)), (1, .int p0)]) hx hb dX0_positionOf_22 hl (k := 2) rfl (by rfl) (by decide) rfl (fun ls hl => ?_)
          refine lv_goto (tgt := 2) hx hb dX0_positionOf_25 (by decide) ?_
          exact ih1 _ hF _ _ hP hD hS ls (lv_sub hl [1, 2, 0] rfl)
        · have hF := ob_nneg c4 hF
          refine lv_iload_n hx hb dX0_positionOf_20 rfl (lv_at hl 2 rfl) ?_
          cases hF
          rw [hQ]
          exact jb_iret hx hb hr hlocks hP hD hS dX0_positionOf_21 rfl (Nat.le_of_ble_eq_true rfl) (Nat.le_of_ble_eq_true rfl)
  exact loop1 1000 _ hF _ _ hP hD hS ls (lv_sub hl [1, 2, 0] rfl)
def F_X0_isOnLastSpan (b : Bv) (p0 : Int32) : Option (Bool) := (F_X0_hasPosition b p0).bind (fun z1 => if (bi z1) = 0 then some false else ck (inb p0 8) (if ¬ ((B_places b) p0.toNatClampNeg) = ((B_spans b) - 1) then some false else some true))
set_option maxHeartbeats 4000000 in
set_option maxRecDepth 100000 in
theorem c_X0_isOnLastSpan (g : GG) (l : Launch) (a : Nat → Nat) (b : Bv) (p0 : Int32) (z : Bool) (hF : F_X0_isOnLastSpan b p0 = some z) : MI g l yX0_isOnLastSpan cX0_isOnLastSpan 2 (some .boolean) ({ frames := 1, cells := 0, slots := 0, locals := 21 } : Room) [.ref (a 0), .int p0] [wB g a b] 0 0 (bi z) [wB g a b] := by
  refine MI.bg (by decide) (Nat.le_of_ble_eq_true rfl) ?_
  intro p e s m below meth c A Q hQ hx hb hr hml hown hts hlocks hmn hK hE hA hP hD hS ls hl
  rw [F_X0_isOnLastSpan] at hF
  have hl : lv_has ls 2 [(0, .ref (a 0)), (1, .int p0)] := hl
  refine lv_aload_n hx hb dX0_isOnLastSpan_0 rfl (lv_at hl 0 rfl) ?_
  refine lv_iload_n hx hb dX0_isOnLastSpan_1 rfl (lv_at hl 1 rfl) ?_
  obtain ⟨z1, hz1, hF⟩ := ob_bind hF
  refine cl_i (csR := []) (csF := [wB g a b]) (rest := []) hx hb hml hown hts hK hE hA hl hP hD hS (c_X0_hasPosition g l a b p0 z1 hz1) [0] [] [0] ⟨rfl, rfl, rfl, rfl, rfl, rfl, rfl⟩ ⟨0, 4, _, _, rfl, rfl, rfl⟩ 1 (jb_giV mw_988 mw_989 mw_990 mw_2 mw_991) ⟨rfl, rfl⟩ (by decide +kernel) ⟨⟨(Nat.le_of_ble_eq_true rfl), (Nat.le_of_ble_eq_true rfl)⟩, (Nat.le_of_ble_eq_true rfl), (Nat.le_of_ble_eq_true rfl)⟩ ⟨rfl, rfl⟩ (Nat.le_of_ble_eq_true rfl) dX0_isOnLastSpan_2 (fun H locs hP hD hS => ?_)
  refine lv_if_eq (tgt := 27) hx hb dX0_isOnLastSpan_5 (by decide) (fun c2 => ?_) (fun c2 => ?_)
  · have hF := ob_pos c2 hF
    refine lv_iconst (v := 0) hx hb dX0_isOnLastSpan_27 (by decide) ?_
    cases hF
    rw [hQ]
    exact jb_zret hx hb hr rfl hlocks hP hD hS dX0_isOnLastSpan_28 rfl (Nat.le_of_ble_eq_true rfl) (Nat.le_of_ble_eq_true rfl)
  · have hF := ob_neg c2 hF
    refine lv_aload_n hx hb dX0_isOnLastSpan_8 rfl (lv_at hl 0 rfl) ?_
    refine va_get (D := g.1) (ci := 4) (v := .ref (a 8)) (C := RX0) (T := TX0) (N := 17) hx hb hts inX0 hown hK hP 0 rfl rfl 9 (by decide) (hts _ mw_66) (fun _ h9 => h9) rfl dX0_isOnLastSpan_9 ?_
    refine lv_iload_n hx hb dX0_isOnLastSpan_12 rfl (lv_at hl 1 rfl) ?_
    have h3 := inb_in (ck_t hF)
    have hF := ck_s hF
    refine va_iald hx hb hK hP 8 0 rfl rfl h3 dX0_isOnLastSpan_13 ?_
    refine lv_aload_n hx hb dX0_isOnLastSpan_14 rfl (lv_at hl 0 rfl) ?_
    refine va_get (D := g.1) (ci := 4) (v := .int (B_spans b)) (C := RX0) (T := TX0) (N := 17) hx hb hts inX0 hown hK hP 0 rfl rfl 0 (by decide) (hts _ mw_44) (fun _ h9 => h9) rfl dX0_isOnLastSpan_15 ?_
    refine lv_iconst (v := 1) hx hb dX0_isOnLastSpan_18 (by decide) ?_
    refine lv_isub hx hb dX0_isOnLastSpan_19 ?_
    refine lv_icmp_ne (tgt := 27) hx hb dX0_isOnLastSpan_20 (by decide) (fun c4 => ?_) (fun c4 => ?_)
    · have hF := ob_pos c4 hF
      refine lv_iconst (v := 0) hx hb dX0_isOnLastSpan_27 (by decide) ?_
      cases hF
      rw [hQ]
      exact jb_zret hx hb hr rfl hlocks hP hD hS dX0_isOnLastSpan_28 rfl (Nat.le_of_ble_eq_true rfl) (Nat.le_of_ble_eq_true rfl)
    · have hF := ob_nneg c4 hF
      refine lv_iconst (v := 1) hx hb dX0_isOnLastSpan_23 (by decide) ?_
      refine lv_goto (tgt := 28) hx hb dX0_isOnLastSpan_24 (by decide) ?_
      cases hF
      rw [hQ]
      exact jb_zret hx hb hr rfl hlocks hP hD hS dX0_isOnLastSpan_28 rfl (Nat.le_of_ble_eq_true rfl) (Nat.le_of_ble_eq_true rfl)
def F_X0_tollAt (b : Bv) (p0 : Int32) : Option (Int32) := (F_X0_hasPosition b p0).bind (fun z1 => if (bi z1) = 0 then some 0 else ck (inb p0 8) (ck (nz 10) (some (((((B_weights b) p0.toNatClampNeg) * (B_rate b)) + 9) / 10))))
set_option maxHeartbeats 4000000 in
set_option maxRecDepth 100000 in
theorem c_X0_tollAt (g : GG) (l : Launch) (a : Nat → Nat) (b : Bv) (p0 : Int32) (z : Int32) (hF : F_X0_tollAt b p0 = some z) : MI g l yX0_tollAt cX0_tollAt 2 (some .int) ({ frames := 1, cells := 0, slots := 0, locals := 21 } : Room) [.ref (a 0), .int p0] [wB g a b] 0 0 z [wB g a b] := by
  refine MI.bg (by decide) (Nat.le_of_ble_eq_true rfl) ?_
  intro p e s m below meth c A Q hQ hx hb hr hml hown hts hlocks hmn hK hE hA hP hD hS ls hl
  rw [F_X0_tollAt] at hF
  have hl : lv_has ls 2 [(0, .ref (a 0)), (1, .int p0)] := hl
  refine lv_aload_n hx hb dX0_tollAt_0 rfl (lv_at hl 0 rfl) ?_
  refine lv_iload_n hx hb dX0_tollAt_1 rfl (lv_at hl 1 rfl) ?_
  obtain ⟨z1, hz1, hF⟩ := ob_bind hF
  refine cl_i (csR := []) (csF := [wB g a b]) (rest := []) hx hb hml hown hts hK hE hA hl hP hD hS (c_X0_hasPosition g l a b p0 z1 hz1) [0] [] [0] ⟨rfl, rfl, rfl, rfl, rfl, rfl, rfl⟩ ⟨0, 4, _, _, rfl, rfl, rfl⟩ 1 (jb_giV mw_988 mw_989 mw_990 mw_2 mw_991) ⟨rfl, rfl⟩ (by decide +kernel) ⟨⟨(Nat.le_of_ble_eq_true rfl), (Nat.le_of_ble_eq_true rfl)⟩, (Nat.le_of_ble_eq_true rfl), (Nat.le_of_ble_eq_true rfl)⟩ ⟨rfl, rfl⟩ (Nat.le_of_ble_eq_true rfl) dX0_tollAt_2 (fun H locs hP hD hS => ?_)
  refine lv_if_eq (tgt := 28) hx hb dX0_tollAt_5 (by decide) (fun c2 => ?_) (fun c2 => ?_)
  · have hF := ob_pos c2 hF
    refine lv_iconst (v := 0) hx hb dX0_tollAt_28 (by decide) ?_
    cases hF
    rw [hQ]
    exact jb_iret hx hb hr hlocks hP hD hS dX0_tollAt_29 rfl (Nat.le_of_ble_eq_true rfl) (Nat.le_of_ble_eq_true rfl)
  · have hF := ob_neg c2 hF
    refine lv_aload_n hx hb dX0_tollAt_8 rfl (lv_at hl 0 rfl) ?_
    refine va_get (D := g.1) (ci := 4) (v := .ref (a 7)) (C := RX0) (T := TX0) (N := 17) hx hb hts inX0 hown hK hP 0 rfl rfl 8 (by decide) (hts _ mw_64) (fun _ h9 => h9) rfl dX0_tollAt_9 ?_
    refine lv_iload_n hx hb dX0_tollAt_12 rfl (lv_at hl 1 rfl) ?_
    have h3 := inb_in (ck_t hF)
    have hF := ck_s hF
    refine va_iald hx hb hK hP 7 0 rfl rfl h3 dX0_tollAt_13 ?_
    refine lv_aload_n hx hb dX0_tollAt_14 rfl (lv_at hl 0 rfl) ?_
    refine va_get (D := g.1) (ci := 4) (v := .int (B_rate b)) (C := RX0) (T := TX0) (N := 17) hx hb hts inX0 hown hK hP 0 rfl rfl 12 (by decide) (hts _ mw_72) (fun _ h9 => h9) rfl dX0_tollAt_15 ?_
    refine lv_imul hx hb dX0_tollAt_18 ?_
    refine lv_bipush (v := 9) hx hb dX0_tollAt_19 (by decide) ?_
    refine lv_iadd hx hb dX0_tollAt_21 ?_
    refine lv_bipush (v := 10) hx hb dX0_tollAt_22 (by decide) ?_
    have h4 := nz_ne (ck_t hF)
    have hF := ck_s hF
    refine lv_idiv hx hb dX0_tollAt_24 h4 ?_
    refine lv_goto (tgt := 29) hx hb dX0_tollAt_25 (by decide) ?_
    cases hF
    rw [hQ]
    exact jb_iret hx hb hr hlocks hP hD hS dX0_tollAt_29 rfl (Nat.le_of_ble_eq_true rfl) (Nat.le_of_ble_eq_true rfl)
def F_X0_appendSpan (b : Bv) (p0 : Int32) : Option (Int32 × Bv) := if (B_spans b) < 10 then ck (inb (B_spans b) 10) (ck (inb (B_spans b) 10) (ck (inb (B_spans b) 10) (ck (inb (B_spans b) 10) (ck (inb (B_spans b) 10) (some (B_spans b, (mkB ((B_spans b) + 1) (upd (B_lengths b) (B_spans b).toNatClampNeg p0) (upd (B_jars b) (B_spans b).toNatClampNeg 0) (upd (B_ages b) (B_spans b).toNatClampNeg 0) (upd (B_cracks b) (B_spans b).toNatClampNeg 0) (upd (B_stresses b) (B_spans b).toNatClampNeg 0) (B_vehicles b) (B_numbers b) (B_weights b) (B_places b) (B_nextNumber b) (B_hour b) (B_rate b) (B_till b) (B_paid b) (B_crossed b) (B_sunk b)))))))) else some ((-1), b)
set_option maxHeartbeats 4000000 in
set_option maxRecDepth 100000 in
theorem c_X0_appendSpan (g : GG) (l : Launch) (a : Nat → Nat) (b : Bv) (p0 : Int32) (z : Int32 × Bv) (hF : F_X0_appendSpan b p0 = some z) : MI g l yX0_appendSpan cX0_appendSpan 3 (some .int) ({ frames := 0, cells := 0, slots := 0, locals := 0 } : Room) [.ref (a 0), .int p0] [wB g a b] 0 0 z.1 [wB g a z.2] := by
  refine MI.bg (by decide) (Nat.le_of_ble_eq_true rfl) ?_
  intro p e s m below meth c A Q hQ hx hb hr hml hown hts hlocks hmn hK hE hA hP hD hS ls hl
  rw [F_X0_appendSpan] at hF
  have hl : lv_has ls 3 [(0, .ref (a 0)), (1, .int p0)] := hl
  refine lv_aload_n hx hb dX0_appendSpan_0 rfl (lv_at hl 0 rfl) ?_
  refine va_get (D := g.1) (ci := 4) (v := .int (B_spans b)) (C := RX0) (T := TX0) (N := 17) hx hb hts inX0 hown hK hP 0 rfl rfl 0 (by decide) (hts _ mw_44) (fun _ h9 => h9) rfl dX0_appendSpan_1 ?_
  refine lv_istore_n (lv' := [(2, .int (B_spans b)), (0, .ref (a 0)), (1, .int p0)]) hx hb dX0_appendSpan_4 rfl hl (by decide) rfl (fun ls hl => ?_)
  refine lv_iload_n hx hb dX0_appendSpan_5 rfl (lv_at hl 0 rfl) ?_
  refine lv_bipush (v := 10) hx hb dX0_appendSpan_6 (by decide) ?_
  refine lv_icmp_lt (tgt := 13) hx hb dX0_appendSpan_8 (by decide) (fun c1 => ?_) (fun c1 => ?_)
  · have hF := ob_pos c1 hF
    refine lv_aload_n hx hb dX0_appendSpan_13 rfl (lv_at hl 1 rfl) ?_
    refine va_get (D := g.1) (ci := 4) (v := .ref (a 1)) (C := RX0) (T := TX0) (N := 17) hx hb hts inX0 hown hK hP 0 rfl rfl 1 (by decide) (hts _ mw_47) (fun _ h9 => h9) rfl dX0_appendSpan_14 ?_
    refine lv_iload_n hx hb dX0_appendSpan_17 rfl (lv_at hl 0 rfl) ?_
    refine lv_iload_n hx hb dX0_appendSpan_18 rfl (lv_at hl 2 rfl) ?_
    have h2 := inb_in (ck_t hF)
    have hF := ck_s hF
    refine va_iast hx hb hK hP hD hS 1 0 rfl rfl h2 dX0_appendSpan_19 (fun H locs hP hD hS => ?_)
    have hP : va_P g.1 vwCl ([wBc g a (B_spans b) (upd (B_lengths b) (B_spans b).toNatClampNeg p0) (B_jars b) (B_ages b) (B_cracks b) (B_stresses b) (B_vehicles b) (B_numbers b) (B_weights b) (B_places b) (B_nextNumber b) (B_hour b) (B_rate b) (B_till b) (B_paid b) (B_crossed b) (B_sunk b)] : List va_W).flatten _ := hP
    have hD : va_D A ([wBc g a (B_spans b) (upd (B_lengths b) (B_spans b).toNatClampNeg p0) (B_jars b) (B_ages b) (B_cracks b) (B_stresses b) (B_vehicles b) (B_numbers b) (B_weights b) (B_places b) (B_nextNumber b) (B_hour b) (B_rate b) (B_till b) (B_paid b) (B_crossed b) (B_sunk b)] : List va_W).flatten := hD
    refine lv_aload_n hx hb dX0_appendSpan_20 rfl (lv_at hl 1 rfl) ?_
    refine va_get (D := g.1) (ci := 4) (v := .ref (a 2)) (C := RX0) (T := TX0) (N := 17) hx hb hts inX0 hown hK hP 0 rfl rfl 2 (by decide) (hts _ mw_49) (fun _ h9 => h9) rfl dX0_appendSpan_21 ?_
    refine lv_iload_n hx hb dX0_appendSpan_24 rfl (lv_at hl 0 rfl) ?_
    refine lv_iconst (v := 0) hx hb dX0_appendSpan_25 (by decide) ?_
    have h3 := inb_in (ck_t hF)
    have hF := ck_s hF
    refine va_iast hx hb hK hP hD hS 2 0 rfl rfl h3 dX0_appendSpan_26 (fun H locs hP hD hS => ?_)
    have hP : va_P g.1 vwCl ([wBc g a (B_spans b) (upd (B_lengths b) (B_spans b).toNatClampNeg p0) (upd (B_jars b) (B_spans b).toNatClampNeg 0) (B_ages b) (B_cracks b) (B_stresses b) (B_vehicles b) (B_numbers b) (B_weights b) (B_places b) (B_nextNumber b) (B_hour b) (B_rate b) (B_till b) (B_paid b) (B_crossed b) (B_sunk b)] : List va_W).flatten _ := hP
    have hD : va_D A ([wBc g a (B_spans b) (upd (B_lengths b) (B_spans b).toNatClampNeg p0) (upd (B_jars b) (B_spans b).toNatClampNeg 0) (B_ages b) (B_cracks b) (B_stresses b) (B_vehicles b) (B_numbers b) (B_weights b) (B_places b) (B_nextNumber b) (B_hour b) (B_rate b) (B_till b) (B_paid b) (B_crossed b) (B_sunk b)] : List va_W).flatten := hD
    refine lv_aload_n hx hb dX0_appendSpan_27 rfl (lv_at hl 1 rfl) ?_
    refine va_get (D := g.1) (ci := 4) (v := .ref (a 3)) (C := RX0) (T := TX0) (N := 17) hx hb hts inX0 hown hK hP 0 rfl rfl 3 (by decide) (hts _ mw_52) (fun _ h9 => h9) rfl dX0_appendSpan_28 ?_
    refine lv_iload_n hx hb dX0_appendSpan_31 rfl (lv_at hl 0 rfl) ?_
    refine lv_iconst (v := 0) hx hb dX0_appendSpan_32 (by decide) ?_
    have h4 := inb_in (ck_t hF)
    have hF := ck_s hF
    refine va_iast hx hb hK hP hD hS 3 0 rfl rfl h4 dX0_appendSpan_33 (fun H locs hP hD hS => ?_)
    have hP : va_P g.1 vwCl ([wBc g a (B_spans b) (upd (B_lengths b) (B_spans b).toNatClampNeg p0) (upd (B_jars b) (B_spans b).toNatClampNeg 0) (upd (B_ages b) (B_spans b).toNatClampNeg 0) (B_cracks b) (B_stresses b) (B_vehicles b) (B_numbers b) (B_weights b) (B_places b) (B_nextNumber b) (B_hour b) (B_rate b) (B_till b) (B_paid b) (B_crossed b) (B_sunk b)] : List va_W).flatten _ := hP
    have hD : va_D A ([wBc g a (B_spans b) (upd (B_lengths b) (B_spans b).toNatClampNeg p0) (upd (B_jars b) (B_spans b).toNatClampNeg 0) (upd (B_ages b) (B_spans b).toNatClampNeg 0) (B_cracks b) (B_stresses b) (B_vehicles b) (B_numbers b) (B_weights b) (B_places b) (B_nextNumber b) (B_hour b) (B_rate b) (B_till b) (B_paid b) (B_crossed b) (B_sunk b)] : List va_W).flatten := hD
    refine lv_aload_n hx hb dX0_appendSpan_34 rfl (lv_at hl 1 rfl) ?_
    refine va_get (D := g.1) (ci := 4) (v := .ref (a 4)) (C := RX0) (T := TX0) (N := 17) hx hb hts inX0 hown hK hP 0 rfl rfl 4 (by decide) (hts _ mw_54) (fun _ h9 => h9) rfl dX0_appendSpan_35 ?_
    refine lv_iload_n hx hb dX0_appendSpan_38 rfl (lv_at hl 0 rfl) ?_
    refine lv_iconst (v := 0) hx hb dX0_appendSpan_39 (by decide) ?_
    have h5 := inb_in (ck_t hF)
    have hF := ck_s hF
    refine va_iast hx hb hK hP hD hS 4 0 rfl rfl h5 dX0_appendSpan_40 (fun H locs hP hD hS => ?_)
    have hP : va_P g.1 vwCl ([wBc g a (B_spans b) (upd (B_lengths b) (B_spans b).toNatClampNeg p0) (upd (B_jars b) (B_spans b).toNatClampNeg 0) (upd (B_ages b) (B_spans b).toNatClampNeg 0) (upd (B_cracks b) (B_spans b).toNatClampNeg 0) (B_stresses b) (B_vehicles b) (B_numbers b) (B_weights b) (B_places b) (B_nextNumber b) (B_hour b) (B_rate b) (B_till b) (B_paid b) (B_crossed b) (B_sunk b)] : List va_W).flatten _ := hP
    have hD : va_D A ([wBc g a (B_spans b) (upd (B_lengths b) (B_spans b).toNatClampNeg p0) (upd (B_jars b) (B_spans b).toNatClampNeg 0) (upd (B_ages b) (B_spans b).toNatClampNeg 0) (upd (B_cracks b) (B_spans b).toNatClampNeg 0) (B_stresses b) (B_vehicles b) (B_numbers b) (B_weights b) (B_places b) (B_nextNumber b) (B_hour b) (B_rate b) (B_till b) (B_paid b) (B_crossed b) (B_sunk b)] : List va_W).flatten := hD
    refine lv_aload_n hx hb dX0_appendSpan_41 rfl (lv_at hl 1 rfl) ?_
    refine va_get (D := g.1) (ci := 4) (v := .ref (a 5)) (C := RX0) (T := TX0) (N := 17) hx hb hts inX0 hown hK hP 0 rfl rfl 5 (by decide) (hts _ mw_57) (fun _ h9 => h9) rfl dX0_appendSpan_42 ?_
    refine lv_iload_n hx hb dX0_appendSpan_45 rfl (lv_at hl 0 rfl) ?_
    refine lv_iconst (v := 0) hx hb dX0_appendSpan_46 (by decide) ?_
    have h6 := inb_in (ck_t hF)
    have hF := ck_s hF
    refine va_iast hx hb hK hP hD hS 5 0 rfl rfl h6 dX0_appendSpan_47 (fun H locs hP hD hS => ?_)
    have hP : va_P g.1 vwCl ([wBc g a (B_spans b) (upd (B_lengths b) (B_spans b).toNatClampNeg p0) (upd (B_jars b) (B_spans b).toNatClampNeg 0) (upd (B_ages b) (B_spans b).toNatClampNeg 0) (upd (B_cracks b) (B_spans b).toNatClampNeg 0) (upd (B_stresses b) (B_spans b).toNatClampNeg 0) (B_vehicles b) (B_numbers b) (B_weights b) (B_places b) (B_nextNumber b) (B_hour b) (B_rate b) (B_till b) (B_paid b) (B_crossed b) (B_sunk b)] : List va_W).flatten _ := hP
    have hD : va_D A ([wBc g a (B_spans b) (upd (B_lengths b) (B_spans b).toNatClampNeg p0) (upd (B_jars b) (B_spans b).toNatClampNeg 0) (upd (B_ages b) (B_spans b).toNatClampNeg 0) (upd (B_cracks b) (B_spans b).toNatClampNeg 0) (upd (B_stresses b) (B_spans b).toNatClampNeg 0) (B_vehicles b) (B_numbers b) (B_weights b) (B_places b) (B_nextNumber b) (B_hour b) (B_rate b) (B_till b) (B_paid b) (B_crossed b) (B_sunk b)] : List va_W).flatten := hD
    refine lv_aload_n hx hb dX0_appendSpan_48 rfl (lv_at hl 1 rfl) ?_
    refine lv_iload_n hx hb dX0_appendSpan_49 rfl (lv_at hl 0 rfl) ?_
    refine lv_iconst (v := 1) hx hb dX0_appendSpan_50 (by decide) ?_
    refine lv_iadd hx hb dX0_appendSpan_51 ?_
    refine va_put (D := g.1) (ci := 4) (v := .int ((B_spans b) + 1)) (ty := .int) (C := RX0) (T := TX0) (N := 17) hx hb hts inX0 tyX0 tyX0_ok nmX0 hown hK hP hD hS 0 rfl rfl 0 (by decide) (hts _ mw_44) (fun _ h9 => h9) rfl (by decide +kernel) rfl rfl (Nat.le_of_ble_eq_true rfl) dX0_appendSpan_52 (fun H locs hP hD hS => ?_)
    have hP : va_P g.1 vwCl ([wBc g a ((B_spans b) + 1) (upd (B_lengths b) (B_spans b).toNatClampNeg p0) (upd (B_jars b) (B_spans b).toNatClampNeg 0) (upd (B_ages b) (B_spans b).toNatClampNeg 0) (upd (B_cracks b) (B_spans b).toNatClampNeg 0) (upd (B_stresses b) (B_spans b).toNatClampNeg 0) (B_vehicles b) (B_numbers b) (B_weights b) (B_places b) (B_nextNumber b) (B_hour b) (B_rate b) (B_till b) (B_paid b) (B_crossed b) (B_sunk b)] : List va_W).flatten _ := hP
    have hD : va_D A ([wBc g a ((B_spans b) + 1) (upd (B_lengths b) (B_spans b).toNatClampNeg p0) (upd (B_jars b) (B_spans b).toNatClampNeg 0) (upd (B_ages b) (B_spans b).toNatClampNeg 0) (upd (B_cracks b) (B_spans b).toNatClampNeg 0) (upd (B_stresses b) (B_spans b).toNatClampNeg 0) (B_vehicles b) (B_numbers b) (B_weights b) (B_places b) (B_nextNumber b) (B_hour b) (B_rate b) (B_till b) (B_paid b) (B_crossed b) (B_sunk b)] : List va_W).flatten := hD
    refine lv_iload_n hx hb dX0_appendSpan_55 rfl (lv_at hl 0 rfl) ?_
    cases hF
    rw [hQ]
    exact jb_iret hx hb hr hlocks hP hD hS dX0_appendSpan_56 rfl (Nat.le_of_ble_eq_true rfl) (Nat.le_of_ble_eq_true rfl)
  · have hF := ob_neg c1 hF
    refine lv_iconst (v := (-1)) hx hb dX0_appendSpan_11 (by decide) ?_
    cases hF
    rw [hQ]
    exact jb_iret hx hb hr hlocks hP hD hS dX0_appendSpan_12 rfl (Nat.le_of_ble_eq_true rfl) (Nat.le_of_ble_eq_true rfl)
def F_X0_dropLastSpan (b : Bv) : Option (Int32 × Bv) := (F_X0_hasSpan b ((B_spans b) - 1)).bind (fun z1 => if ¬ (bi z1) = 0 then ck (inb ((B_spans b) - 1) 10) (some ((B_jars b) ((B_spans b) - 1).toNatClampNeg, (mkB ((B_spans b) - 1) (B_lengths b) (B_jars b) (B_ages b) (B_cracks b) (B_stresses b) (B_vehicles b) (B_numbers b) (B_weights b) (B_places b) (B_nextNumber b) (B_hour b) (B_rate b) (B_till b) (B_paid b) (B_crossed b) (B_sunk b)))) else some (0, b))
set_option maxHeartbeats 4000000 in
set_option maxRecDepth 100000 in
theorem c_X0_dropLastSpan (g : GG) (l : Launch) (a : Nat → Nat) (b : Bv) (z : Int32 × Bv) (hF : F_X0_dropLastSpan b = some z) : MI g l yX0_dropLastSpan cX0_dropLastSpan 2 (some .int) ({ frames := 1, cells := 0, slots := 0, locals := 21 } : Room) [.ref (a 0)] [wB g a b] 0 0 z.1 [wB g a z.2] := by
  refine MI.bg (by decide) (Nat.le_of_ble_eq_true rfl) ?_
  intro p e s m below meth c A Q hQ hx hb hr hml hown hts hlocks hmn hK hE hA hP hD hS ls hl
  rw [F_X0_dropLastSpan] at hF
  have hl : lv_has ls 2 [(0, .ref (a 0))] := hl
  refine lv_aload_n hx hb dX0_dropLastSpan_0 rfl (lv_at hl 0 rfl) ?_
  refine va_get (D := g.1) (ci := 4) (v := .int (B_spans b)) (C := RX0) (T := TX0) (N := 17) hx hb hts inX0 hown hK hP 0 rfl rfl 0 (by decide) (hts _ mw_44) (fun _ h9 => h9) rfl dX0_dropLastSpan_1 ?_
  refine lv_iconst (v := 1) hx hb dX0_dropLastSpan_4 (by decide) ?_
  refine lv_isub hx hb dX0_dropLastSpan_5 ?_
  refine lv_istore_n (lv' := [(1, .int ((B_spans b) - 1)), (0, .ref (a 0))]) hx hb dX0_dropLastSpan_6 rfl hl (by decide) rfl (fun ls hl => ?_)
  refine lv_aload_n hx hb dX0_dropLastSpan_7 rfl (lv_at hl 1 rfl) ?_
  refine lv_iload_n hx hb dX0_dropLastSpan_8 rfl (lv_at hl 0 rfl) ?_
  obtain ⟨z1, hz1, hF⟩ := ob_bind hF
  refine cl_i (csR := []) (csF := [wB g a b]) (rest := []) hx hb hml hown hts hK hE hA hl hP hD hS (c_X0_hasSpan g l a b ((B_spans b) - 1) z1 hz1) [0] [] [0] ⟨rfl, rfl, rfl, rfl, rfl, rfl, rfl⟩ ⟨0, 4, _, _, rfl, rfl, rfl⟩ 1 (jb_giV mw_288 mw_289 mw_290 mw_2 mw_291) ⟨rfl, rfl⟩ (by decide +kernel) ⟨⟨(Nat.le_of_ble_eq_true rfl), (Nat.le_of_ble_eq_true rfl)⟩, (Nat.le_of_ble_eq_true rfl), (Nat.le_of_ble_eq_true rfl)⟩ ⟨rfl, rfl⟩ (Nat.le_of_ble_eq_true rfl) dX0_dropLastSpan_9 (fun H locs hP hD hS => ?_)
  refine lv_if_ne (tgt := 17) hx hb dX0_dropLastSpan_12 (by decide) (fun c2 => ?_) (fun c2 => ?_)
  · have hF := ob_pos c2 hF
    refine lv_aload_n hx hb dX0_dropLastSpan_17 rfl (lv_at hl 1 rfl) ?_
    refine lv_iload_n hx hb dX0_dropLastSpan_18 rfl (lv_at hl 0 rfl) ?_
    refine va_put (D := g.1) (ci := 4) (v := .int ((B_spans b) - 1)) (ty := .int) (C := RX0) (T := TX0) (N := 17) hx hb hts inX0 tyX0 tyX0_ok nmX0 hown hK hP hD hS 0 rfl rfl 0 (by decide) (hts _ mw_44) (fun _ h9 => h9) rfl (by decide +kernel) rfl rfl (Nat.le_of_ble_eq_true rfl) dX0_dropLastSpan_19 (fun H locs hP hD hS => ?_)
    have hP : va_P g.1 vwCl ([wBc g a ((B_spans b) - 1) (B_lengths b) (B_jars b) (B_ages b) (B_cracks b) (B_stresses b) (B_vehicles b) (B_numbers b) (B_weights b) (B_places b) (B_nextNumber b) (B_hour b) (B_rate b) (B_till b) (B_paid b) (B_crossed b) (B_sunk b)] : List va_W).flatten _ := hP
    have hD : va_D A ([wBc g a ((B_spans b) - 1) (B_lengths b) (B_jars b) (B_ages b) (B_cracks b) (B_stresses b) (B_vehicles b) (B_numbers b) (B_weights b) (B_places b) (B_nextNumber b) (B_hour b) (B_rate b) (B_till b) (B_paid b) (B_crossed b) (B_sunk b)] : List va_W).flatten := hD
    refine lv_aload_n hx hb dX0_dropLastSpan_22 rfl (lv_at hl 1 rfl) ?_
    refine va_get (D := g.1) (ci := 4) (v := .ref (a 2)) (C := RX0) (T := TX0) (N := 17) hx hb hts inX0 hown hK hP 0 rfl rfl 2 (by decide) (hts _ mw_49) (fun _ h9 => h9) rfl dX0_dropLastSpan_23 ?_
    refine lv_iload_n hx hb dX0_dropLastSpan_26 rfl (lv_at hl 0 rfl) ?_
    have h3 := inb_in (ck_t hF)
    have hF := ck_s hF
    refine va_iald hx hb hK hP 2 0 rfl rfl h3 dX0_dropLastSpan_27 ?_
    cases hF
    rw [hQ]
    exact jb_iret hx hb hr hlocks hP hD hS dX0_dropLastSpan_28 rfl (Nat.le_of_ble_eq_true rfl) (Nat.le_of_ble_eq_true rfl)
  · have hF := ob_nneg c2 hF
    refine lv_iconst (v := 0) hx hb dX0_dropLastSpan_15 (by decide) ?_
    cases hF
    rw [hQ]
    exact jb_iret hx hb hr hlocks hP hD hS dX0_dropLastSpan_16 rfl (Nat.le_of_ble_eq_true rfl) (Nat.le_of_ble_eq_true rfl)
def F_X0_addJars (b : Bv) (p0 : Int32) (p1 : Int32) : Option (Int32 × Bv) := (F_X0_hasSpan b p0).bind (fun z1 => if ¬ (bi z1) = 0 then ck (inb p0 10) (if 1 ≤ (((B_jars b) p0.toNatClampNeg) + p1) then ck (inb p0 10) (ck (inb p0 10) (ck (nz (((B_jars b) p0.toNatClampNeg) + p1)) (ck (inb p0 10) (ck (inb p0 10) (some ((upd (B_ages b) p0.toNatClampNeg ((((B_ages b) p0.toNatClampNeg) * ((B_jars b) p0.toNatClampNeg)) / (((B_jars b) p0.toNatClampNeg) + p1))) p0.toNatClampNeg, (mkB (B_spans b) (B_lengths b) (upd (B_jars b) p0.toNatClampNeg (((B_jars b) p0.toNatClampNeg) + p1)) (upd (B_ages b) p0.toNatClampNeg ((((B_ages b) p0.toNatClampNeg) * ((B_jars b) p0.toNatClampNeg)) / (((B_jars b) p0.toNatClampNeg) + p1))) (B_cracks b) (B_stresses b) (B_vehicles b) (B_numbers b) (B_weights b) (B_places b) (B_nextNumber b) (B_hour b) (B_rate b) (B_till b) (B_paid b) (B_crossed b) (B_sunk b)))))))) else ck (inb p0 10) (some ((B_ages b) p0.toNatClampNeg, b))) else some (0, b))
set_option maxHeartbeats 4000000 in
set_option maxRecDepth 100000 in
theorem c_X0_addJars (g : GG) (l : Launch) (a : Nat → Nat) (b : Bv) (p0 : Int32) (p1 : Int32) (z : Int32 × Bv) (hF : F_X0_addJars b p0 p1 = some z) : MI g l yX0_addJars cX0_addJars 5 (some .int) ({ frames := 1, cells := 0, slots := 0, locals := 21 } : Room) [.ref (a 0), .int p0, .int p1] [wB g a b] 0 0 z.1 [wB g a z.2] := by
  refine MI.bg (by decide) (Nat.le_of_ble_eq_true rfl) ?_
  intro p e s m below meth c A Q hQ hx hb hr hml hown hts hlocks hmn hK hE hA hP hD hS ls hl
  rw [F_X0_addJars] at hF
  have hl : lv_has ls 5 [(0, .ref (a 0)), (1, .int p0), (2, .int p1)] := hl
  refine lv_aload_n hx hb dX0_addJars_0 rfl (lv_at hl 0 rfl) ?_
  refine lv_iload_n hx hb dX0_addJars_1 rfl (lv_at hl 1 rfl) ?_
  obtain ⟨z1, hz1, hF⟩ := ob_bind hF
  refine cl_i (csR := []) (csF := [wB g a b]) (rest := []) hx hb hml hown hts hK hE hA hl hP hD hS (c_X0_hasSpan g l a b p0 z1 hz1) [0] [] [0] ⟨rfl, rfl, rfl, rfl, rfl, rfl, rfl⟩ ⟨0, 4, _, _, rfl, rfl, rfl⟩ 1 (jb_giV mw_288 mw_289 mw_290 mw_2 mw_291) ⟨rfl, rfl⟩ (by decide +kernel) ⟨⟨(Nat.le_of_ble_eq_true rfl), (Nat.le_of_ble_eq_true rfl)⟩, (Nat.le_of_ble_eq_true rfl), (Nat.le_of_ble_eq_true rfl)⟩ ⟨rfl, rfl⟩ (Nat.le_of_ble_eq_true rfl) dX0_addJars_2 (fun H locs hP hD hS => ?_)
  refine lv_if_ne (tgt := 10) hx hb dX0_addJars_5 (by decide) (fun c2 => ?_) (fun c2 => ?_)
  · have hF := ob_pos c2 hF
    refine lv_aload_n hx hb dX0_addJars_10 rfl (lv_at hl 0 rfl) ?_
    refine va_get (D := g.1) (ci := 4) (v := .ref (a 2)) (C := RX0) (T := TX0) (N := 17) hx hb hts inX0 hown hK hP 0 rfl rfl 2 (by decide) (hts _ mw_49) (fun _ h9 => h9) rfl dX0_addJars_11 ?_
    refine lv_iload_n hx hb dX0_addJars_14 rfl (lv_at hl 1 rfl) ?_
    have h3 := inb_in (ck_t hF)
    have hF := ck_s hF
    refine va_iald hx hb hK hP 2 0 rfl rfl h3 dX0_addJars_15 ?_
    refine lv_istore_n (lv' := [(3, .int ((B_jars b) p0.toNatClampNeg)), (0, .ref (a 0)), (1, .int p0), (2, .int p1)]) hx hb dX0_addJars_16 rfl hl (by decide) rfl (fun ls hl => ?_)
    refine lv_iload_n hx hb dX0_addJars_17 rfl (lv_at hl 0 rfl) ?_
    refine lv_iload_n hx hb dX0_addJars_18 rfl (lv_at hl 3 rfl) ?_
    refine lv_iadd hx hb dX0_addJars_19 ?_
    refine lv_istore (lv' := [(4, .int (((B_jars b) p0.toNatClampNeg) + p1)), (3, .int ((B_jars b) p0.toNatClampNeg)), (0, .ref (a 0)), (1, .int p0), (2, .int p1)]) hx hb dX0_addJars_20 hl (by decide) rfl (fun ls hl => ?_)
    refine lv_iload hx hb dX0_addJars_22 (lv_at hl 0 rfl) ?_
    refine lv_iconst (v := 1) hx hb dX0_addJars_24 (by decide) ?_
    refine lv_icmp_ge (tgt := 35) hx hb dX0_addJars_25 (by decide) (fun c4 => ?_) (fun c4 => ?_)
    · have hF := ob_pos c4 hF
      refine lv_aload_n hx hb dX0_addJars_35 rfl (lv_at hl 2 rfl) ?_
      refine va_get (D := g.1) (ci := 4) (v := .ref (a 2)) (C := RX0) (T := TX0) (N := 17) hx hb hts inX0 hown hK hP 0 rfl rfl 2 (by decide) (hts _ mw_49) (fun _ h9 => h9) rfl dX0_addJars_36 ?_
      refine lv_iload_n hx hb dX0_addJars_39 rfl (lv_at hl 3 rfl) ?_
      refine lv_iload hx hb dX0_addJars_40 (lv_at hl 0 rfl) ?_
      have h5 := inb_in (ck_t hF)
      have hF := ck_s hF
      refine va_iast hx hb hK hP hD hS 2 0 rfl rfl h5 dX0_addJars_42 (fun H locs hP hD hS => ?_)
      have hP : va_P g.1 vwCl ([wBc g a (B_spans b) (B_lengths b) (upd (B_jars b) p0.toNatClampNeg (((B_jars b) p0.toNatClampNeg) + p1)) (B_ages b) (B_cracks b) (B_stresses b) (B_vehicles b) (B_numbers b) (B_weights b) (B_places b) (B_nextNumber b) (B_hour b) (B_rate b) (B_till b) (B_paid b) (B_crossed b) (B_sunk b)] : List va_W).flatten _ := hP
      have hD : va_D A ([wBc g a (B_spans b) (B_lengths b) (upd (B_jars b) p0.toNatClampNeg (((B_jars b) p0.toNatClampNeg) + p1)) (B_ages b) (B_cracks b) (B_stresses b) (B_vehicles b) (B_numbers b) (B_weights b) (B_places b) (B_nextNumber b) (B_hour b) (B_rate b) (B_till b) (B_paid b) (B_crossed b) (B_sunk b)] : List va_W).flatten := hD
      refine lv_aload_n hx hb dX0_addJars_43 rfl (lv_at hl 2 rfl) ?_
      refine va_get (D := g.1) (ci := 4) (v := .ref (a 3)) (C := RX0) (T := TX0) (N := 17) hx hb hts inX0 hown hK hP 0 rfl rfl 3 (by decide) (hts _ mw_52) (fun _ h9 => h9) rfl dX0_addJars_44 ?_
      refine lv_iload_n hx hb dX0_addJars_47 rfl (lv_at hl 3 rfl) ?_
      refine lv_aload_n hx hb dX0_addJars_48 rfl (lv_at hl 2 rfl) ?_
      refine va_get (D := g.1) (ci := 4) (v := .ref (a 3)) (C := RX0) (T := TX0) (N := 17) hx hb hts inX0 hown hK hP 0 rfl rfl 3 (by decide) (hts _ mw_52) (fun _ h9 => h9) rfl dX0_addJars_49 ?_
      refine lv_iload_n hx hb dX0_addJars_52 rfl (lv_at hl 3 rfl) ?_
      have h6 := inb_in (ck_t hF)
      have hF := ck_s hF
      refine va_iald hx hb hK hP 3 0 rfl rfl h6 dX0_addJars_53 ?_
      refine lv_iload_n hx hb dX0_addJars_54 rfl (lv_at hl 1 rfl) ?_
      refine lv_imul hx hb dX0_addJars_55 ?_
      refine lv_iload hx hb dX0_addJars_56 (lv_at hl 0 rfl) ?_
      have h7 := nz_ne (ck_t hF)
      have hF := ck_s hF
      refine lv_idiv hx hb dX0_addJars_58 h7 ?_
      have h8 := inb_in (ck_t hF)
      have hF := ck_s hF
      refine va_iast hx hb hK hP hD hS 3 0 rfl rfl h8 dX0_addJars_59 (fun H locs hP hD hS => ?_)
      have hP : va_P g.1 vwCl ([wBc g a (B_spans b) (B_lengths b) (upd (B_jars b) p0.toNatClampNeg (((B_jars b) p0.toNatClampNeg) + p1)) (upd (B_ages b) p0.toNatClampNeg ((((B_ages b) p0.toNatClampNeg) * ((B_jars b) p0.toNatClampNeg)) / (((B_jars b) p0.toNatClampNeg) + p1))) (B_cracks b) (B_stresses b) (B_vehicles b) (B_numbers b) (B_weights b) (B_places b) (B_nextNumber b) (B_hour b) (B_rate b) (B_till b) (B_paid b) (B_crossed b) (B_sunk b)] : List va_W).flatten _ := hP
      have hD : va_D A ([wBc g a (B_spans b) (B_lengths b) (upd (B_jars b) p0.toNatClampNeg (((B_jars b) p0.toNatClampNeg) + p1)) (upd (B_ages b) p0.toNatClampNeg ((((B_ages b) p0.toNatClampNeg) * ((B_jars b) p0.toNatClampNeg)) / (((B_jars b) p0.toNatClampNeg) + p1))) (B_cracks b) (B_stresses b) (B_vehicles b) (B_numbers b) (B_weights b) (B_places b) (B_nextNumber b) (B_hour b) (B_rate b) (B_till b) (B_paid b) (B_crossed b) (B_sunk b)] : List va_W).flatten := hD
      refine lv_aload_n hx hb dX0_addJars_60 rfl (lv_at hl 2 rfl) ?_
      refine va_get (D := g.1) (ci := 4) (v := .ref (a 3)) (C := RX0) (T := TX0) (N := 17) hx hb hts inX0 hown hK hP 0 rfl rfl 3 (by decide) (hts _ mw_52) (fun _ h9 => h9) rfl dX0_addJars_61 ?_
      refine lv_iload_n hx hb dX0_addJars_64 rfl (lv_at hl 3 rfl) ?_
      have h9 := inb_in (ck_t hF)
      have hF := ck_s hF
      refine va_iald hx hb hK hP 3 0 rfl rfl h9 dX0_addJars_65 ?_
      cases hF
      rw [hQ]
      exact jb_iret hx hb hr hlocks hP hD hS dX0_addJars_66 rfl (Nat.le_of_ble_eq_true rfl) (Nat.le_of_ble_eq_true rfl)
    · have hF := ob_neg c4 hF
      refine lv_aload_n hx hb dX0_addJars_28 rfl (lv_at hl 2 rfl) ?_
      refine va_get (D := g.1) (ci := 4) (v := .ref (a 3)) (C := RX0) (T := TX0) (N := 17) hx hb hts inX0 hown hK hP 0 rfl rfl 3 (by decide) (hts _ mw_52) (fun _ h9 => h9) rfl dX0_addJars_29 ?_
      refine lv_iload_n hx hb dX0_addJars_32 rfl (lv_at hl 3 rfl) ?_
      have h10 := inb_in (ck_t hF)
      have hF := ck_s hF
      refine va_iald hx hb hK hP 3 0 rfl rfl h10 dX0_addJars_33 ?_
      cases hF
      rw [hQ]
      exact jb_iret hx hb hr hlocks hP hD hS dX0_addJars_34 rfl (Nat.le_of_ble_eq_true rfl) (Nat.le_of_ble_eq_true rfl)
  · have hF := ob_nneg c2 hF
    refine lv_iconst (v := 0) hx hb dX0_addJars_8 (by decide) ?_
    cases hF
    rw [hQ]
    exact jb_iret hx hb hr hlocks hP hD hS dX0_addJars_9 rfl (Nat.le_of_ble_eq_true rfl) (Nat.le_of_ble_eq_true rfl)
def F_X0_repair (b : Bv) (p0 : Int32) (p1 : Int32) : Option (Int32 × Bv) := (F_X0_hasSpan b p0).bind (fun z1 => if (bi z1) = 0 then some (B_till b, b) else ck (inb p0 10) (ck (inb p0 10) (some ((B_till b) - (p1 * 5), (mkB (B_spans b) (B_lengths b) (B_jars b) (B_ages b) (upd (B_cracks b) p0.toNatClampNeg (((B_cracks b) p0.toNatClampNeg) - p1)) (B_stresses b) (B_vehicles b) (B_numbers b) (B_weights b) (B_places b) (B_nextNumber b) (B_hour b) (B_rate b) ((B_till b) - (p1 * 5)) (B_paid b) (B_crossed b) (B_sunk b))))))
set_option maxHeartbeats 4000000 in
set_option maxRecDepth 100000 in
theorem c_X0_repair (g : GG) (l : Launch) (a : Nat → Nat) (b : Bv) (p0 : Int32) (p1 : Int32) (z : Int32 × Bv) (hF : F_X0_repair b p0 p1 = some z) : MI g l yX0_repair cX0_repair 3 (some .int) ({ frames := 1, cells := 0, slots := 0, locals := 21 } : Room) [.ref (a 0), .int p0, .int p1] [wB g a b] 0 0 z.1 [wB g a z.2] := by
  refine MI.bg (by decide) (Nat.le_of_ble_eq_true rfl) ?_
  intro p e s m below meth c A Q hQ hx hb hr hml hown hts hlocks hmn hK hE hA hP hD hS ls hl
  rw [F_X0_repair] at hF
  have hl : lv_has ls 3 [(0, .ref (a 0)), (1, .int p0), (2, .int p1)] := hl
  refine lv_aload_n hx hb dX0_repair_0 rfl (lv_at hl 0 rfl) ?_
  refine lv_iload_n hx hb dX0_repair_1 rfl (lv_at hl 1 rfl) ?_
  obtain ⟨z1, hz1, hF⟩ := ob_bind hF
  refine cl_i (csR := []) (csF := [wB g a b]) (rest := []) hx hb hml hown hts hK hE hA hl hP hD hS (c_X0_hasSpan g l a b p0 z1 hz1) [0] [] [0] ⟨rfl, rfl, rfl, rfl, rfl, rfl, rfl⟩ ⟨0, 4, _, _, rfl, rfl, rfl⟩ 1 (jb_giV mw_288 mw_289 mw_290 mw_2 mw_291) ⟨rfl, rfl⟩ (by decide +kernel) ⟨⟨(Nat.le_of_ble_eq_true rfl), (Nat.le_of_ble_eq_true rfl)⟩, (Nat.le_of_ble_eq_true rfl), (Nat.le_of_ble_eq_true rfl)⟩ ⟨rfl, rfl⟩ (Nat.le_of_ble_eq_true rfl) dX0_repair_2 (fun H locs hP hD hS => ?_)
  refine lv_if_eq (tgt := 30) hx hb dX0_repair_5 (by decide) (fun c2 => ?_) (fun c2 => ?_)
  · have hF := ob_pos c2 hF
    refine lv_aload_n hx hb dX0_repair_30 rfl (lv_at hl 0 rfl) ?_
    refine va_get (D := g.1) (ci := 4) (v := .int (B_till b)) (C := RX0) (T := TX0) (N := 17) hx hb hts inX0 hown hK hP 0 rfl rfl 13 (by decide) (hts _ mw_75) (fun _ h9 => h9) rfl dX0_repair_31 ?_
    cases hF
    rw [hQ]
    exact jb_iret hx hb hr hlocks hP hD hS dX0_repair_34 rfl (Nat.le_of_ble_eq_true rfl) (Nat.le_of_ble_eq_true rfl)
  · have hF := ob_neg c2 hF
    refine lv_aload_n hx hb dX0_repair_8 rfl (lv_at hl 0 rfl) ?_
    refine va_get (D := g.1) (ci := 4) (v := .ref (a 4)) (C := RX0) (T := TX0) (N := 17) hx hb hts inX0 hown hK hP 0 rfl rfl 4 (by decide) (hts _ mw_54) (fun _ h9 => h9) rfl dX0_repair_9 ?_
    refine lv_iload_n hx hb dX0_repair_12 rfl (lv_at hl 1 rfl) ?_
    refine lv_dup2_11 hx hb dX0_repair_13 rfl rfl ?_
    have h3 := inb_in (ck_t hF)
    have hF := ck_s hF
    refine va_iald hx hb hK hP 4 0 rfl rfl h3 dX0_repair_14 ?_
    refine lv_iload_n hx hb dX0_repair_15 rfl (lv_at hl 2 rfl) ?_
    refine lv_isub hx hb dX0_repair_16 ?_
    have h4 := inb_in (ck_t hF)
    have hF := ck_s hF
    refine va_iast hx hb hK hP hD hS 4 0 rfl rfl h4 dX0_repair_17 (fun H locs hP hD hS => ?_)
    have hP : va_P g.1 vwCl ([wBc g a (B_spans b) (B_lengths b) (B_jars b) (B_ages b) (upd (B_cracks b) p0.toNatClampNeg (((B_cracks b) p0.toNatClampNeg) - p1)) (B_stresses b) (B_vehicles b) (B_numbers b) (B_weights b) (B_places b) (B_nextNumber b) (B_hour b) (B_rate b) (B_till b) (B_paid b) (B_crossed b) (B_sunk b)] : List va_W).flatten _ := hP
    have hD : va_D A ([wBc g a (B_spans b) (B_lengths b) (B_jars b) (B_ages b) (upd (B_cracks b) p0.toNatClampNeg (((B_cracks b) p0.toNatClampNeg) - p1)) (B_stresses b) (B_vehicles b) (B_numbers b) (B_weights b) (B_places b) (B_nextNumber b) (B_hour b) (B_rate b) (B_till b) (B_paid b) (B_crossed b) (B_sunk b)] : List va_W).flatten := hD
    refine lv_aload_n hx hb dX0_repair_18 rfl (lv_at hl 0 rfl) ?_
    refine lv_dup hx hb dX0_repair_19 rfl ?_
    refine va_get (D := g.1) (ci := 4) (v := .int (B_till b)) (C := RX0) (T := TX0) (N := 17) hx hb hts inX0 hown hK hP 0 rfl rfl 13 (by decide) (hts _ mw_75) (fun _ h9 => h9) rfl dX0_repair_20 ?_
    refine lv_iload_n hx hb dX0_repair_23 rfl (lv_at hl 2 rfl) ?_
    refine lv_iconst (v := 5) hx hb dX0_repair_24 (by decide) ?_
    refine lv_imul hx hb dX0_repair_25 ?_
    refine lv_isub hx hb dX0_repair_26 ?_
    refine va_put (D := g.1) (ci := 4) (v := .int ((B_till b) - (p1 * 5))) (ty := .int) (C := RX0) (T := TX0) (N := 17) hx hb hts inX0 tyX0 tyX0_ok nmX0 hown hK hP hD hS 0 rfl rfl 13 (by decide) (hts _ mw_75) (fun _ h9 => h9) rfl (by decide +kernel) rfl rfl (Nat.le_of_ble_eq_true rfl) dX0_repair_27 (fun H locs hP hD hS => ?_)
    have hP : va_P g.1 vwCl ([wBc g a (B_spans b) (B_lengths b) (B_jars b) (B_ages b) (upd (B_cracks b) p0.toNatClampNeg (((B_cracks b) p0.toNatClampNeg) - p1)) (B_stresses b) (B_vehicles b) (B_numbers b) (B_weights b) (B_places b) (B_nextNumber b) (B_hour b) (B_rate b) ((B_till b) - (p1 * 5)) (B_paid b) (B_crossed b) (B_sunk b)] : List va_W).flatten _ := hP
    have hD : va_D A ([wBc g a (B_spans b) (B_lengths b) (B_jars b) (B_ages b) (upd (B_cracks b) p0.toNatClampNeg (((B_cracks b) p0.toNatClampNeg) - p1)) (B_stresses b) (B_vehicles b) (B_numbers b) (B_weights b) (B_places b) (B_nextNumber b) (B_hour b) (B_rate b) ((B_till b) - (p1 * 5)) (B_paid b) (B_crossed b) (B_sunk b)] : List va_W).flatten := hD
    refine lv_aload_n hx hb dX0_repair_30 rfl (lv_at hl 0 rfl) ?_
    refine va_get (D := g.1) (ci := 4) (v := .int ((B_till b) - (p1 * 5))) (C := RX0) (T := TX0) (N := 17) hx hb hts inX0 hown hK hP 0 rfl rfl 13 (by decide) (hts _ mw_75) (fun _ h9 => h9) rfl dX0_repair_31 ?_
    cases hF
    rw [hQ]
    exact jb_iret hx hb hr hlocks hP hD hS dX0_repair_34 rfl (Nat.le_of_ble_eq_true rfl) (Nat.le_of_ble_eq_true rfl)
def F_X0_replaceRate (b : Bv) (p0 : Int32) : Option (Int32 × Bv) := some (B_rate b, (mkB (B_spans b) (B_lengths b) (B_jars b) (B_ages b) (B_cracks b) (B_stresses b) (B_vehicles b) (B_numbers b) (B_weights b) (B_places b) (B_nextNumber b) (B_hour b) p0 (B_till b) (B_paid b) (B_crossed b) (B_sunk b)))
set_option maxHeartbeats 4000000 in
set_option maxRecDepth 100000 in
theorem c_X0_replaceRate (g : GG) (l : Launch) (a : Nat → Nat) (b : Bv) (p0 : Int32) (z : Int32 × Bv) (hF : F_X0_replaceRate b p0 = some z) : MI g l yX0_replaceRate cX0_replaceRate 3 (some .int) ({ frames := 0, cells := 0, slots := 0, locals := 0 } : Room) [.ref (a 0), .int p0] [wB g a b] 0 0 z.1 [wB g a z.2] := by
  refine MI.bg (by decide) (Nat.le_of_ble_eq_true rfl) ?_
  intro p e s m below meth c A Q hQ hx hb hr hml hown hts hlocks hmn hK hE hA hP hD hS ls hl
  rw [F_X0_replaceRate] at hF
  have hl : lv_has ls 3 [(0, .ref (a 0)), (1, .int p0)] := hl
  refine lv_aload_n hx hb dX0_replaceRate_0 rfl (lv_at hl 0 rfl) ?_
  refine va_get (D := g.1) (ci := 4) (v := .int (B_rate b)) (C := RX0) (T := TX0) (N := 17) hx hb hts inX0 hown hK hP 0 rfl rfl 12 (by decide) (hts _ mw_72) (fun _ h9 => h9) rfl dX0_replaceRate_1 ?_
  refine lv_istore_n (lv' := [(2, .int (B_rate b)), (0, .ref (a 0)), (1, .int p0)]) hx hb dX0_replaceRate_4 rfl hl (by decide) rfl (fun ls hl => ?_)
  refine lv_aload_n hx hb dX0_replaceRate_5 rfl (lv_at hl 1 rfl) ?_
  refine lv_iload_n hx hb dX0_replaceRate_6 rfl (lv_at hl 2 rfl) ?_
  refine va_put (D := g.1) (ci := 4) (v := .int p0) (ty := .int) (C := RX0) (T := TX0) (N := 17) hx hb hts inX0 tyX0 tyX0_ok nmX0 hown hK hP hD hS 0 rfl rfl 12 (by decide) (hts _ mw_72) (fun _ h9 => h9) rfl (by decide +kernel) rfl rfl (Nat.le_of_ble_eq_true rfl) dX0_replaceRate_7 (fun H locs hP hD hS => ?_)
  have hP : va_P g.1 vwCl ([wBc g a (B_spans b) (B_lengths b) (B_jars b) (B_ages b) (B_cracks b) (B_stresses b) (B_vehicles b) (B_numbers b) (B_weights b) (B_places b) (B_nextNumber b) (B_hour b) p0 (B_till b) (B_paid b) (B_crossed b) (B_sunk b)] : List va_W).flatten _ := hP
  have hD : va_D A ([wBc g a (B_spans b) (B_lengths b) (B_jars b) (B_ages b) (B_cracks b) (B_stresses b) (B_vehicles b) (B_numbers b) (B_weights b) (B_places b) (B_nextNumber b) (B_hour b) p0 (B_till b) (B_paid b) (B_crossed b) (B_sunk b)] : List va_W).flatten := hD
  refine lv_iload_n hx hb dX0_replaceRate_10 rfl (lv_at hl 0 rfl) ?_
  cases hF
  rw [hQ]
  exact jb_iret hx hb hr hlocks hP hD hS dX0_replaceRate_11 rfl (Nat.le_of_ble_eq_true rfl) (Nat.le_of_ble_eq_true rfl)
def F_X0_appendVehicle (b : Bv) (p0 : Int32) : Option (Int32 × Bv) := if (B_vehicles b) < 8 then ck (inb (B_vehicles b) 8) (ck (inb (B_vehicles b) 8) (ck (inb (B_vehicles b) 8) (ck (inb (B_vehicles b) 8) (some ((upd (B_numbers b) (B_vehicles b).toNatClampNeg (B_nextNumber b)) (B_vehicles b).toNatClampNeg, (mkB (B_spans b) (B_lengths b) (B_jars b) (B_ages b) (B_cracks b) (B_stresses b) ((B_vehicles b) + 1) (upd (B_numbers b) (B_vehicles b).toNatClampNeg (B_nextNumber b)) (upd (B_weights b) (B_vehicles b).toNatClampNeg p0) (upd (B_places b) (B_vehicles b).toNatClampNeg 0) ((B_nextNumber b) + 1) (B_hour b) (B_rate b) (B_till b) (B_paid b) (B_crossed b) (B_sunk b))))))) else some ((-1), b)
set_option maxHeartbeats 4000000 in
set_option maxRecDepth 100000 in
theorem c_X0_appendVehicle (g : GG) (l : Launch) (a : Nat → Nat) (b : Bv) (p0 : Int32) (z : Int32 × Bv) (hF : F_X0_appendVehicle b p0 = some z) : MI g l yX0_appendVehicle cX0_appendVehicle 3 (some .int) ({ frames := 0, cells := 0, slots := 0, locals := 0 } : Room) [.ref (a 0), .int p0] [wB g a b] 0 0 z.1 [wB g a z.2] := by
  refine MI.bg (by decide) (Nat.le_of_ble_eq_true rfl) ?_
  intro p e s m below meth c A Q hQ hx hb hr hml hown hts hlocks hmn hK hE hA hP hD hS ls hl
  rw [F_X0_appendVehicle] at hF
  have hl : lv_has ls 3 [(0, .ref (a 0)), (1, .int p0)] := hl
  refine lv_aload_n hx hb dX0_appendVehicle_0 rfl (lv_at hl 0 rfl) ?_
  refine va_get (D := g.1) (ci := 4) (v := .int (B_vehicles b)) (C := RX0) (T := TX0) (N := 17) hx hb hts inX0 hown hK hP 0 rfl rfl 6 (by decide) (hts _ mw_59) (fun _ h9 => h9) rfl dX0_appendVehicle_1 ?_
  refine lv_istore_n (lv' := [(2, .int (B_vehicles b)), (0, .ref (a 0)), (1, .int p0)]) hx hb dX0_appendVehicle_4 rfl hl (by decide) rfl (fun ls hl => ?_)
  refine lv_iload_n hx hb dX0_appendVehicle_5 rfl (lv_at hl 0 rfl) ?_
  refine lv_bipush (v := 8) hx hb dX0_appendVehicle_6 (by decide) ?_
  refine lv_icmp_lt (tgt := 13) hx hb dX0_appendVehicle_8 (by decide) (fun c1 => ?_) (fun c1 => ?_)
  · have hF := ob_pos c1 hF
    refine lv_aload_n hx hb dX0_appendVehicle_13 rfl (lv_at hl 1 rfl) ?_
    refine va_get (D := g.1) (ci := 4) (v := .ref (a 6)) (C := RX0) (T := TX0) (N := 17) hx hb hts inX0 hown hK hP 0 rfl rfl 7 (by decide) (hts _ mw_62) (fun _ h9 => h9) rfl dX0_appendVehicle_14 ?_
    refine lv_iload_n hx hb dX0_appendVehicle_17 rfl (lv_at hl 0 rfl) ?_
    refine lv_aload_n hx hb dX0_appendVehicle_18 rfl (lv_at hl 1 rfl) ?_
    refine va_get (D := g.1) (ci := 4) (v := .int (B_nextNumber b)) (C := RX0) (T := TX0) (N := 17) hx hb hts inX0 hown hK hP 0 rfl rfl 10 (by decide) (hts _ mw_68) (fun _ h9 => h9) rfl dX0_appendVehicle_19 ?_
    have h2 := inb_in (ck_t hF)
    have hF := ck_s hF
    refine va_iast hx hb hK hP hD hS 6 0 rfl rfl h2 dX0_appendVehicle_22 (fun H locs hP hD hS => ?_)
    have hP : va_P g.1 vwCl ([wBc g a (B_spans b) (B_lengths b) (B_jars b) (B_ages b) (B_cracks b) (B_stresses b) (B_vehicles b) (upd (B_numbers b) (B_vehicles b).toNatClampNeg (B_nextNumber b)) (B_weights b) (B_places b) (B_nextNumber b) (B_hour b) (B_rate b) (B_till b) (B_paid b) (B_crossed b) (B_sunk b)] : List va_W).flatten _ := hP
    have hD : va_D A ([wBc g a (B_spans b) (B_lengths b) (B_jars b) (B_ages b) (B_cracks b) (B_stresses b) (B_vehicles b) (upd (B_numbers b) (B_vehicles b).toNatClampNeg (B_nextNumber b)) (B_weights b) (B_places b) (B_nextNumber b) (B_hour b) (B_rate b) (B_till b) (B_paid b) (B_crossed b) (B_sunk b)] : List va_W).flatten := hD
    refine lv_aload_n hx hb dX0_appendVehicle_23 rfl (lv_at hl 1 rfl) ?_
    refine va_get (D := g.1) (ci := 4) (v := .ref (a 7)) (C := RX0) (T := TX0) (N := 17) hx hb hts inX0 hown hK hP 0 rfl rfl 8 (by decide) (hts _ mw_64) (fun _ h9 => h9) rfl dX0_appendVehicle_24 ?_
    refine lv_iload_n hx hb dX0_appendVehicle_27 rfl (lv_at hl 0 rfl) ?_
    refine lv_iload_n hx hb dX0_appendVehicle_28 rfl (lv_at hl 2 rfl) ?_
    have h3 := inb_in (ck_t hF)
    have hF := ck_s hF
    refine va_iast hx hb hK hP hD hS 7 0 rfl rfl h3 dX0_appendVehicle_29 (fun H locs hP hD hS => ?_)
    have hP : va_P g.1 vwCl ([wBc g a (B_spans b) (B_lengths b) (B_jars b) (B_ages b) (B_cracks b) (B_stresses b) (B_vehicles b) (upd (B_numbers b) (B_vehicles b).toNatClampNeg (B_nextNumber b)) (upd (B_weights b) (B_vehicles b).toNatClampNeg p0) (B_places b) (B_nextNumber b) (B_hour b) (B_rate b) (B_till b) (B_paid b) (B_crossed b) (B_sunk b)] : List va_W).flatten _ := hP
    have hD : va_D A ([wBc g a (B_spans b) (B_lengths b) (B_jars b) (B_ages b) (B_cracks b) (B_stresses b) (B_vehicles b) (upd (B_numbers b) (B_vehicles b).toNatClampNeg (B_nextNumber b)) (upd (B_weights b) (B_vehicles b).toNatClampNeg p0) (B_places b) (B_nextNumber b) (B_hour b) (B_rate b) (B_till b) (B_paid b) (B_crossed b) (B_sunk b)] : List va_W).flatten := hD
    refine lv_aload_n hx hb dX0_appendVehicle_30 rfl (lv_at hl 1 rfl) ?_
    refine va_get (D := g.1) (ci := 4) (v := .ref (a 8)) (C := RX0) (T := TX0) (N := 17) hx hb hts inX0 hown hK hP 0 rfl rfl 9 (by decide) (hts _ mw_66) (fun _ h9 => h9) rfl dX0_appendVehicle_31 ?_
    refine lv_iload_n hx hb dX0_appendVehicle_34 rfl (lv_at hl 0 rfl) ?_
    refine lv_iconst (v := 0) hx hb dX0_appendVehicle_35 (by decide) ?_
    have h4 := inb_in (ck_t hF)
    have hF := ck_s hF
    refine va_iast hx hb hK hP hD hS 8 0 rfl rfl h4 dX0_appendVehicle_36 (fun H locs hP hD hS => ?_)
    have hP : va_P g.1 vwCl ([wBc g a (B_spans b) (B_lengths b) (B_jars b) (B_ages b) (B_cracks b) (B_stresses b) (B_vehicles b) (upd (B_numbers b) (B_vehicles b).toNatClampNeg (B_nextNumber b)) (upd (B_weights b) (B_vehicles b).toNatClampNeg p0) (upd (B_places b) (B_vehicles b).toNatClampNeg 0) (B_nextNumber b) (B_hour b) (B_rate b) (B_till b) (B_paid b) (B_crossed b) (B_sunk b)] : List va_W).flatten _ := hP
    have hD : va_D A ([wBc g a (B_spans b) (B_lengths b) (B_jars b) (B_ages b) (B_cracks b) (B_stresses b) (B_vehicles b) (upd (B_numbers b) (B_vehicles b).toNatClampNeg (B_nextNumber b)) (upd (B_weights b) (B_vehicles b).toNatClampNeg p0) (upd (B_places b) (B_vehicles b).toNatClampNeg 0) (B_nextNumber b) (B_hour b) (B_rate b) (B_till b) (B_paid b) (B_crossed b) (B_sunk b)] : List va_W).flatten := hD
    refine lv_aload_n hx hb dX0_appendVehicle_37 rfl (lv_at hl 1 rfl) ?_
    refine lv_iload_n hx hb dX0_appendVehicle_38 rfl (lv_at hl 0 rfl) ?_
    refine lv_iconst (v := 1) hx hb dX0_appendVehicle_39 (by decide) ?_
    refine lv_iadd hx hb dX0_appendVehicle_40 ?_
    refine va_put (D := g.1) (ci := 4) (v := .int ((B_vehicles b) + 1)) (ty := .int) (C := RX0) (T := TX0) (N := 17) hx hb hts inX0 tyX0 tyX0_ok nmX0 hown hK hP hD hS 0 rfl rfl 6 (by decide) (hts _ mw_59) (fun _ h9 => h9) rfl (by decide +kernel) rfl rfl (Nat.le_of_ble_eq_true rfl) dX0_appendVehicle_41 (fun H locs hP hD hS => ?_)
    have hP : va_P g.1 vwCl ([wBc g a (B_spans b) (B_lengths b) (B_jars b) (B_ages b) (B_cracks b) (B_stresses b) ((B_vehicles b) + 1) (upd (B_numbers b) (B_vehicles b).toNatClampNeg (B_nextNumber b)) (upd (B_weights b) (B_vehicles b).toNatClampNeg p0) (upd (B_places b) (B_vehicles b).toNatClampNeg 0) (B_nextNumber b) (B_hour b) (B_rate b) (B_till b) (B_paid b) (B_crossed b) (B_sunk b)] : List va_W).flatten _ := hP
    have hD : va_D A ([wBc g a (B_spans b) (B_lengths b) (B_jars b) (B_ages b) (B_cracks b) (B_stresses b) ((B_vehicles b) + 1) (upd (B_numbers b) (B_vehicles b).toNatClampNeg (B_nextNumber b)) (upd (B_weights b) (B_vehicles b).toNatClampNeg p0) (upd (B_places b) (B_vehicles b).toNatClampNeg 0) (B_nextNumber b) (B_hour b) (B_rate b) (B_till b) (B_paid b) (B_crossed b) (B_sunk b)] : List va_W).flatten := hD
    refine lv_aload_n hx hb dX0_appendVehicle_44 rfl (lv_at hl 1 rfl) ?_
    refine lv_dup hx hb dX0_appendVehicle_45 rfl ?_
    refine va_get (D := g.1) (ci := 4) (v := .int (B_nextNumber b)) (C := RX0) (T := TX0) (N := 17) hx hb hts inX0 hown hK hP 0 rfl rfl 10 (by decide) (hts _ mw_68) (fun _ h9 => h9) rfl dX0_appendVehicle_46 ?_
    refine lv_iconst (v := 1) hx hb dX0_appendVehicle_49 (by decide) ?_
    refine lv_iadd hx hb dX0_appendVehicle_50 ?_
    refine va_put (D := g.1) (ci := 4) (v := .int ((B_nextNumber b) + 1)) (ty := .int) (C := RX0) (T := TX0) (N := 17) hx hb hts inX0 tyX0 tyX0_ok nmX0 hown hK hP hD hS 0 rfl rfl 10 (by decide) (hts _ mw_68) (fun _ h9 => h9) rfl (by decide +kernel) rfl rfl (Nat.le_of_ble_eq_true rfl) dX0_appendVehicle_51 (fun H locs hP hD hS => ?_)
    have hP : va_P g.1 vwCl ([wBc g a (B_spans b) (B_lengths b) (B_jars b) (B_ages b) (B_cracks b) (B_stresses b) ((B_vehicles b) + 1) (upd (B_numbers b) (B_vehicles b).toNatClampNeg (B_nextNumber b)) (upd (B_weights b) (B_vehicles b).toNatClampNeg p0) (upd (B_places b) (B_vehicles b).toNatClampNeg 0) ((B_nextNumber b) + 1) (B_hour b) (B_rate b) (B_till b) (B_paid b) (B_crossed b) (B_sunk b)] : List va_W).flatten _ := hP
    have hD : va_D A ([wBc g a (B_spans b) (B_lengths b) (B_jars b) (B_ages b) (B_cracks b) (B_stresses b) ((B_vehicles b) + 1) (upd (B_numbers b) (B_vehicles b).toNatClampNeg (B_nextNumber b)) (upd (B_weights b) (B_vehicles b).toNatClampNeg p0) (upd (B_places b) (B_vehicles b).toNatClampNeg 0) ((B_nextNumber b) + 1) (B_hour b) (B_rate b) (B_till b) (B_paid b) (B_crossed b) (B_sunk b)] : List va_W).flatten := hD
    refine lv_aload_n hx hb dX0_appendVehicle_54 rfl (lv_at hl 1 rfl) ?_
    refine va_get (D := g.1) (ci := 4) (v := .ref (a 6)) (C := RX0) (T := TX0) (N := 17) hx hb hts inX0 hown hK hP 0 rfl rfl 7 (by decide) (hts _ mw_62) (fun _ h9 => h9) rfl dX0_appendVehicle_55 ?_
    refine lv_iload_n hx hb dX0_appendVehicle_58 rfl (lv_at hl 0 rfl) ?_
    have h5 := inb_in (ck_t hF)
    have hF := ck_s hF
    refine va_iald hx hb hK hP 6 0 rfl rfl h5 dX0_appendVehicle_59 ?_
    cases hF
    rw [hQ]
    exact jb_iret hx hb hr hlocks hP hD hS dX0_appendVehicle_60 rfl (Nat.le_of_ble_eq_true rfl) (Nat.le_of_ble_eq_true rfl)
  · have hF := ob_neg c1 hF
    refine lv_iconst (v := (-1)) hx hb dX0_appendVehicle_11 (by decide) ?_
    cases hF
    rw [hQ]
    exact jb_iret hx hb hr hlocks hP hD hS dX0_appendVehicle_12 rfl (Nat.le_of_ble_eq_true rfl) (Nat.le_of_ble_eq_true rfl)
def F_X0_removeVehicle_L11  (k : Bv → Int32 → Option (Bv)) : Nat → Bv → Int32 → Option (Bv)
  | 0, _, _ => none
  | n + 1, b0, x2 => if (B_vehicles b0) ≤ (x2 + 1) then k b0 x2 else ck (inb (x2 + 1) 8) (ck (inb x2 8) (ck (inb (x2 + 1) 8) (ck (inb x2 8) (ck (inb (x2 + 1) 8) (ck (inb x2 8) (F_X0_removeVehicle_L11  k n (mkB (B_spans b0) (B_lengths b0) (B_jars b0) (B_ages b0) (B_cracks b0) (B_stresses b0) (B_vehicles b0) (upd (B_numbers b0) x2.toNatClampNeg ((B_numbers b0) (x2 + 1).toNatClampNeg)) (upd (B_weights b0) x2.toNatClampNeg ((B_weights b0) (x2 + 1).toNatClampNeg)) (upd (B_places b0) x2.toNatClampNeg ((B_places b0) (x2 + 1).toNatClampNeg)) (B_nextNumber b0) (B_hour b0) (B_rate b0) (B_till b0) (B_paid b0) (B_crossed b0) (B_sunk b0)) (x2 + 1)))))))
def F_X0_removeVehicle (b : Bv) (p0 : Int32) : Option (Bv) := (F_X0_hasPosition b p0).bind (fun z1 => if ¬ (bi z1) = 0 then F_X0_removeVehicle_L11  (fun b2 x3 => some (mkB (B_spans b2) (B_lengths b2) (B_jars b2) (B_ages b2) (B_cracks b2) (B_stresses b2) ((B_vehicles b2) - 1) (B_numbers b2) (B_weights b2) (B_places b2) (B_nextNumber b2) (B_hour b2) (B_rate b2) (B_till b2) (B_paid b2) (B_crossed b2) (B_sunk b2))) 1000 b p0 else some b)
set_option maxHeartbeats 4000000 in
set_option maxRecDepth 100000 in
theorem c_X0_removeVehicle (g : GG) (l : Launch) (a : Nat → Nat) (b : Bv) (p0 : Int32) (z : Bv) (hF : F_X0_removeVehicle b p0 = some z) : MV g l yX0_removeVehicle cX0_removeVehicle 3 none ({ frames := 1, cells := 0, slots := 0, locals := 21 } : Room) [.ref (a 0), .int p0] [wB g a b] 0 0 [wB g a z] := by
  refine MV.bg (by decide) (Nat.le_of_ble_eq_true rfl) ?_
  intro p e s m below meth c A Q hQ hx hb hr hml hown hts hlocks hmn hK hE hA hP hD hS ls hl
  rw [F_X0_removeVehicle] at hF
  have hl : lv_has ls 3 [(0, .ref (a 0)), (1, .int p0)] := hl
  refine lv_aload_n hx hb dX0_removeVehicle_0 rfl (lv_at hl 0 rfl) ?_
  refine lv_iload_n hx hb dX0_removeVehicle_1 rfl (lv_at hl 1 rfl) ?_
  obtain ⟨z1, hz1, hF⟩ := ob_bind hF
  refine cl_i (csR := []) (csF := [wB g a b]) (rest := []) hx hb hml hown hts hK hE hA hl hP hD hS (c_X0_hasPosition g l a b p0 z1 hz1) [0] [] [0] ⟨rfl, rfl, rfl, rfl, rfl, rfl, rfl⟩ ⟨0, 4, _, _, rfl, rfl, rfl⟩ 1 (jb_giV mw_988 mw_989 mw_990 mw_2 mw_991) ⟨rfl, rfl⟩ (by decide +kernel) ⟨⟨(Nat.le_of_ble_eq_true rfl), (Nat.le_of_ble_eq_true rfl)⟩, (Nat.le_of_ble_eq_true rfl), (Nat.le_of_ble_eq_true rfl)⟩ ⟨rfl, rfl⟩ (Nat.le_of_ble_eq_true rfl) dX0_removeVehicle_2 (fun H locs hP hD hS => ?_)
  refine lv_if_ne (tgt := 9) hx hb dX0_removeVehicle_5 (by decide) (fun c2 => ?_) (fun c2 => ?_)
  · have hF := ob_pos c2 hF
    refine lv_iload_n hx hb dX0_removeVehicle_9 rfl (lv_at hl 1 rfl) ?_
    refine lv_istore_n (lv' := [(2, .int p0), (0, .ref (a 0)), (1, .int p0)]) hx hb dX0_removeVehicle_10 rfl hl (by decide) rfl (fun ls hl => ?_)
    obtain ⟨k4, ek4, hF⟩ := ob_k (F := fun k9 => F_X0_removeVehicle_L11  k9 1000 b p0) hF
    have loop4 : ∀ (n9 : Nat) (b3 : Bv) (x4 : Int32), F_X0_removeVehicle_L11  k4 n9 b3 x4 = some z → ∀ (H : Heap) (locs : List Loc), va_P g.1 vwCl ([wB g a b3] : List va_W).flatten H → va_D A ([wB g a b3] : List va_W).flatten → va_S A s.heap H locs → ∀ ls : Array Slot, lv_has ls 3 [(0, .ref (a 0)), (2, .int x4)] → W p l e ({ frames := 1, cells := 0, slots := 0, locals := 21 } : Room) s m ([.ref (a 0), .int p0] : List Value).toArray below meth c H locs 0 0 Q (F0 m 11 ls []) := by
      intro n9
      induction n9 with
      | zero => intro b3 x4 hF; rw [F_X0_removeVehicle_L11] at hF; cases hF
      | succ n9 ih4 =>
        intro b3 x4 hF H locs hP hD hS ls hl
        rw [F_X0_removeVehicle_L11] at hF
        refine lv_iload_n hx hb dX0_removeVehicle_11 rfl (lv_at hl 1 rfl) ?_
        refine lv_iconst (v := 1) hx hb dX0_removeVehicle_12 (by decide) ?_
        refine lv_iadd hx hb dX0_removeVehicle_13 ?_
        refine lv_aload_n hx hb dX0_removeVehicle_14 rfl (lv_at hl 0 rfl) ?_
        refine va_get (D := g.1) (ci := 4) (v := .int (B_vehicles b3)) (C := RX0) (T := TX0) (N := 17) hx hb hts inX0 hown hK hP 0 rfl rfl 6 (by decide) (hts _ mw_59) (fun _ h9 => h9) rfl dX0_removeVehicle_15 ?_
        refine lv_icmp_ge (tgt := 69) hx hb dX0_removeVehicle_18 (by decide) (fun c5 => ?_) (fun c5 => ?_)
        · have hF := ob_pos c5 hF
          rw [ek4] at hF
          refine lv_aload_n hx hb dX0_removeVehicle_69 rfl (lv_at hl 0 rfl) ?_
          refine lv_dup hx hb dX0_removeVehicle_70 rfl ?_
          refine va_get (D := g.1) (ci := 4) (v := .int (B_vehicles b3)) (C := RX0) (T := TX0) (N := 17) hx hb hts inX0 hown hK hP 0 rfl rfl 6 (by decide) (hts _ mw_59) (fun _ h9 => h9) rfl dX0_removeVehicle_71 ?_
          refine lv_iconst (v := 1) hx hb dX0_removeVehicle_74 (by decide) ?_
          refine lv_isub hx hb dX0_removeVehicle_75 ?_
          refine va_put (D := g.1) (ci := 4) (v := .int ((B_vehicles b3) - 1)) (ty := .int) (C := RX0) (T := TX0) (N := 17) hx hb hts inX0 tyX0 tyX0_ok nmX0 hown hK hP hD hS 0 rfl rfl 6 (by decide) (hts _ mw_59) (fun _ h9 => h9) rfl (by decide +kernel) rfl rfl (Nat.le_of_ble_eq_true rfl) dX0_removeVehicle_76 (fun H locs hP hD hS => ?_)
          have hP : va_P g.1 vwCl ([wBc g a (B_spans b3) (B_lengths b3) (B_jars b3) (B_ages b3) (B_cracks b3) (B_stresses b3) ((B_vehicles b3) - 1) (B_numbers b3) (B_weights b3) (B_places b3) (B_nextNumber b3) (B_hour b3) (B_rate b3) (B_till b3) (B_paid b3) (B_crossed b3) (B_sunk b3)] : List va_W).flatten _ := hP
          have hD : va_D A ([wBc g a (B_spans b3) (B_lengths b3) (B_jars b3) (B_ages b3) (B_cracks b3) (B_stresses b3) ((B_vehicles b3) - 1) (B_numbers b3) (B_weights b3) (B_places b3) (B_nextNumber b3) (B_hour b3) (B_rate b3) (B_till b3) (B_paid b3) (B_crossed b3) (B_sunk b3)] : List va_W).flatten := hD
          cases hF
          rw [hQ]
          exact jb_vret hx hb hr hlocks hP hD hS dX0_removeVehicle_79 (Nat.le_of_ble_eq_true rfl) (Nat.le_of_ble_eq_true rfl)
        · have hF := ob_neg c5 hF
          refine lv_aload_n hx hb dX0_removeVehicle_21 rfl (lv_at hl 0 rfl) ?_
          refine va_get (D := g.1) (ci := 4) (v := .ref (a 6)) (C := RX0) (T := TX0) (N := 17) hx hb hts inX0 hown hK hP 0 rfl rfl 7 (by decide) (hts _ mw_62) (fun _ h9 => h9) rfl dX0_removeVehicle_22 ?_
          refine lv_iload_n hx hb dX0_removeVehicle_25 rfl (lv_at hl 1 rfl) ?_
          refine lv_aload_n hx hb dX0_removeVehicle_26 rfl (lv_at hl 0 rfl) ?_
          refine va_get (D := g.1) (ci := 4) (v := .ref (a 6)) (C := RX0) (T := TX0) (N := 17) hx hb hts inX0 hown hK hP 0 rfl rfl 7 (by decide) (hts _ mw_62) (fun _ h9 => h9) rfl dX0_removeVehicle_27 ?_
          refine lv_iload_n hx hb dX0_removeVehicle_30 rfl (lv_at hl 1 rfl) ?_
          refine lv_iconst (v := 1) hx hb dX0_removeVehicle_31 (by decide) ?_
          refine lv_iadd hx hb dX0_removeVehicle_32 ?_
          have h6 := inb_in (ck_t hF)
          have hF := ck_s hF
          refine va_iald hx hb hK hP 6 0 rfl rfl h6 dX0_removeVehicle_33 ?_
          have h7 := inb_in (ck_t hF)
          have hF := ck_s hF
          refine va_iast hx hb hK hP hD hS 6 0 rfl rfl h7 dX0_removeVehicle_34 (fun H locs hP hD hS => ?_)
          have hP : va_P g.1 vwCl ([wBc g a (B_spans b3) (B_lengths b3) (B_jars b3) (B_ages b3) (B_cracks b3) (B_stresses b3) (B_vehicles b3) (upd (B_numbers b3) x4.toNatClampNeg ((B_numbers b3) (x4 + 1).toNatClampNeg)) (B_weights b3) (B_places b3) (B_nextNumber b3) (B_hour b3) (B_rate b3) (B_till b3) (B_paid b3) (B_crossed b3) (B_sunk b3)] : List va_W).flatten _ := hP
          have hD : va_D A ([wBc g a (B_spans b3) (B_lengths b3) (B_jars b3) (B_ages b3) (B_cracks b3) (B_stresses b3) (B_vehicles b3) (upd (B_numbers b3) x4.toNatClampNeg ((B_numbers b3) (x4 + 1).toNatClampNeg)) (B_weights b3) (B_places b3) (B_nextNumber b3) (B_hour b3) (B_rate b3) (B_till b3) (B_paid b3) (B_crossed b3) (B_sunk b3)] : List va_W).flatten := hD
          refine lv_aload_n hx hb dX0_removeVehicle_35 rfl (lv_at hl 0 rfl) ?_
          refine va_get (D := g.1) (ci := 4) (v := .ref (a 7)) (C := RX0) (T := TX0) (N := 17) hx hb hts inX0 hown hK hP 0 rfl rfl 8 (by decide) (hts _ mw_64) (fun _ h9 => h9) rfl dX0_removeVehicle_36 ?_
          refine lv_iload_n hx hb dX0_removeVehicle_39 rfl (lv_at hl 1 rfl) ?_
          refine lv_aload_n hx hb dX0_removeVehicle_40 rfl (lv_at hl 0 rfl) ?_
          refine va_get (D := g.1) (ci := 4) (v := .ref (a 7)) (C := RX0) (T := TX0) (N := 17) hx hb hts inX0 hown hK hP 0 rfl rfl 8 (by decide) (hts _ mw_64) (fun _ h9 => h9) rfl dX0_removeVehicle_41 ?_
          refine lv_iload_n hx hb dX0_removeVehicle_44 rfl (lv_at hl 1 rfl) ?_
          refine lv_iconst (v := 1) hx hb dX0_removeVehicle_45 (by decide) ?_
          refine lv_iadd hx hb dX0_removeVehicle_46 ?_
          have h8 := inb_in (ck_t hF)
          have hF := ck_s hF
          refine va_iald hx hb hK hP 7 0 rfl rfl h8 dX0_removeVehicle_47 ?_
          have h9 := inb_in (ck_t hF)
          have hF := ck_s hF
          refine va_iast hx hb hK hP hD hS 7 0 rfl rfl h9 dX0_removeVehicle_48 (fun H locs hP hD hS => ?_)
          have hP : va_P g.1 vwCl ([wBc g a (B_spans b3) (B_lengths b3) (B_jars b3) (B_ages b3) (B_cracks b3) (B_stresses b3) (B_vehicles b3) (upd (B_numbers b3) x4.toNatClampNeg ((B_numbers b3) (x4 + 1).toNatClampNeg)) (upd (B_weights b3) x4.toNatClampNeg ((B_weights b3) (x4 + 1).toNatClampNeg)) (B_places b3) (B_nextNumber b3) (B_hour b3) (B_rate b3) (B_till b3) (B_paid b3) (B_crossed b3) (B_sunk b3)] : List va_W).flatten _ := hP
          have hD : va_D A ([wBc g a (B_spans b3) (B_lengths b3) (B_jars b3) (B_ages b3) (B_cracks b3) (B_stresses b3) (B_vehicles b3) (upd (B_numbers b3) x4.toNatClampNeg ((B_numbers b3) (x4 + 1).toNatClampNeg)) (upd (B_weights b3) x4.toNatClampNeg ((B_weights b3) (x4 + 1).toNatClampNeg)) (B_places b3) (B_nextNumber b3) (B_hour b3) (B_rate b3) (B_till b3) (B_paid b3) (B_crossed b3) (B_sunk b3)] : List va_W).flatten := hD
          refine lv_aload_n hx hb dX0_removeVehicle_49 rfl (lv_at hl 0 rfl) ?_
          refine va_get (D := g.1) (ci := 4) (v := .ref (a 8)) (C := RX0) (T := TX0) (N := 17) hx hb hts inX0 hown hK hP 0 rfl rfl 9 (by decide) (hts _ mw_66) (fun _ h9 => h9) rfl dX0_removeVehicle_50 ?_
          refine lv_iload_n hx hb dX0_removeVehicle_53 rfl (lv_at hl 1 rfl) ?_
          refine lv_aload_n hx hb dX0_removeVehicle_54 rfl (lv_at hl 0 rfl) ?_
          refine va_get (D := g.1) (ci := 4) (v := .ref (a 8)) (C := RX0) (T := TX0) (N := 17) hx hb hts inX0 hown hK hP 0 rfl rfl 9 (by decide) (hts _ mw_66) (fun _ h9 => h9) rfl dX0_removeVehicle_55 ?_
          refine lv_iload_n hx hb dX0_removeVehicle_58 rfl (lv_at hl 1 rfl) ?_
          refine lv_iconst (v := 1) hx hb dX0_removeVehicle_59 (by decide) ?_
          refine lv_iadd hx hb dX0_removeVehicle_60 ?_
          have h10 := inb_in (ck_t hF)
          have hF := ck_s hF
          refine va_iald hx hb hK hP 8 0 rfl rfl h10 dX0_removeVehicle_61 ?_
          have h11 := inb_in (ck_t hF)
          have hF := ck_s hF
          refine va_iast hx hb hK hP hD hS 8 0 rfl rfl h11 dX0_removeVehicle_62 (fun H locs hP hD hS => ?_)
          have hP : va_P g.1 vwCl ([wBc g a (B_spans b3) (B_lengths b3) (B_jars b3) (B_ages b3) (B_cracks b3) (B_stresses b3) (B_vehicles b3) (upd (B_numbers b3) x4.toNatClampNeg ((B_numbers b3) (x4 + 1).toNatClampNeg)) (upd (B_weights b3) x4.toNatClampNeg ((B_weights b3) (x4 + 1).toNatClampNeg)) (upd (B_places b3) x4.toNatClampNeg ((B_places b3) (x4 + 1).toNatClampNeg)) (B_nextNumber b3) (B_hour b3) (B_rate b3) (B_till b3) (B_paid b3) (B_crossed b3) (B_sunk b3)] : List va_W).flatten _ := hP
          have hD : va_D A ([wBc g a (B_spans b3) (B_lengths b3) (B_jars b3) (B_ages b3) (B_cracks b3) (B_stresses b3) (B_vehicles b3) (upd (B_numbers b3) x4.toNatClampNeg ((B_numbers b3) (x4 + 1).toNatClampNeg)) (upd (B_weights b3) x4.toNatClampNeg ((B_weights b3) (x4 + 1).toNatClampNeg)) (upd (B_places b3) x4.toNatClampNeg ((B_places b3) (x4 + 1).toNatClampNeg)) (B_nextNumber b3) (B_hour b3) (B_rate b3) (B_till b3) (B_paid b3) (B_crossed b3) (B_sunk b3)] : List va_W).flatten := hD
          refine lv_iinc (v := x4 + 1) (lv' := [(2, .int (x4 + 1)), (0, .ref (a 0))]) hx hb dX0_removeVehicle_63 hl (k := 1) rfl (by rfl) (by decide) rfl (fun ls hl => ?_)
          refine lv_goto (tgt := 11) hx hb dX0_removeVehicle_66 (by decide) ?_
          exact ih4 _ _ hF _ _ hP hD hS ls (lv_sub hl [1, 0] rfl)
    exact loop4 1000 _ _ hF _ _ hP hD hS ls (lv_sub hl [1, 0] rfl)
  · have hF := ob_nneg c2 hF
    cases hF
    rw [hQ]
    exact jb_vret hx hb hr hlocks hP hD hS dX0_removeVehicle_8 (Nat.le_of_ble_eq_true rfl) (Nat.le_of_ble_eq_true rfl)
def F_X0_ageSpans_L2  (k : Bv → Int32 → Option (Bv)) : Nat → Bv → Int32 → Option (Bv)
  | 0, _, _ => none
  | n + 1, b0, x1 => if (B_spans b0) ≤ x1 then k b0 x1 else ck (inb x1 10) (if ((B_jars b0) x1.toNatClampNeg) ≤ 0 then F_X0_ageSpans_L2  k n b0 (x1 + 1) else ck (inb x1 10) (ck (inb x1 10) (F_X0_ageSpans_L2  k n (mkB (B_spans b0) (B_lengths b0) (B_jars b0) (upd (B_ages b0) x1.toNatClampNeg (((B_ages b0) x1.toNatClampNeg) + 1)) (B_cracks b0) (B_stresses b0) (B_vehicles b0) (B_numbers b0) (B_weights b0) (B_places b0) (B_nextNumber b0) (B_hour b0) (B_rate b0) (B_till b0) (B_paid b0) (B_crossed b0) (B_sunk b0)) (x1 + 1))))
def F_X0_ageSpans (b : Bv) : Option (Bv) := F_X0_ageSpans_L2  (fun b1 x2 => some b1) 1000 b 0
set_option maxHeartbeats 4000000 in
set_option maxRecDepth 100000 in
theorem c_X0_ageSpans (g : GG) (l : Launch) (a : Nat → Nat) (b : Bv) (z : Bv) (hF : F_X0_ageSpans b = some z) : MV g l yX0_ageSpans cX0_ageSpans 2 none ({ frames := 0, cells := 0, slots := 0, locals := 0 } : Room) [.ref (a 0)] [wB g a b] 0 0 [wB g a z] := by
  refine MV.bg (by decide) (Nat.le_of_ble_eq_true rfl) ?_
  intro p e s m below meth c A Q hQ hx hb hr hml hown hts hlocks hmn hK hE hA hP hD hS ls hl
  rw [F_X0_ageSpans] at hF
  have hl : lv_has ls 2 [(0, .ref (a 0))] := hl
  refine lv_iconst (v := 0) hx hb dX0_ageSpans_0 (by decide) ?_
  refine lv_istore_n (lv' := [(1, .int 0), (0, .ref (a 0))]) hx hb dX0_ageSpans_1 rfl hl (by decide) rfl (fun ls hl => ?_)
  obtain ⟨k2, ek2, hF⟩ := ob_k (F := fun k9 => F_X0_ageSpans_L2  k9 1000 b 0) hF
  have loop2 : ∀ (n9 : Nat) (b1 : Bv) (x2 : Int32), F_X0_ageSpans_L2  k2 n9 b1 x2 = some z → ∀ (H : Heap) (locs : List Loc), va_P g.1 vwCl ([wB g a b1] : List va_W).flatten H → va_D A ([wB g a b1] : List va_W).flatten → va_S A s.heap H locs → ∀ ls : Array Slot, lv_has ls 2 [(0, .ref (a 0)), (1, .int x2)] → W p l e ({ frames := 0, cells := 0, slots := 0, locals := 0 } : Room) s m ([.ref (a 0)] : List Value).toArray below meth c H locs 0 0 Q (F0 m 2 ls []) := by
    intro n9
    induction n9 with
    | zero => intro b1 x2 hF; rw [F_X0_ageSpans_L2] at hF; cases hF
    | succ n9 ih2 =>
      intro b1 x2 hF H locs hP hD hS ls hl
      rw [F_X0_ageSpans_L2] at hF
      refine lv_iload_n hx hb dX0_ageSpans_2 rfl (lv_at hl 1 rfl) ?_
      refine lv_aload_n hx hb dX0_ageSpans_3 rfl (lv_at hl 0 rfl) ?_
      refine va_get (D := g.1) (ci := 4) (v := .int (B_spans b1)) (C := RX0) (T := TX0) (N := 17) hx hb hts inX0 hown hK hP 0 rfl rfl 0 (by decide) (hts _ mw_44) (fun _ h9 => h9) rfl dX0_ageSpans_4 ?_
      refine lv_icmp_ge (tgt := 35) hx hb dX0_ageSpans_7 (by decide) (fun c3 => ?_) (fun c3 => ?_)
      · have hF := ob_pos c3 hF
        rw [ek2] at hF
        cases hF
        rw [hQ]
        exact jb_vret hx hb hr hlocks hP hD hS dX0_ageSpans_35 (Nat.le_of_ble_eq_true rfl) (Nat.le_of_ble_eq_true rfl)
      · have hF := ob_neg c3 hF
        refine lv_aload_n hx hb dX0_ageSpans_10 rfl (lv_at hl 0 rfl) ?_
        refine va_get (D := g.1) (ci := 4) (v := .ref (a 2)) (C := RX0) (T := TX0) (N := 17) hx hb hts inX0 hown hK hP 0 rfl rfl 2 (by decide) (hts _ mw_49) (fun _ h9 => h9) rfl dX0_ageSpans_11 ?_
        refine lv_iload_n hx hb dX0_ageSpans_14 rfl (lv_at hl 1 rfl) ?_
        have h4 := inb_in (ck_t hF)
        have hF := ck_s hF
        refine va_iald hx hb hK hP 2 0 rfl rfl h4 dX0_ageSpans_15 ?_
        refine lv_if_le (tgt := 29) hx hb dX0_ageSpans_16 (by decide) (fun c5 => ?_) (fun c5 => ?_)
        · have hF := ob_pos c5 hF
          refine lv_iinc (v := x2 + 1) (lv' := [(1, .int (x2 + 1)), (0, .ref (a 0))]) hx hb dX0_ageSpans_29 hl (k := 1) rfl (by rfl) (by decide) rfl (fun ls hl => ?_)
          refine lv_goto (tgt := 2) hx hb dX0_ageSpans_32 (by decide) ?_
          exact ih2 _ _ hF _ _ hP hD hS ls (lv_sub hl [1, 0] rfl)
        · have hF := ob_neg c5 hF
          refine lv_aload_n hx hb dX0_ageSpans_19 rfl (lv_at hl 0 rfl) ?_
          refine va_get (D := g.1) (ci := 4) (v := .ref (a 3)) (C := RX0) (T := TX0) (N := 17) hx hb hts inX0 hown hK hP 0 rfl rfl 3 (by decide) (hts _ mw_52) (fun _ h9 => h9) rfl dX0_ageSpans_20 ?_
          refine lv_iload_n hx hb dX0_ageSpans_23 rfl (lv_at hl 1 rfl) ?_
          refine lv_dup2_11 hx hb dX0_ageSpans_24 rfl rfl ?_
          have h6 := inb_in (ck_t hF)
          have hF := ck_s hF
          refine va_iald hx hb hK hP 3 0 rfl rfl h6 dX0_ageSpans_25 ?_
          refine lv_iconst (v := 1) hx hb dX0_ageSpans_26 (by decide) ?_
          refine lv_iadd hx hb dX0_ageSpans_27 ?_
          have h7 := inb_in (ck_t hF)
          have hF := ck_s hF
          refine va_iast hx hb hK hP hD hS 3 0 rfl rfl h7 dX0_ageSpans_28 (fun H locs hP hD hS => ?_)
          have hP : va_P g.1 vwCl ([wBc g a (B_spans b1) (B_lengths b1) (B_jars b1) (upd (B_ages b1) x2.toNatClampNeg (((B_ages b1) x2.toNatClampNeg) + 1)) (B_cracks b1) (B_stresses b1) (B_vehicles b1) (B_numbers b1) (B_weights b1) (B_places b1) (B_nextNumber b1) (B_hour b1) (B_rate b1) (B_till b1) (B_paid b1) (B_crossed b1) (B_sunk b1)] : List va_W).flatten _ := hP
          have hD : va_D A ([wBc g a (B_spans b1) (B_lengths b1) (B_jars b1) (upd (B_ages b1) x2.toNatClampNeg (((B_ages b1) x2.toNatClampNeg) + 1)) (B_cracks b1) (B_stresses b1) (B_vehicles b1) (B_numbers b1) (B_weights b1) (B_places b1) (B_nextNumber b1) (B_hour b1) (B_rate b1) (B_till b1) (B_paid b1) (B_crossed b1) (B_sunk b1)] : List va_W).flatten := hD
          refine lv_iinc (v := x2 + 1) (lv' := [(1, .int (x2 + 1)), (0, .ref (a 0))]) hx hb dX0_ageSpans_29 hl (k := 1) rfl (by rfl) (by decide) rfl (fun ls hl => ?_)
          refine lv_goto (tgt := 2) hx hb dX0_ageSpans_32 (by decide) ?_
          exact ih2 _ _ hF _ _ hP hD hS ls (lv_sub hl [1, 0] rfl)
  exact loop2 1000 _ _ hF _ _ hP hD hS ls (lv_sub hl [1, 0] rfl)
def F_X0_payToll (b : Bv) (p0 : Int32) : Option (Bv) := (F_X0_tollAt b p0).bind (fun z1 => some (mkB (B_spans b) (B_lengths b) (B_jars b) (B_ages b) (B_cracks b) (B_stresses b) (B_vehicles b) (B_numbers b) (B_weights b) (B_places b) (B_nextNumber b) (B_hour b) (B_rate b) ((B_till b) + z1) ((B_paid b) + z1) ((B_crossed b) + 1) (B_sunk b)))
set_option maxHeartbeats 4000000 in
set_option maxRecDepth 100000 in
theorem c_X0_payToll (g : GG) (l : Launch) (a : Nat → Nat) (b : Bv) (p0 : Int32) (z : Bv) (hF : F_X0_payToll b p0 = some z) : MV g l yX0_payToll cX0_payToll 3 none ({ frames := 2, cells := 0, slots := 0, locals := 42 } : Room) [.ref (a 0), .int p0] [wB g a b] 0 0 [wB g a z] := by
  refine MV.bg (by decide) (Nat.le_of_ble_eq_true rfl) ?_
  intro p e s m below meth c A Q hQ hx hb hr hml hown hts hlocks hmn hK hE hA hP hD hS ls hl
  rw [F_X0_payToll] at hF
  have hl : lv_has ls 3 [(0, .ref (a 0)), (1, .int p0)] := hl
  refine lv_aload_n hx hb dX0_payToll_0 rfl (lv_at hl 0 rfl) ?_
  refine lv_iload_n hx hb dX0_payToll_1 rfl (lv_at hl 1 rfl) ?_
  obtain ⟨z1, hz1, hF⟩ := ob_bind hF
  refine cl_i (csR := []) (csF := [wB g a b]) (rest := []) hx hb hml hown hts hK hE hA hl hP hD hS (c_X0_tollAt g l a b p0 z1 hz1) [0] [] [0] ⟨rfl, rfl, rfl, rfl, rfl, rfl, rfl⟩ ⟨0, 4, _, _, rfl, rfl, rfl⟩ 1 (jb_giV mw_996 mw_997 mw_998 mw_2 mw_999) ⟨rfl, rfl⟩ (by decide +kernel) ⟨⟨(Nat.le_of_ble_eq_true rfl), (Nat.le_of_ble_eq_true rfl)⟩, (Nat.le_of_ble_eq_true rfl), (Nat.le_of_ble_eq_true rfl)⟩ ⟨rfl, rfl⟩ (Nat.le_of_ble_eq_true rfl) dX0_payToll_2 (fun H locs hP hD hS => ?_)
  refine lv_istore_n (lv' := [(2, .int z1), (0, .ref (a 0)), (1, .int p0)]) hx hb dX0_payToll_5 rfl hl (by decide) rfl (fun ls hl => ?_)
  refine lv_aload_n hx hb dX0_payToll_6 rfl (lv_at hl 1 rfl) ?_
  refine lv_dup hx hb dX0_payToll_7 rfl ?_
  refine va_get (D := g.1) (ci := 4) (v := .int (B_till b)) (C := RX0) (T := TX0) (N := 17) hx hb hts inX0 hown hK hP 0 rfl rfl 13 (by decide) (hts _ mw_75) (fun _ h9 => h9) rfl dX0_payToll_8 ?_
  refine lv_iload_n hx hb dX0_payToll_11 rfl (lv_at hl 0 rfl) ?_
  refine lv_iadd hx hb dX0_payToll_12 ?_
  refine va_put (D := g.1) (ci := 4) (v := .int ((B_till b) + z1)) (ty := .int) (C := RX0) (T := TX0) (N := 17) hx hb hts inX0 tyX0 tyX0_ok nmX0 hown hK hP hD hS 0 rfl rfl 13 (by decide) (hts _ mw_75) (fun _ h9 => h9) rfl (by decide +kernel) rfl rfl (Nat.le_of_ble_eq_true rfl) dX0_payToll_13 (fun H locs hP hD hS => ?_)
  have hP : va_P g.1 vwCl ([wBc g a (B_spans b) (B_lengths b) (B_jars b) (B_ages b) (B_cracks b) (B_stresses b) (B_vehicles b) (B_numbers b) (B_weights b) (B_places b) (B_nextNumber b) (B_hour b) (B_rate b) ((B_till b) + z1) (B_paid b) (B_crossed b) (B_sunk b)] : List va_W).flatten _ := hP
  have hD : va_D A ([wBc g a (B_spans b) (B_lengths b) (B_jars b) (B_ages b) (B_cracks b) (B_stresses b) (B_vehicles b) (B_numbers b) (B_weights b) (B_places b) (B_nextNumber b) (B_hour b) (B_rate b) ((B_till b) + z1) (B_paid b) (B_crossed b) (B_sunk b)] : List va_W).flatten := hD
  refine lv_aload_n hx hb dX0_payToll_16 rfl (lv_at hl 1 rfl) ?_
  refine lv_dup hx hb dX0_payToll_17 rfl ?_
  refine va_get (D := g.1) (ci := 4) (v := .int (B_paid b)) (C := RX0) (T := TX0) (N := 17) hx hb hts inX0 hown hK hP 0 rfl rfl 14 (by decide) (hts _ mw_78) (fun _ h9 => h9) rfl dX0_payToll_18 ?_
  refine lv_iload_n hx hb dX0_payToll_21 rfl (lv_at hl 0 rfl) ?_
  refine lv_iadd hx hb dX0_payToll_22 ?_
  refine va_put (D := g.1) (ci := 4) (v := .int ((B_paid b) + z1)) (ty := .int) (C := RX0) (T := TX0) (N := 17) hx hb hts inX0 tyX0 tyX0_ok nmX0 hown hK hP hD hS 0 rfl rfl 14 (by decide) (hts _ mw_78) (fun _ h9 => h9) rfl (by decide +kernel) rfl rfl (Nat.le_of_ble_eq_true rfl) dX0_payToll_23 (fun H locs hP hD hS => ?_)
  have hP : va_P g.1 vwCl ([wBc g a (B_spans b) (B_lengths b) (B_jars b) (B_ages b) (B_cracks b) (B_stresses b) (B_vehicles b) (B_numbers b) (B_weights b) (B_places b) (B_nextNumber b) (B_hour b) (B_rate b) ((B_till b) + z1) ((B_paid b) + z1) (B_crossed b) (B_sunk b)] : List va_W).flatten _ := hP
  have hD : va_D A ([wBc g a (B_spans b) (B_lengths b) (B_jars b) (B_ages b) (B_cracks b) (B_stresses b) (B_vehicles b) (B_numbers b) (B_weights b) (B_places b) (B_nextNumber b) (B_hour b) (B_rate b) ((B_till b) + z1) ((B_paid b) + z1) (B_crossed b) (B_sunk b)] : List va_W).flatten := hD
  refine lv_aload_n hx hb dX0_payToll_26 rfl (lv_at hl 1 rfl) ?_
  refine lv_dup hx hb dX0_payToll_27 rfl ?_
  refine va_get (D := g.1) (ci := 4) (v := .int (B_crossed b)) (C := RX0) (T := TX0) (N := 17) hx hb hts inX0 hown hK hP 0 rfl rfl 15 (by decide) (hts _ mw_80) (fun _ h9 => h9) rfl dX0_payToll_28 ?_
  refine lv_iconst (v := 1) hx hb dX0_payToll_31 (by decide) ?_
  refine lv_iadd hx hb dX0_payToll_32 ?_
  refine va_put (D := g.1) (ci := 4) (v := .int ((B_crossed b) + 1)) (ty := .int) (C := RX0) (T := TX0) (N := 17) hx hb hts inX0 tyX0 tyX0_ok nmX0 hown hK hP hD hS 0 rfl rfl 15 (by decide) (hts _ mw_80) (fun _ h9 => h9) rfl (by decide +kernel) rfl rfl (Nat.le_of_ble_eq_true rfl) dX0_payToll_33 (fun H locs hP hD hS => ?_)
  have hP : va_P g.1 vwCl ([wBc g a (B_spans b) (B_lengths b) (B_jars b) (B_ages b) (B_cracks b) (B_stresses b) (B_vehicles b) (B_numbers b) (B_weights b) (B_places b) (B_nextNumber b) (B_hour b) (B_rate b) ((B_till b) + z1) ((B_paid b) + z1) ((B_crossed b) + 1) (B_sunk b)] : List va_W).flatten _ := hP
  have hD : va_D A ([wBc g a (B_spans b) (B_lengths b) (B_jars b) (B_ages b) (B_cracks b) (B_stresses b) (B_vehicles b) (B_numbers b) (B_weights b) (B_places b) (B_nextNumber b) (B_hour b) (B_rate b) ((B_till b) + z1) ((B_paid b) + z1) ((B_crossed b) + 1) (B_sunk b)] : List va_W).flatten := hD
  cases hF
  rw [hQ]
  exact jb_vret hx hb hr hlocks hP hD hS dX0_payToll_36 (Nat.le_of_ble_eq_true rfl) (Nat.le_of_ble_eq_true rfl)
def F_X0_mayMove_L19 (b : Bv) (y1 : Int32) (y2 : Int32) (k : Int32 → Option (Bool)) : Nat → Int32 → Option (Bool)
  | 0, _ => none
  | n + 1, x3 => if y1 ≤ x3 then k x3 else ck (inb x3 8) (if ¬ ((B_places b) x3.toNatClampNeg) = y2 then F_X0_mayMove_L19 b y1 y2 k n (x3 + 1) else some false)
def F_X0_mayMove (b : Bv) (p0 : Int32) : Option (Bool) := (F_X0_hasPosition b p0).bind (fun z1 => if ¬ (bi z1) = 0 then ck (inb p0 8) (F_X0_mayMove_L19 b p0 ((B_places b) p0.toNatClampNeg) (fun x2 => (F_X0_loadOf b (((B_places b) p0.toNatClampNeg) + 1)).bind (fun z3 => ck (inb p0 8) ((F_X0_strengthOf b (((B_places b) p0.toNatClampNeg) + 1)).bind (fun z4 => if z4 < (z3 + ((B_weights b) p0.toNatClampNeg)) then some false else some true)))) 1000 0) else some false)
set_option maxHeartbeats 4000000 in
set_option maxRecDepth 100000 in
theorem c_X0_mayMove (g : GG) (l : Launch) (a : Nat → Nat) (b : Bv) (p0 : Int32) (z : Bool) (hF : F_X0_mayMove b p0 = some z) : MI g l yX0_mayMove cX0_mayMove 4 (some .boolean) ({ frames := 2, cells := 0, slots := 0, locals := 43 } : Room) [.ref (a 0), .int p0] [wB g a b] 0 0 (bi z) [wB g a b] := by
  refine MI.bg (by decide) (Nat.le_of_ble_eq_true rfl) ?_
  intro p e s m below meth c A Q hQ hx hb hr hml hown hts hlocks hmn hK hE hA hP hD hS ls hl
  rw [F_X0_mayMove] at hF
  have hl : lv_has ls 4 [(0, .ref (a 0)), (1, .int p0)] := hl
  refine lv_aload_n hx hb dX0_mayMove_0 rfl (lv_at hl 0 rfl) ?_
  refine lv_iload_n hx hb dX0_mayMove_1 rfl (lv_at hl 1 rfl) ?_
  obtain ⟨z1, hz1, hF⟩ := ob_bind hF
  refine cl_i (csR := []) (csF := [wB g a b]) (rest := []) hx hb hml hown hts hK hE hA hl hP hD hS (c_X0_hasPosition g l a b p0 z1 hz1) [0] [] [0] ⟨rfl, rfl, rfl, rfl, rfl, rfl, rfl⟩ ⟨0, 4, _, _, rfl, rfl, rfl⟩ 1 (jb_giV mw_988 mw_989 mw_990 mw_2 mw_991) ⟨rfl, rfl⟩ (by decide +kernel) ⟨⟨(Nat.le_of_ble_eq_true rfl), (Nat.le_of_ble_eq_true rfl)⟩, (Nat.le_of_ble_eq_true rfl), (Nat.le_of_ble_eq_true rfl)⟩ ⟨rfl, rfl⟩ (Nat.le_of_ble_eq_true rfl) dX0_mayMove_2 (fun H locs hP hD hS => ?_)
  refine lv_if_ne (tgt := 10) hx hb dX0_mayMove_5 (by decide) (fun c2 => ?_) (fun c2 => ?_)
  · have hF := ob_pos c2 hF
    refine lv_aload_n hx hb dX0_mayMove_10 rfl (lv_at hl 0 rfl) ?_
    refine va_get (D := g.1) (ci := 4) (v := .ref (a 8)) (C := RX0) (T := TX0) (N := 17) hx hb hts inX0 hown hK hP 0 rfl rfl 9 (by decide) (hts _ mw_66) (fun _ h9 => h9) rfl dX0_mayMove_11 ?_
    refine lv_iload_n hx hb dX0_mayMove_14 rfl (lv_at hl 1 rfl) ?_
    have h3 := inb_in (ck_t hF)
    have hF := ck_s hF
    refine va_iald hx hb hK hP 8 0 rfl rfl h3 dX0_mayMove_15 ?_
    refine lv_istore_n (lv' := [(2, .int ((B_places b) p0.toNatClampNeg)), (0, .ref (a 0)), (1, .int p0)]) hx hb dX0_mayMove_16 rfl hl (by decide) rfl (fun ls hl => ?_)
    refine lv_iconst (v := 0) hx hb dX0_mayMove_17 (by decide) ?_
    refine lv_istore_n (lv' := [(3, .int 0), (2, .int ((B_places b) p0.toNatClampNeg)), (0, .ref (a 0)), (1, .int p0)]) hx hb dX0_mayMove_18 rfl hl (by decide) rfl (fun ls hl => ?_)
    obtain ⟨k4, ek4, hF⟩ := ob_k (F := fun k9 => F_X0_mayMove_L19 b p0 ((B_places b) p0.toNatClampNeg) k9 1000 0) hF
    have loop4 : ∀ (n9 : Nat) (x4 : Int32), F_X0_mayMove_L19 b p0 ((B_places b) p0.toNatClampNeg) k4 n9 x4 = some z → ∀ (H : Heap) (locs : List Loc), va_P g.1 vwCl ([wB g a b] : List va_W).flatten H → va_D A ([wB g a b] : List va_W).flatten → va_S A s.heap H locs → ∀ ls : Array Slot, lv_has ls 4 [(0, .ref (a 0)), (1, .int p0), (2, .int ((B_places b) p0.toNatClampNeg)), (3, .int x4)] → W p l e ({ frames := 2, cells := 0, slots := 0, locals := 43 } : Room) s m ([.ref (a 0), .int p0] : List Value).toArray below meth c H locs 0 0 Q (F0 m 19 ls []) := by
      intro n9
      induction n9 with
      | zero => intro x4 hF; rw [F_X0_mayMove_L19] at hF; cases hF
      | succ n9 ih4 =>
        intro x4 hF H locs hP hD hS ls hl
        rw [F_X0_mayMove_L19] at hF
        refine lv_iload_n hx hb dX0_mayMove_19 rfl (lv_at hl 3 rfl) ?_
        refine lv_iload_n hx hb dX0_mayMove_20 rfl (lv_at hl 1 rfl) ?_
        refine lv_icmp_ge (tgt := 42) hx hb dX0_mayMove_21 (by decide) (fun c5 => ?_) (fun c5 => ?_)
        · have hF := ob_pos c5 hF
          rw [ek4] at hF
          refine lv_aload_n hx hb dX0_mayMove_42 rfl (lv_at hl 0 rfl) ?_
          refine lv_iload_n hx hb dX0_mayMove_43 rfl (lv_at hl 2 rfl) ?_
          refine lv_iconst (v := 1) hx hb dX0_mayMove_44 (by decide) ?_
          refine lv_iadd hx hb dX0_mayMove_45 ?_
          obtain ⟨z6, hz6, hF⟩ := ob_bind hF
          refine cl_i (csR := []) (csF := [wB g a b]) (rest := []) hx hb hml hown hts hK hE hA hl hP hD hS (c_X0_loadOf g l a b (((B_places b) p0.toNatClampNeg) + 1) z6 hz6) [0] [] [0] ⟨rfl, rfl, rfl, rfl, rfl, rfl, rfl⟩ ⟨0, 4, _, _, rfl, rfl, rfl⟩ 1 (jb_giV mw_697 mw_273 mw_274 mw_2 mw_275) ⟨rfl, rfl⟩ (by decide +kernel) ⟨⟨(Nat.le_of_ble_eq_true rfl), (Nat.le_of_ble_eq_true rfl)⟩, (Nat.le_of_ble_eq_true rfl), (Nat.le_of_ble_eq_true rfl)⟩ ⟨rfl, rfl⟩ (Nat.le_of_ble_eq_true rfl) dX0_mayMove_46 (fun H locs hP hD hS => ?_)
          refine lv_aload_n hx hb dX0_mayMove_49 rfl (lv_at hl 0 rfl) ?_
          refine va_get (D := g.1) (ci := 4) (v := .ref (a 7)) (C := RX0) (T := TX0) (N := 17) hx hb hts inX0 hown hK hP 0 rfl rfl 8 (by decide) (hts _ mw_64) (fun _ h9 => h9) rfl dX0_mayMove_50 ?_
          refine lv_iload_n hx hb dX0_mayMove_53 rfl (lv_at hl 1 rfl) ?_
          have h7 := inb_in (ck_t hF)
          have hF := ck_s hF
          refine va_iald hx hb hK hP 7 0 rfl rfl h7 dX0_mayMove_54 ?_
          refine lv_iadd hx hb dX0_mayMove_55 ?_
          refine lv_aload_n hx hb dX0_mayMove_56 rfl (lv_at hl 0 rfl) ?_
          refine lv_iload_n hx hb dX0_mayMove_57 rfl (lv_at hl 2 rfl) ?_
          refine lv_iconst (v := 1) hx hb dX0_mayMove_58 (by decide) ?_
          refine lv_iadd hx hb dX0_mayMove_59 ?_
          obtain ⟨z8, hz8, hF⟩ := ob_bind hF
          refine cl_i (csR := []) (csF := [wB g a b]) (rest := [.int (z6 + ((B_weights b) p0.toNatClampNeg))]) hx hb hml hown hts hK hE hA hl hP hD hS (c_X0_strengthOf g l a b (((B_places b) p0.toNatClampNeg) + 1) z8 hz8) [0] [] [0] ⟨rfl, rfl, rfl, rfl, rfl, rfl, rfl⟩ ⟨0, 4, _, _, rfl, rfl, rfl⟩ 1 (jb_giV mw_698 mw_285 mw_286 mw_2 mw_287) ⟨rfl, rfl⟩ (by decide +kernel) ⟨⟨(Nat.le_of_ble_eq_true rfl), (Nat.le_of_ble_eq_true rfl)⟩, (Nat.le_of_ble_eq_true rfl), (Nat.le_of_ble_eq_true rfl)⟩ ⟨rfl, rfl⟩ (Nat.le_of_ble_eq_true rfl) dX0_mayMove_60 (fun H locs hP hD hS => ?_)
          refine lv_icmp_gt (tgt := 70) hx hb dX0_mayMove_63 (by decide) (fun c9 => ?_) (fun c9 => ?_)
          · have hF := ob_pos c9 hF
            refine lv_iconst (v := 0) hx hb dX0_mayMove_70 (by decide) ?_
            cases hF
            rw [hQ]
            exact jb_zret hx hb hr rfl hlocks hP hD hS dX0_mayMove_71 rfl (Nat.le_of_ble_eq_true rfl) (Nat.le_of_ble_eq_true rfl)
          · have hF := ob_neg c9 hF
            refine lv_iconst (v := 1) hx hb dX0_mayMove_66 (by decide) ?_
            refine lv_goto (tgt := 71) hx hb dX0_mayMove_67 (by decide) ?_
            cases hF
            rw [hQ]
            exact jb_zret hx hb hr rfl hlocks hP hD hS dX0_mayMove_71 rfl (Nat.le_of_ble_eq_true rfl) (Nat.le_of_ble_eq_true rfl)
        · have hF := ob_neg c5 hF
          refine lv_aload_n hx hb dX0_mayMove_24 rfl (lv_at hl 0 rfl) ?_
          refine va_get (D := g.1) (ci := 4) (v := .ref (a 8)) (C := RX0) (T := TX0) (N := 17) hx hb hts inX0 hown hK hP 0 rfl rfl 9 (by decide) (hts _ mw_66) (fun _ h9 => h9) rfl dX0_mayMove_25 ?_
          refine lv_iload_n hx hb dX0_mayMove_28 rfl (lv_at hl 3 rfl) ?_
          have h10 := inb_in (ck_t hF)
          have hF := ck_s hF
          refine va_iald hx hb hK hP 8 0 rfl rfl h10 dX0_mayMove_29 ?_
          refine lv_iload_n hx hb dX0_mayMove_30 rfl (lv_at hl 2 rfl) ?_
          refine lv_icmp_ne (tgt := 36) hx hb dX0_mayMove_31 (by decide) (fun c11 => ?_) (fun c11 => ?_)
          · have hF := ob_pos c11 hF
            refine lv_iinc (v := x4 + 1) (lv' := [(3, .int (x4 + 1)), (0, .ref (a 0)), (1, .int p0), (2, .int ((B_places b) p0.toNatClampNeg))]) hx hb dX0_mayMove_36 hl (k := 3) rfl (by rfl) (by decide) rfl (fun ls hl => ?_)
            refine lv_goto (tgt := 19) hx hb dX0_mayMove_39 (by decide) ?_
            exact ih4 _ hF _ _ hP hD hS ls (lv_sub hl [1, 2, 3, 0] rfl)
          · have hF := ob_nneg c11 hF
            refine lv_iconst (v := 0) hx hb dX0_mayMove_34 (by decide) ?_
            cases hF
            rw [hQ]
            exact jb_zret hx hb hr rfl hlocks hP hD hS dX0_mayMove_35 rfl (Nat.le_of_ble_eq_true rfl) (Nat.le_of_ble_eq_true rfl)
    exact loop4 1000 _ hF _ _ hP hD hS ls (lv_sub hl [2, 3, 1, 0] rfl)
  · have hF := ob_nneg c2 hF
    refine lv_iconst (v := 0) hx hb dX0_mayMove_8 (by decide) ?_
    cases hF
    rw [hQ]
    exact jb_zret hx hb hr rfl hlocks hP hD hS dX0_mayMove_9 rfl (Nat.le_of_ble_eq_true rfl) (Nat.le_of_ble_eq_true rfl)
def F_X0_moveVehicles_L9 (y1 : Int32) (k : Bv → Int32 → Int32 → Option (Bv)) : Nat → Bv → Int32 → Int32 → Option (Bv)
  | 0, _, _, _ => none
  | n + 1, b0, x2, x3 => if y1 ≤ x3 then k b0 x2 x3 else (F_X0_isOnLastSpan b0 x2).bind (fun z1 => if (bi z1) = 0 then (F_X0_mayMove b0 x2).bind (fun z2 => if (bi z2) = 0 then F_X0_moveVehicles_L9 y1 k n b0 (x2 + 1) (x3 + 1) else ck (inb x2 8) (ck (inb x2 8) (F_X0_moveVehicles_L9 y1 k n (mkB (B_spans b0) (B_lengths b0) (B_jars b0) (B_ages b0) (B_cracks b0) (B_stresses b0) (B_vehicles b0) (B_numbers b0) (B_weights b0) (upd (B_places b0) x2.toNatClampNeg (((B_places b0) x2.toNatClampNeg) + 1)) (B_nextNumber b0) (B_hour b0) (B_rate b0) (B_till b0) (B_paid b0) (B_crossed b0) (B_sunk b0)) (x2 + 1) (x3 + 1)))) else (F_X0_payToll b0 x2).bind (fun z3 => (F_X0_removeVehicle z3 x2).bind (fun z4 => F_X0_moveVehicles_L9 y1 k n z4 x2 (x3 + 1))))
def F_X0_moveVehicles (b : Bv) : Option (Bv) := F_X0_moveVehicles_L9 (B_vehicles b) (fun b5 x6 x7 => some b5) 1000 b 0 0
set_option maxHeartbeats 4000000 in
set_option maxRecDepth 100000 in
theorem c_X0_moveVehicles (g : GG) (l : Launch) (a : Nat → Nat) (b : Bv) (z : Bv) (hF : F_X0_moveVehicles b = some z) : MV g l yX0_moveVehicles cX0_moveVehicles 4 none ({ frames := 3, cells := 0, slots := 0, locals := 66 } : Room) [.ref (a 0)] [wB g a b] 0 0 [wB g a z] := by
  refine MV.bg (by decide) (Nat.le_of_ble_eq_true rfl) ?_
  intro p e s m below meth c A Q hQ hx hb hr hml hown hts hlocks hmn hK hE hA hP hD hS ls hl
  rw [F_X0_moveVehicles] at hF
  have hl : lv_has ls 4 [(0, .ref (a 0))] := hl
  refine lv_aload_n hx hb dX0_moveVehicles_0 rfl (lv_at hl 0 rfl) ?_
  refine va_get (D := g.1) (ci := 4) (v := .int (B_vehicles b)) (C := RX0) (T := TX0) (N := 17) hx hb hts inX0 hown hK hP 0 rfl rfl 6 (by decide) (hts _ mw_59) (fun _ h9 => h9) rfl dX0_moveVehicles_1 ?_
  refine lv_istore_n (lv' := [(1, .int (B_vehicles b)), (0, .ref (a 0))]) hx hb dX0_moveVehicles_4 rfl hl (by decide) rfl (fun ls hl => ?_)
  refine lv_iconst (v := 0) hx hb dX0_moveVehicles_5 (by decide) ?_
  refine lv_istore_n (lv' := [(2, .int 0), (1, .int (B_vehicles b)), (0, .ref (a 0))]) hx hb dX0_moveVehicles_6 rfl hl (by decide) rfl (fun ls hl => ?_)
  refine lv_iconst (v := 0) hx hb dX0_moveVehicles_7 (by decide) ?_
  refine lv_istore_n (lv' := [(3, .int 0), (2, .int 0), (1, .int (B_vehicles b)), (0, .ref (a 0))]) hx hb dX0_moveVehicles_8 rfl hl (by decide) rfl (fun ls hl => ?_)
  obtain ⟨k3, ek3, hF⟩ := ob_k (F := fun k9 => F_X0_moveVehicles_L9 (B_vehicles b) k9 1000 b 0 0) hF
  have loop3 : ∀ (n9 : Nat) (b1 : Bv) (x2 : Int32) (x3 : Int32), F_X0_moveVehicles_L9 (B_vehicles b) k3 n9 b1 x2 x3 = some z → ∀ (H : Heap) (locs : List Loc), va_P g.1 vwCl ([wB g a b1] : List va_W).flatten H → va_D A ([wB g a b1] : List va_W).flatten → va_S A s.heap H locs → ∀ ls : Array Slot, lv_has ls 4 [(0, .ref (a 0)), (1, .int (B_vehicles b)), (2, .int x2), (3, .int x3)] → W p l e ({ frames := 3, cells := 0, slots := 0, locals := 66 } : Room) s m ([.ref (a 0)] : List Value).toArray below meth c H locs 0 0 Q (F0 m 9 ls []) := by
    intro n9
    induction n9 with
    | zero => intro b1 x2 x3 hF; rw [F_X0_moveVehicles_L9] at hF; cases hF
    | succ n9 ih3 =>
      intro b1 x2 x3 hF H locs hP hD hS ls hl
      rw [F_X0_moveVehicles_L9] at hF
      refine lv_iload_n hx hb dX0_moveVehicles_9 rfl (lv_at hl 3 rfl) ?_
      refine lv_iload_n hx hb dX0_moveVehicles_10 rfl (lv_at hl 1 rfl) ?_
      refine lv_icmp_ge (tgt := 62) hx hb dX0_moveVehicles_11 (by decide) (fun c4 => ?_) (fun c4 => ?_)
      · have hF := ob_pos c4 hF
        rw [ek3] at hF
        cases hF
        rw [hQ]
        exact jb_vret hx hb hr hlocks hP hD hS dX0_moveVehicles_62 (Nat.le_of_ble_eq_true rfl) (Nat.le_of_ble_eq_true rfl)
      · have hF := ob_neg c4 hF
        refine lv_aload_n hx hb dX0_moveVehicles_14 rfl (lv_at hl 0 rfl) ?_
        refine lv_iload_n hx hb dX0_moveVehicles_15 rfl (lv_at hl 2 rfl) ?_
        obtain ⟨z5, hz5, hF⟩ := ob_bind hF
        refine cl_i (csR := []) (csF := [wB g a b1]) (rest := []) hx hb hml hown hts hK hE hA hl hP hD hS (c_X0_isOnLastSpan g l a b1 x2 z5 hz5) [0] [] [0] ⟨rfl, rfl, rfl, rfl, rfl, rfl, rfl⟩ ⟨0, 4, _, _, rfl, rfl, rfl⟩ 1 (jb_giV mw_984 mw_985 mw_986 mw_2 mw_987) ⟨rfl, rfl⟩ (by decide +kernel) ⟨⟨(Nat.le_of_ble_eq_true rfl), (Nat.le_of_ble_eq_true rfl)⟩, (Nat.le_of_ble_eq_true rfl), (Nat.le_of_ble_eq_true rfl)⟩ ⟨rfl, rfl⟩ (Nat.le_of_ble_eq_true rfl) dX0_moveVehicles_16 (fun H locs hP hD hS => ?_)
        refine lv_if_eq (tgt := 35) hx hb dX0_moveVehicles_19 (by decide) (fun c6 => ?_) (fun c6 => ?_)
        · have hF := ob_pos c6 hF
          refine lv_aload_n hx hb dX0_moveVehicles_35 rfl (lv_at hl 0 rfl) ?_
          refine lv_iload_n hx hb dX0_moveVehicles_36 rfl (lv_at hl 2 rfl) ?_
          obtain ⟨z7, hz7, hF⟩ := ob_bind hF
          refine cl_i (csR := []) (csF := [wB g a b1]) (rest := []) hx hb hml hown hts hK hE hA hl hP hD hS (c_X0_mayMove g l a b1 x2 z7 hz7) [0] [] [0] ⟨rfl, rfl, rfl, rfl, rfl, rfl, rfl⟩ ⟨0, 4, _, _, rfl, rfl, rfl⟩ 1 (jb_giV mw_1004 mw_1006 ms_18 mw_2 mw_1007) ⟨rfl, rfl⟩ (by decide +kernel) ⟨⟨(Nat.le_of_ble_eq_true rfl), (Nat.le_of_ble_eq_true rfl)⟩, (Nat.le_of_ble_eq_true rfl), (Nat.le_of_ble_eq_true rfl)⟩ ⟨rfl, rfl⟩ (Nat.le_of_ble_eq_true rfl) dX0_moveVehicles_37 (fun H locs hP hD hS => ?_)
          refine lv_if_eq (tgt := 53) hx hb dX0_moveVehicles_40 (by decide) (fun c8 => ?_) (fun c8 => ?_)
          · have hF := ob_pos c8 hF
            refine lv_iinc (v := x2 + 1) (lv' := [(2, .int (x2 + 1)), (0, .ref (a 0)), (1, .int (B_vehicles b)), (3, .int x3)]) hx hb dX0_moveVehicles_53 hl (k := 2) rfl (by rfl) (by decide) rfl (fun ls hl => ?_)
            refine lv_iinc (v := x3 + 1) (lv' := [(3, .int (x3 + 1)), (2, .int (x2 + 1)), (0, .ref (a 0)), (1, .int (B_vehicles b))]) hx hb dX0_moveVehicles_56 hl (k := 3) rfl (by rfl) (by decide) rfl (fun ls hl => ?_)
            refine lv_goto (tgt := 9) hx hb dX0_moveVehicles_59 (by decide) ?_
            exact ih3 _ _ _ hF _ _ hP hD hS ls (lv_sub hl [2, 3, 1, 0] rfl)
          · have hF := ob_neg c8 hF
            refine lv_aload_n hx hb dX0_moveVehicles_43 rfl (lv_at hl 0 rfl) ?_
            refine va_get (D := g.1) (ci := 4) (v := .ref (a 8)) (C := RX0) (T := TX0) (N := 17) hx hb hts inX0 hown hK hP 0 rfl rfl 9 (by decide) (hts _ mw_66) (fun _ h9 => h9) rfl dX0_moveVehicles_44 ?_
            refine lv_iload_n hx hb dX0_moveVehicles_47 rfl (lv_at hl 2 rfl) ?_
            refine lv_dup2_11 hx hb dX0_moveVehicles_48 rfl rfl ?_
            have h9 := inb_in (ck_t hF)
            have hF := ck_s hF
            refine va_iald hx hb hK hP 8 0 rfl rfl h9 dX0_moveVehicles_49 ?_
            refine lv_iconst (v := 1) hx hb dX0_moveVehicles_50 (by decide) ?_
            refine lv_iadd hx hb dX0_moveVehicles_51 ?_
            have h10 := inb_in (ck_t hF)
            have hF := ck_s hF
            refine va_iast hx hb hK hP hD hS 8 0 rfl rfl h10 dX0_moveVehicles_52 (fun H locs hP hD hS => ?_)
            have hP : va_P g.1 vwCl ([wBc g a (B_spans b1) (B_lengths b1) (B_jars b1) (B_ages b1) (B_cracks b1) (B_stresses b1) (B_vehicles b1) (B_numbers b1) (B_weights b1) (upd (B_places b1) x2.toNatClampNeg (((B_places b1) x2.toNatClampNeg) + 1)) (B_nextNumber b1) (B_hour b1) (B_rate b1) (B_till b1) (B_paid b1) (B_crossed b1) (B_sunk b1)] : List va_W).flatten _ := hP
            have hD : va_D A ([wBc g a (B_spans b1) (B_lengths b1) (B_jars b1) (B_ages b1) (B_cracks b1) (B_stresses b1) (B_vehicles b1) (B_numbers b1) (B_weights b1) (upd (B_places b1) x2.toNatClampNeg (((B_places b1) x2.toNatClampNeg) + 1)) (B_nextNumber b1) (B_hour b1) (B_rate b1) (B_till b1) (B_paid b1) (B_crossed b1) (B_sunk b1)] : List va_W).flatten := hD
            refine lv_iinc (v := x2 + 1) (lv' := [(2, .int (x2 + 1)), (0, .ref (a 0)), (1, .int (B_vehicles b)), (3, .int x3)]) hx hb dX0_moveVehicles_53 hl (k := 2) rfl (by rfl) (by decide) rfl (fun ls hl => ?_)
            refine lv_iinc (v := x3 + 1) (lv' := [(3, .int (x3 + 1)), (2, .int (x2 + 1)), (0, .ref (a 0)), (1, .int (B_vehicles b))]) hx hb dX0_moveVehicles_56 hl (k := 3) rfl (by rfl) (by decide) rfl (fun ls hl => ?_)
            refine lv_goto (tgt := 9) hx hb dX0_moveVehicles_59 (by decide) ?_
            exact ih3 _ _ _ hF _ _ hP hD hS ls (lv_sub hl [2, 3, 1, 0] rfl)
        · have hF := ob_neg c6 hF
          refine lv_aload_n hx hb dX0_moveVehicles_22 rfl (lv_at hl 0 rfl) ?_
          refine lv_iload_n hx hb dX0_moveVehicles_23 rfl (lv_at hl 2 rfl) ?_
          obtain ⟨z11, hz11, hF⟩ := ob_bind hF
          refine cl_v (csR := []) (csF := [wB g a z11]) (rest := []) hx hb hml hown hts hK hE hA hl hP hD hS (c_X0_payToll g l a b1 x2 z11 hz11) [0] [] [0] ⟨rfl, rfl, rfl, rfl, rfl, rfl, rfl⟩ ⟨0, 4, _, _, rfl, rfl, rfl⟩ 1 (jb_giV mw_992 mw_994 ms_16 mw_2 mw_995) ⟨rfl, rfl⟩ (by decide +kernel) ⟨⟨(Nat.le_of_ble_eq_true rfl), (Nat.le_of_ble_eq_true rfl)⟩, (Nat.le_of_ble_eq_true rfl), (Nat.le_of_ble_eq_true rfl)⟩ ⟨rfl, rfl⟩ (Nat.le_of_ble_eq_true rfl) dX0_moveVehicles_24 (fun H locs hP hD hS => ?_)
          refine lv_aload_n hx hb dX0_moveVehicles_27 rfl (lv_at hl 0 rfl) ?_
          refine lv_iload_n hx hb dX0_moveVehicles_28 rfl (lv_at hl 2 rfl) ?_
          obtain ⟨z12, hz12, hF⟩ := ob_bind hF
          refine cl_v (csR := []) (csF := [wB g a z12]) (rest := []) hx hb hml hown hts hK hE hA hl hP hD hS (c_X0_removeVehicle g l a z11 x2 z12 hz12) [0] [] [0] ⟨rfl, rfl, rfl, rfl, rfl, rfl, rfl⟩ ⟨0, 4, _, _, rfl, rfl, rfl⟩ 1 (jb_giV mw_1000 mw_1002 ms_17 mw_2 mw_1003) ⟨rfl, rfl⟩ (by decide +kernel) ⟨⟨(Nat.le_of_ble_eq_true rfl), (Nat.le_of_ble_eq_true rfl)⟩, (Nat.le_of_ble_eq_true rfl), (Nat.le_of_ble_eq_true rfl)⟩ ⟨rfl, rfl⟩ (Nat.le_of_ble_eq_true rfl) dX0_moveVehicles_29 (fun H locs hP hD hS => ?_)
          refine lv_goto (tgt := 56) hx hb dX0_moveVehicles_32 (by decide) ?_
          refine lv_iinc (v := x3 + 1) (lv' := [(3, .int (x3 + 1)), (0, .ref (a 0)), (1, .int (B_vehicles b)), (2, .int x2)]) hx hb dX0_moveVehicles_56 hl (k := 3) rfl (by rfl) (by decide) rfl (fun ls hl => ?_)
          refine lv_goto (tgt := 9) hx hb dX0_moveVehicles_59 (by decide) ?_
          exact ih3 _ _ _ hF _ _ hP hD hS ls (lv_sub hl [1, 2, 3, 0] rfl)
  exact loop3 1000 _ _ _ hF _ _ hP hD hS ls (lv_sub hl [3, 2, 1, 0] rfl)
def F_X0_crack (b : Bv) (p0 : Int32) : Option (Bv) := (F_X0_hasSpan b p0).bind (fun z1 => if (bi z1) = 0 then some b else ck (inb p0 10) (if 9 ≤ ((B_cracks b) p0.toNatClampNeg) then some b else ck (inb p0 10) (ck (inb p0 10) (some (mkB (B_spans b) (B_lengths b) (B_jars b) (B_ages b) (upd (B_cracks b) p0.toNatClampNeg (((B_cracks b) p0.toNatClampNeg) + 1)) (B_stresses b) (B_vehicles b) (B_numbers b) (B_weights b) (B_places b) (B_nextNumber b) (B_hour b) (B_rate b) (B_till b) (B_paid b) (B_crossed b) (B_sunk b))))))
set_option maxHeartbeats 4000000 in
set_option maxRecDepth 100000 in
theorem c_X0_crack (g : GG) (l : Launch) (a : Nat → Nat) (b : Bv) (p0 : Int32) (z : Bv) (hF : F_X0_crack b p0 = some z) : MV g l yX0_crack cX0_crack 2 none ({ frames := 1, cells := 0, slots := 0, locals := 21 } : Room) [.ref (a 0), .int p0] [wB g a b] 0 0 [wB g a z] := by
  refine MV.bg (by decide) (Nat.le_of_ble_eq_true rfl) ?_
  intro p e s m below meth c A Q hQ hx hb hr hml hown hts hlocks hmn hK hE hA hP hD hS ls hl
  rw [F_X0_crack] at hF
  have hl : lv_has ls 2 [(0, .ref (a 0)), (1, .int p0)] := hl
  refine lv_aload_n hx hb dX0_crack_0 rfl (lv_at hl 0 rfl) ?_
  refine lv_iload_n hx hb dX0_crack_1 rfl (lv_at hl 1 rfl) ?_
  obtain ⟨z1, hz1, hF⟩ := ob_bind hF
  refine cl_i (csR := []) (csF := [wB g a b]) (rest := []) hx hb hml hown hts hK hE hA hl hP hD hS (c_X0_hasSpan g l a b p0 z1 hz1) [0] [] [0] ⟨rfl, rfl, rfl, rfl, rfl, rfl, rfl⟩ ⟨0, 4, _, _, rfl, rfl, rfl⟩ 1 (jb_giV mw_288 mw_289 mw_290 mw_2 mw_291) ⟨rfl, rfl⟩ (by decide +kernel) ⟨⟨(Nat.le_of_ble_eq_true rfl), (Nat.le_of_ble_eq_true rfl)⟩, (Nat.le_of_ble_eq_true rfl), (Nat.le_of_ble_eq_true rfl)⟩ ⟨rfl, rfl⟩ (Nat.le_of_ble_eq_true rfl) dX0_crack_2 (fun H locs hP hD hS => ?_)
  refine lv_if_eq (tgt := 29) hx hb dX0_crack_5 (by decide) (fun c2 => ?_) (fun c2 => ?_)
  · have hF := ob_pos c2 hF
    cases hF
    rw [hQ]
    exact jb_vret hx hb hr hlocks hP hD hS dX0_crack_29 (Nat.le_of_ble_eq_true rfl) (Nat.le_of_ble_eq_true rfl)
  · have hF := ob_neg c2 hF
    refine lv_aload_n hx hb dX0_crack_8 rfl (lv_at hl 0 rfl) ?_
    refine va_get (D := g.1) (ci := 4) (v := .ref (a 4)) (C := RX0) (T := TX0) (N := 17) hx hb hts inX0 hown hK hP 0 rfl rfl 4 (by decide) (hts _ mw_54) (fun _ h9 => h9) rfl dX0_crack_9 ?_
    refine lv_iload_n hx hb dX0_crack_12 rfl (lv_at hl 1 rfl) ?_
    have h3 := inb_in (ck_t hF)
    have hF := ck_s hF
    refine va_iald hx hb hK hP 4 0 rfl rfl h3 dX0_crack_13 ?_
    refine lv_bipush (v := 9) hx hb dX0_crack_14 (by decide) ?_
    refine lv_icmp_ge (tgt := 29) hx hb dX0_crack_16 (by decide) (fun c4 => ?_) (fun c4 => ?_)
    · have hF := ob_pos c4 hF
      cases hF
      rw [hQ]
      exact jb_vret hx hb hr hlocks hP hD hS dX0_crack_29 (Nat.le_of_ble_eq_true rfl) (Nat.le_of_ble_eq_true rfl)
    · have hF := ob_neg c4 hF
      refine lv_aload_n hx hb dX0_crack_19 rfl (lv_at hl 0 rfl) ?_
      refine va_get (D := g.1) (ci := 4) (v := .ref (a 4)) (C := RX0) (T := TX0) (N := 17) hx hb hts inX0 hown hK hP 0 rfl rfl 4 (by decide) (hts _ mw_54) (fun _ h9 => h9) rfl dX0_crack_20 ?_
      refine lv_iload_n hx hb dX0_crack_23 rfl (lv_at hl 1 rfl) ?_
      refine lv_dup2_11 hx hb dX0_crack_24 rfl rfl ?_
      have h5 := inb_in (ck_t hF)
      have hF := ck_s hF
      refine va_iald hx hb hK hP 4 0 rfl rfl h5 dX0_crack_25 ?_
      refine lv_iconst (v := 1) hx hb dX0_crack_26 (by decide) ?_
      refine lv_iadd hx hb dX0_crack_27 ?_
      have h6 := inb_in (ck_t hF)
      have hF := ck_s hF
      refine va_iast hx hb hK hP hD hS 4 0 rfl rfl h6 dX0_crack_28 (fun H locs hP hD hS => ?_)
      have hP : va_P g.1 vwCl ([wBc g a (B_spans b) (B_lengths b) (B_jars b) (B_ages b) (upd (B_cracks b) p0.toNatClampNeg (((B_cracks b) p0.toNatClampNeg) + 1)) (B_stresses b) (B_vehicles b) (B_numbers b) (B_weights b) (B_places b) (B_nextNumber b) (B_hour b) (B_rate b) (B_till b) (B_paid b) (B_crossed b) (B_sunk b)] : List va_W).flatten _ := hP
      have hD : va_D A ([wBc g a (B_spans b) (B_lengths b) (B_jars b) (B_ages b) (upd (B_cracks b) p0.toNatClampNeg (((B_cracks b) p0.toNatClampNeg) + 1)) (B_stresses b) (B_vehicles b) (B_numbers b) (B_weights b) (B_places b) (B_nextNumber b) (B_hour b) (B_rate b) (B_till b) (B_paid b) (B_crossed b) (B_sunk b)] : List va_W).flatten := hD
      cases hF
      rw [hQ]
      exact jb_vret hx hb hr hlocks hP hD hS dX0_crack_29 (Nat.le_of_ble_eq_true rfl) (Nat.le_of_ble_eq_true rfl)
def F_X0_stressSpans_L2  (k : Bv → Int32 → Option (Bv)) : Nat → Bv → Int32 → Option (Bv)
  | 0, _, _ => none
  | n + 1, b0, x1 => if (B_spans b0) ≤ x1 then k b0 x1 else (F_X0_strains b0 x1).bind (fun z1 => if (bi z1) = 0 then ck (inb x1 10) (ck (inb x1 10) (if ¬ ((upd (B_stresses b0) x1.toNatClampNeg 0) x1.toNatClampNeg) = 3 then F_X0_stressSpans_L2  k n (mkB (B_spans b0) (B_lengths b0) (B_jars b0) (B_ages b0) (B_cracks b0) (upd (B_stresses b0) x1.toNatClampNeg 0) (B_vehicles b0) (B_numbers b0) (B_weights b0) (B_places b0) (B_nextNumber b0) (B_hour b0) (B_rate b0) (B_till b0) (B_paid b0) (B_crossed b0) (B_sunk b0)) (x1 + 1) else ck (inb x1 10) ((F_X0_crack (mkB (B_spans b0) (B_lengths b0) (B_jars b0) (B_ages b0) (B_cracks b0) (upd (upd (B_stresses b0) x1.toNatClampNeg 0) x1.toNatClampNeg 0) (B_vehicles b0) (B_numbers b0) (B_weights b0) (B_places b0) (B_nextNumber b0) (B_hour b0) (B_rate b0) (B_till b0) (B_paid b0) (B_crossed b0) (B_sunk b0)) x1).bind (fun z2 => F_X0_stressSpans_L2  k n z2 (x1 + 1))))) else ck (inb x1 10) (ck (inb x1 10) (ck (inb x1 10) (if ¬ ((upd (B_stresses b0) x1.toNatClampNeg (((B_stresses b0) x1.toNatClampNeg) + 1)) x1.toNatClampNeg) = 3 then F_X0_stressSpans_L2  k n (mkB (B_spans b0) (B_lengths b0) (B_jars b0) (B_ages b0) (B_cracks b0) (upd (B_stresses b0) x1.toNatClampNeg (((B_stresses b0) x1.toNatClampNeg) + 1)) (B_vehicles b0) (B_numbers b0) (B_weights b0) (B_places b0) (B_nextNumber b0) (B_hour b0) (B_rate b0) (B_till b0) (B_paid b0) (B_crossed b0) (B_sunk b0)) (x1 + 1) else ck (inb x1 10) ((F_X0_crack (mkB (B_spans b0) (B_lengths b0) (B_jars b0) (B_ages b0) (B_cracks b0) (upd (upd (B_stresses b0) x1.toNatClampNeg (((B_stresses b0) x1.toNatClampNeg) + 1)) x1.toNatClampNeg 0) (B_vehicles b0) (B_numbers b0) (B_weights b0) (B_places b0) (B_nextNumber b0) (B_hour b0) (B_rate b0) (B_till b0) (B_paid b0) (B_crossed b0) (B_sunk b0)) x1).bind (fun z3 => F_X0_stressSpans_L2  k n z3 (x1 + 1)))))))
def F_X0_stressSpans (b : Bv) : Option (Bv) := F_X0_stressSpans_L2  (fun b4 x5 => some b4) 1000 b 0
set_option maxHeartbeats 4000000 in
set_option maxRecDepth 100000 in
theorem c_X0_stressSpans (g : GG) (l : Launch) (a : Nat → Nat) (b : Bv) (z : Bv) (hF : F_X0_stressSpans b = some z) : MV g l yX0_stressSpans cX0_stressSpans 2 none ({ frames := 3, cells := 0, slots := 0, locals := 64 } : Room) [.ref (a 0)] [wB g a b] 0 0 [wB g a z] := by
  refine MV.bg (by decide) (Nat.le_of_ble_eq_true rfl) ?_
  intro p e s m below meth c A Q hQ hx hb hr hml hown hts hlocks hmn hK hE hA hP hD hS ls hl
  rw [F_X0_stressSpans] at hF
  have hl : lv_has ls 2 [(0, .ref (a 0))] := hl
  refine lv_iconst (v := 0) hx hb dX0_stressSpans_0 (by decide) ?_
  refine lv_istore_n (lv' := [(1, .int 0), (0, .ref (a 0))]) hx hb dX0_stressSpans_1 rfl hl (by decide) rfl (fun ls hl => ?_)
  obtain ⟨k2, ek2, hF⟩ := ob_k (F := fun k9 => F_X0_stressSpans_L2  k9 1000 b 0) hF
  have loop2 : ∀ (n9 : Nat) (b1 : Bv) (x2 : Int32), F_X0_stressSpans_L2  k2 n9 b1 x2 = some z → ∀ (H : Heap) (locs : List Loc), va_P g.1 vwCl ([wB g a b1] : List va_W).flatten H → va_D A ([wB g a b1] : List va_W).flatten → va_S A s.heap H locs → ∀ ls : Array Slot, lv_has ls 2 [(0, .ref (a 0)), (1, .int x2)] → W p l e ({ frames := 3, cells := 0, slots := 0, locals := 64 } : Room) s m ([.ref (a 0)] : List Value).toArray below meth c H locs 0 0 Q (F0 m 2 ls []) := by
    intro n9
    induction n9 with
    | zero => intro b1 x2 hF; rw [F_X0_stressSpans_L2] at hF; cases hF
    | succ n9 ih2 =>
      intro b1 x2 hF H locs hP hD hS ls hl
      rw [F_X0_stressSpans_L2] at hF
      refine lv_iload_n hx hb dX0_stressSpans_2 rfl (lv_at hl 1 rfl) ?_
      refine lv_aload_n hx hb dX0_stressSpans_3 rfl (lv_at hl 0 rfl) ?_
      refine va_get (D := g.1) (ci := 4) (v := .int (B_spans b1)) (C := RX0) (T := TX0) (N := 17) hx hb hts inX0 hown hK hP 0 rfl rfl 0 (by decide) (hts _ mw_44) (fun _ h9 => h9) rfl dX0_stressSpans_4 ?_
      refine lv_icmp_ge (tgt := 64) hx hb dX0_stressSpans_7 (by decide) (fun c3 => ?_) (fun c3 => ?_)
      · have hF := ob_pos c3 hF
        rw [ek2] at hF
        cases hF
        rw [hQ]
        exact jb_vret hx hb hr hlocks hP hD hS dX0_stressSpans_64 (Nat.le_of_ble_eq_true rfl) (Nat.le_of_ble_eq_true rfl)
      · have hF := ob_neg c3 hF
        refine lv_aload_n hx hb dX0_stressSpans_10 rfl (lv_at hl 0 rfl) ?_
        refine va_get (D := g.1) (ci := 4) (v := .ref (a 5)) (C := RX0) (T := TX0) (N := 17) hx hb hts inX0 hown hK hP 0 rfl rfl 5 (by decide) (hts _ mw_57) (fun _ h9 => h9) rfl dX0_stressSpans_11 ?_
        refine lv_iload_n hx hb dX0_stressSpans_14 rfl (lv_at hl 1 rfl) ?_
        refine lv_aload_n hx hb dX0_stressSpans_15 rfl (lv_at hl 0 rfl) ?_
        refine lv_iload_n hx hb dX0_stressSpans_16 rfl (lv_at hl 1 rfl) ?_
        obtain ⟨z4, hz4, hF⟩ := ob_bind hF
        refine cl_i (csR := []) (csF := [wB g a b1]) (rest := [.int x2, .ref (a 5)]) hx hb hml hown hts hK hE hA hl hP hD hS (c_X0_strains g l a b1 x2 z4 hz4) [0] [] [0] ⟨rfl, rfl, rfl, rfl, rfl, rfl, rfl⟩ ⟨0, 4, _, _, rfl, rfl, rfl⟩ 1 (jb_giV mw_1012 mw_694 mw_695 mw_2 mw_696) ⟨rfl, rfl⟩ (by decide +kernel) ⟨⟨(Nat.le_of_ble_eq_true rfl), (Nat.le_of_ble_eq_true rfl)⟩, (Nat.le_of_ble_eq_true rfl), (Nat.le_of_ble_eq_true rfl)⟩ ⟨rfl, rfl⟩ (Nat.le_of_ble_eq_true rfl) dX0_stressSpans_17 (fun H locs hP hD hS => ?_)
        refine lv_if_eq (tgt := 34) hx hb dX0_stressSpans_20 (by decide) (fun c5 => ?_) (fun c5 => ?_)
        · have hF := ob_pos c5 hF
          refine lv_iconst (v := 0) hx hb dX0_stressSpans_34 (by decide) ?_
          have h6 := inb_in (ck_t hF)
          have hF := ck_s hF
          refine va_iast hx hb hK hP hD hS 5 0 rfl rfl h6 dX0_stressSpans_35 (fun H locs hP hD hS => ?_)
          have hP : va_P g.1 vwCl ([wBc g a (B_spans b1) (B_lengths b1) (B_jars b1) (B_ages b1) (B_cracks b1) (upd (B_stresses b1) x2.toNatClampNeg 0) (B_vehicles b1) (B_numbers b1) (B_weights b1) (B_places b1) (B_nextNumber b1) (B_hour b1) (B_rate b1) (B_till b1) (B_paid b1) (B_crossed b1) (B_sunk b1)] : List va_W).flatten _ := hP
          have hD : va_D A ([wBc g a (B_spans b1) (B_lengths b1) (B_jars b1) (B_ages b1) (B_cracks b1) (upd (B_stresses b1) x2.toNatClampNeg 0) (B_vehicles b1) (B_numbers b1) (B_weights b1) (B_places b1) (B_nextNumber b1) (B_hour b1) (B_rate b1) (B_till b1) (B_paid b1) (B_crossed b1) (B_sunk b1)] : List va_W).flatten := hD
          refine lv_aload_n hx hb dX0_stressSpans_36 rfl (lv_at hl 0 rfl) ?_
          refine va_get (D := g.1) (ci := 4) (v := .ref (a 5)) (C := RX0) (T := TX0) (N := 17) hx hb hts inX0 hown hK hP 0 rfl rfl 5 (by decide) (hts _ mw_57) (fun _ h9 => h9) rfl dX0_stressSpans_37 ?_
          refine lv_iload_n hx hb dX0_stressSpans_40 rfl (lv_at hl 1 rfl) ?_
          have h7 := inb_in (ck_t hF)
          have hF := ck_s hF
          refine va_iald hx hb hK hP 5 0 rfl rfl h7 dX0_stressSpans_41 ?_
          refine lv_iconst (v := 3) hx hb dX0_stressSpans_42 (by decide) ?_
          refine lv_icmp_ne (tgt := 58) hx hb dX0_stressSpans_43 (by decide) (fun c8 => ?_) (fun c8 => ?_)
          · have hF := ob_pos c8 hF
            refine lv_iinc (v := x2 + 1) (lv' := [(1, .int (x2 + 1)), (0, .ref (a 0))]) hx hb dX0_stressSpans_58 hl (k := 1) rfl (by rfl) (by decide) rfl (fun ls hl => ?_)
            refine lv_goto (tgt := 2) hx hb dX0_stressSpans_61 (by decide) ?_
            exact ih2 _ _ hF _ _ hP hD hS ls (lv_sub hl [1, 0] rfl)
          · have hF := ob_nneg c8 hF
            refine lv_aload_n hx hb dX0_stressSpans_46 rfl (lv_at hl 0 rfl) ?_
            refine va_get (D := g.1) (ci := 4) (v := .ref (a 5)) (C := RX0) (T := TX0) (N := 17) hx hb hts inX0 hown hK hP 0 rfl rfl 5 (by decide) (hts _ mw_57) (fun _ h9 => h9) rfl dX0_stressSpans_47 ?_
            refine lv_iload_n hx hb dX0_stressSpans_50 rfl (lv_at hl 1 rfl) ?_
            refine lv_iconst (v := 0) hx hb dX0_stressSpans_51 (by decide) ?_
            have h9 := inb_in (ck_t hF)
            have hF := ck_s hF
            refine va_iast hx hb hK hP hD hS 5 0 rfl rfl h9 dX0_stressSpans_52 (fun H locs hP hD hS => ?_)
            have hP : va_P g.1 vwCl ([wBc g a (B_spans b1) (B_lengths b1) (B_jars b1) (B_ages b1) (B_cracks b1) (upd (upd (B_stresses b1) x2.toNatClampNeg 0) x2.toNatClampNeg 0) (B_vehicles b1) (B_numbers b1) (B_weights b1) (B_places b1) (B_nextNumber b1) (B_hour b1) (B_rate b1) (B_till b1) (B_paid b1) (B_crossed b1) (B_sunk b1)] : List va_W).flatten _ := hP
            have hD : va_D A ([wBc g a (B_spans b1) (B_lengths b1) (B_jars b1) (B_ages b1) (B_cracks b1) (upd (upd (B_stresses b1) x2.toNatClampNeg 0) x2.toNatClampNeg 0) (B_vehicles b1) (B_numbers b1) (B_weights b1) (B_places b1) (B_nextNumber b1) (B_hour b1) (B_rate b1) (B_till b1) (B_paid b1) (B_crossed b1) (B_sunk b1)] : List va_W).flatten := hD
            refine lv_aload_n hx hb dX0_stressSpans_53 rfl (lv_at hl 0 rfl) ?_
            refine lv_iload_n hx hb dX0_stressSpans_54 rfl (lv_at hl 1 rfl) ?_
            obtain ⟨z10, hz10, hF⟩ := ob_bind hF
            refine cl_v (csR := []) (csF := [wB g a z10]) (rest := []) hx hb hml hown hts hK hE hA hl hP hD hS (c_X0_crack g l a (mkB (B_spans b1) (B_lengths b1) (B_jars b1) (B_ages b1) (B_cracks b1) (upd (upd (B_stresses b1) x2.toNatClampNeg 0) x2.toNatClampNeg 0) (B_vehicles b1) (B_numbers b1) (B_weights b1) (B_places b1) (B_nextNumber b1) (B_hour b1) (B_rate b1) (B_till b1) (B_paid b1) (B_crossed b1) (B_sunk b1)) x2 z10 hz10) [0] [] [0] ⟨rfl, rfl, rfl, rfl, rfl, rfl, rfl⟩ ⟨0, 4, _, _, rfl, rfl, rfl⟩ 1 (jb_giV mw_1013 mw_1015 ms_20 mw_2 mw_1016) ⟨rfl, rfl⟩ (by decide +kernel) ⟨⟨(Nat.le_of_ble_eq_true rfl), (Nat.le_of_ble_eq_true rfl)⟩, (Nat.le_of_ble_eq_true rfl), (Nat.le_of_ble_eq_true rfl)⟩ ⟨rfl, rfl⟩ (Nat.le_of_ble_eq_true rfl) dX0_stressSpans_55 (fun H locs hP hD hS => ?_)
            refine lv_iinc (v := x2 + 1) (lv' := [(1, .int (x2 + 1)), (0, .ref (a 0))]) hx hb dX0_stressSpans_58 hl (k := 1) rfl (by rfl) (by decide) rfl (fun ls hl => ?_)
            refine lv_goto (tgt := 2) hx hb dX0_stressSpans_61 (by decide) ?_
            exact ih2 _ _ hF _ _ hP hD hS ls (lv_sub hl [1, 0] rfl)
        · have hF := ob_neg c5 hF
          refine lv_aload_n hx hb dX0_stressSpans_23 rfl (lv_at hl 0 rfl) ?_
          refine va_get (D := g.1) (ci := 4) (v := .ref (a 5)) (C := RX0) (T := TX0) (N := 17) hx hb hts inX0 hown hK hP 0 rfl rfl 5 (by decide) (hts _ mw_57) (fun _ h9 => h9) rfl dX0_stressSpans_24 ?_
          refine lv_iload_n hx hb dX0_stressSpans_27 rfl (lv_at hl 1 rfl) ?_
          have h11 := inb_in (ck_t hF)
          have hF := ck_s hF
          refine va_iald hx hb hK hP 5 0 rfl rfl h11 dX0_stressSpans_28 ?_
          refine lv_iconst (v := 1) hx hb dX0_stressSpans_29 (by decide) ?_
          refine lv_iadd hx hb dX0_stressSpans_30 ?_
          refine lv_goto (tgt := 35) hx hb dX0_stressSpans_31 (by decide) ?_
          have h12 := inb_in (ck_t hF)
          have hF := ck_s hF
          refine va_iast hx hb hK hP hD hS 5 0 rfl rfl h12 dX0_stressSpans_35 (fun H locs hP hD hS => ?_)
          have hP : va_P g.1 vwCl ([wBc g a (B_spans b1) (B_lengths b1) (B_jars b1) (B_ages b1) (B_cracks b1) (upd (B_stresses b1) x2.toNatClampNeg (((B_stresses b1) x2.toNatClampNeg) + 1)) (B_vehicles b1) (B_numbers b1) (B_weights b1) (B_places b1) (B_nextNumber b1) (B_hour b1) (B_rate b1) (B_till b1) (B_paid b1) (B_crossed b1) (B_sunk b1)] : List va_W).flatten _ := hP
          have hD : va_D A ([wBc g a (B_spans b1) (B_lengths b1) (B_jars b1) (B_ages b1) (B_cracks b1) (upd (B_stresses b1) x2.toNatClampNeg (((B_stresses b1) x2.toNatClampNeg) + 1)) (B_vehicles b1) (B_numbers b1) (B_weights b1) (B_places b1) (B_nextNumber b1) (B_hour b1) (B_rate b1) (B_till b1) (B_paid b1) (B_crossed b1) (B_sunk b1)] : List va_W).flatten := hD
          refine lv_aload_n hx hb dX0_stressSpans_36 rfl (lv_at hl 0 rfl) ?_
          refine va_get (D := g.1) (ci := 4) (v := .ref (a 5)) (C := RX0) (T := TX0) (N := 17) hx hb hts inX0 hown hK hP 0 rfl rfl 5 (by decide) (hts _ mw_57) (fun _ h9 => h9) rfl dX0_stressSpans_37 ?_
          refine lv_iload_n hx hb dX0_stressSpans_40 rfl (lv_at hl 1 rfl) ?_
          have h13 := inb_in (ck_t hF)
          have hF := ck_s hF
          refine va_iald hx hb hK hP 5 0 rfl rfl h13 dX0_stressSpans_41 ?_
          refine lv_iconst (v := 3) hx hb dX0_stressSpans_42 (by decide) ?_
          refine lv_icmp_ne (tgt := 58) hx hb dX0_stressSpans_43 (by decide) (fun c14 => ?_) (fun c14 => ?_)
          · have hF := ob_pos c14 hF
            refine lv_iinc (v := x2 + 1) (lv' := [(1, .int (x2 + 1)), (0, .ref (a 0))]) hx hb dX0_stressSpans_58 hl (k := 1) rfl (by rfl) (by decide) rfl (fun ls hl => ?_)
            refine lv_goto (tgt := 2) hx hb dX0_stressSpans_61 (by decide) ?_
            exact ih2 _ _ hF _ _ hP hD hS ls (lv_sub hl [1, 0] rfl)
          · have hF := ob_nneg c14 hF
            refine lv_aload_n hx hb dX0_stressSpans_46 rfl (lv_at hl 0 rfl) ?_
            refine va_get (D := g.1) (ci := 4) (v := .ref (a 5)) (C := RX0) (T := TX0) (N := 17) hx hb hts inX0 hown hK hP 0 rfl rfl 5 (by decide) (hts _ mw_57) (fun _ h9 => h9) rfl dX0_stressSpans_47 ?_
            refine lv_iload_n hx hb dX0_stressSpans_50 rfl (lv_at hl 1 rfl) ?_
            refine lv_iconst (v := 0) hx hb dX0_stressSpans_51 (by decide) ?_
            have h15 := inb_in (ck_t hF)
            have hF := ck_s hF
            refine va_iast hx hb hK hP hD hS 5 0 rfl rfl h15 dX0_stressSpans_52 (fun H locs hP hD hS => ?_)
            have hP : va_P g.1 vwCl ([wBc g a (B_spans b1) (B_lengths b1) (B_jars b1) (B_ages b1) (B_cracks b1) (upd (upd (B_stresses b1) x2.toNatClampNeg (((B_stresses b1) x2.toNatClampNeg) + 1)) x2.toNatClampNeg 0) (B_vehicles b1) (B_numbers b1) (B_weights b1) (B_places b1) (B_nextNumber b1) (B_hour b1) (B_rate b1) (B_till b1) (B_paid b1) (B_crossed b1) (B_sunk b1)] : List va_W).flatten _ := hP
            have hD : va_D A ([wBc g a (B_spans b1) (B_lengths b1) (B_jars b1) (B_ages b1) (B_cracks b1) (upd (upd (B_stresses b1) x2.toNatClampNeg (((B_stresses b1) x2.toNatClampNeg) + 1)) x2.toNatClampNeg 0) (B_vehicles b1) (B_numbers b1) (B_weights b1) (B_places b1) (B_nextNumber b1) (B_hour b1) (B_rate b1) (B_till b1) (B_paid b1) (B_crossed b1) (B_sunk b1)] : List va_W).flatten := hD
            refine lv_aload_n hx hb dX0_stressSpans_53 rfl (lv_at hl 0 rfl) ?_
            refine lv_iload_n hx hb dX0_stressSpans_54 rfl (lv_at hl 1 rfl) ?_
            obtain ⟨z16, hz16, hF⟩ := ob_bind hF
            refine cl_v (csR := []) (csF := [wB g a z16]) (rest := []) hx hb hml hown hts hK hE hA hl hP hD hS (c_X0_crack g l a (mkB (B_spans b1) (B_lengths b1) (B_jars b1) (B_ages b1) (B_cracks b1) (upd (upd (B_stresses b1) x2.toNatClampNeg (((B_stresses b1) x2.toNatClampNeg) + 1)) x2.toNatClampNeg 0) (B_vehicles b1) (B_numbers b1) (B_weights b1) (B_places b1) (B_nextNumber b1) (B_hour b1) (B_rate b1) (B_till b1) (B_paid b1) (B_crossed b1) (B_sunk b1)) x2 z16 hz16) [0] [] [0] ⟨rfl, rfl, rfl, rfl, rfl, rfl, rfl⟩ ⟨0, 4, _, _, rfl, rfl, rfl⟩ 1 (jb_giV mw_1013 mw_1015 ms_20 mw_2 mw_1016) ⟨rfl, rfl⟩ (by decide +kernel) ⟨⟨(Nat.le_of_ble_eq_true rfl), (Nat.le_of_ble_eq_true rfl)⟩, (Nat.le_of_ble_eq_true rfl), (Nat.le_of_ble_eq_true rfl)⟩ ⟨rfl, rfl⟩ (Nat.le_of_ble_eq_true rfl) dX0_stressSpans_55 (fun H locs hP hD hS => ?_)
            refine lv_iinc (v := x2 + 1) (lv' := [(1, .int (x2 + 1)), (0, .ref (a 0))]) hx hb dX0_stressSpans_58 hl (k := 1) rfl (by rfl) (by decide) rfl (fun ls hl => ?_)
            refine lv_goto (tgt := 2) hx hb dX0_stressSpans_61 (by decide) ?_
            exact ih2 _ _ hF _ _ hP hD hS ls (lv_sub hl [1, 0] rfl)
  exact loop2 1000 _ _ hF _ _ hP hD hS ls (lv_sub hl [1, 0] rfl)
def F_X0_spreadCracks_L4  (k : Bv → Int32 → Int32 → Option (Bv)) : Nat → Bv → Int32 → Int32 → Option (Bv)
  | 0, _, _, _ => none
  | n + 1, b0, x1, x2 => if (B_spans b0) ≤ x2 then k b0 x1 x2 else ck (inb x2 10) ((F_X0_hasSpan b0 (x2 + 1)).bind (fun z1 => if (bi z1) = 0 then if (imax x1 0) < 5 then F_X0_spreadCracks_L4  k n b0 ((B_cracks b0) x2.toNatClampNeg) (x2 + 1) else if (imax x1 0) ≤ ((B_cracks b0) x2.toNatClampNeg) then F_X0_spreadCracks_L4  k n b0 ((B_cracks b0) x2.toNatClampNeg) (x2 + 1) else (F_X0_crack b0 x2).bind (fun z2 => F_X0_spreadCracks_L4  k n z2 ((B_cracks b0) x2.toNatClampNeg) (x2 + 1)) else ck (inb (x2 + 1) 10) (if (imax x1 ((B_cracks b0) (x2 + 1).toNatClampNeg)) < 5 then F_X0_spreadCracks_L4  k n b0 ((B_cracks b0) x2.toNatClampNeg) (x2 + 1) else if (imax x1 ((B_cracks b0) (x2 + 1).toNatClampNeg)) ≤ ((B_cracks b0) x2.toNatClampNeg) then F_X0_spreadCracks_L4  k n b0 ((B_cracks b0) x2.toNatClampNeg) (x2 + 1) else (F_X0_crack b0 x2).bind (fun z3 => F_X0_spreadCracks_L4  k n z3 ((B_cracks b0) x2.toNatClampNeg) (x2 + 1)))))
def F_X0_spreadCracks (b : Bv) : Option (Bv) := F_X0_spreadCracks_L4  (fun b4 x5 x6 => some b4) 1000 b 0 0
set_option maxHeartbeats 4000000 in
set_option maxRecDepth 100000 in
theorem c_X0_spreadCracks (g : GG) (l : Launch) (a : Nat → Nat) (b : Bv) (z : Bv) (hF : F_X0_spreadCracks b = some z) : MV g l yX0_spreadCracks cX0_spreadCracks 6 none ({ frames := 2, cells := 0, slots := 0, locals := 42 } : Room) [.ref (a 0)] [wB g a b] 0 0 [wB g a z] := by
  refine MV.bg (by decide) (Nat.le_of_ble_eq_true rfl) ?_
  intro p e s m below meth c A Q hQ hx hb hr hml hown hts hlocks hmn hK hE hA hP hD hS ls hl
  rw [F_X0_spreadCracks] at hF
  have hl : lv_has ls 6 [(0, .ref (a 0))] := hl
  refine lv_iconst (v := 0) hx hb dX0_spreadCracks_0 (by decide) ?_
  refine lv_istore_n (lv' := [(1, .int 0), (0, .ref (a 0))]) hx hb dX0_spreadCracks_1 rfl hl (by decide) rfl (fun ls hl => ?_)
  refine lv_iconst (v := 0) hx hb dX0_spreadCracks_2 (by decide) ?_
  refine lv_istore_n (lv' := [(2, .int 0), (1, .int 0), (0, .ref (a 0))]) hx hb dX0_spreadCracks_3 rfl hl (by decide) rfl (fun ls hl => ?_)
  obtain ⟨k3, ek3, hF⟩ := ob_k (F := fun k9 => F_X0_spreadCracks_L4  k9 1000 b 0 0) hF
  have loop3 : ∀ (n9 : Nat) (b1 : Bv) (x2 : Int32) (x3 : Int32), F_X0_spreadCracks_L4  k3 n9 b1 x2 x3 = some z → ∀ (H : Heap) (locs : List Loc), va_P g.1 vwCl ([wB g a b1] : List va_W).flatten H → va_D A ([wB g a b1] : List va_W).flatten → va_S A s.heap H locs → ∀ ls : Array Slot, lv_has ls 6 [(0, .ref (a 0)), (1, .int x2), (2, .int x3)] → W p l e ({ frames := 2, cells := 0, slots := 0, locals := 42 } : Room) s m ([.ref (a 0)] : List Value).toArray below meth c H locs 0 0 Q (F0 m 4 ls []) := by
    intro n9
    induction n9 with
    | zero => intro b1 x2 x3 hF; rw [F_X0_spreadCracks_L4] at hF; cases hF
    | succ n9 ih3 =>
      intro b1 x2 x3 hF H locs hP hD hS ls hl
      rw [F_X0_spreadCracks_L4] at hF
      refine lv_iload_n hx hb dX0_spreadCracks_4 rfl (lv_at hl 2 rfl) ?_
      refine lv_aload_n hx hb dX0_spreadCracks_5 rfl (lv_at hl 0 rfl) ?_
      refine va_get (D := g.1) (ci := 4) (v := .int (B_spans b1)) (C := RX0) (T := TX0) (N := 17) hx hb hts inX0 hown hK hP 0 rfl rfl 0 (by decide) (hts _ mw_44) (fun _ h9 => h9) rfl dX0_spreadCracks_6 ?_
      refine lv_icmp_ge (tgt := 76) hx hb dX0_spreadCracks_9 (by decide) (fun c4 => ?_) (fun c4 => ?_)
      · have hF := ob_pos c4 hF
        rw [ek3] at hF
        cases hF
        rw [hQ]
        exact jb_vret hx hb hr hlocks hP hD hS dX0_spreadCracks_76 (Nat.le_of_ble_eq_true rfl) (Nat.le_of_ble_eq_true rfl)
      · have hF := ob_neg c4 hF
        refine lv_aload_n hx hb dX0_spreadCracks_12 rfl (lv_at hl 0 rfl) ?_
        refine va_get (D := g.1) (ci := 4) (v := .ref (a 4)) (C := RX0) (T := TX0) (N := 17) hx hb hts inX0 hown hK hP 0 rfl rfl 4 (by decide) (hts _ mw_54) (fun _ h9 => h9) rfl dX0_spreadCracks_13 ?_
        refine lv_iload_n hx hb dX0_spreadCracks_16 rfl (lv_at hl 2 rfl) ?_
        have h5 := inb_in (ck_t hF)
        have hF := ck_s hF
        refine va_iald hx hb hK hP 4 0 rfl rfl h5 dX0_spreadCracks_17 ?_
        refine lv_istore_n (lv' := [(3, .int ((B_cracks b1) x3.toNatClampNeg)), (0, .ref (a 0)), (1, .int x2), (2, .int x3)]) hx hb dX0_spreadCracks_18 rfl hl (by decide) rfl (fun ls hl => ?_)
        refine lv_aload_n hx hb dX0_spreadCracks_19 rfl (lv_at hl 1 rfl) ?_
        refine lv_iload_n hx hb dX0_spreadCracks_20 rfl (lv_at hl 3 rfl) ?_
        refine lv_iconst (v := 1) hx hb dX0_spreadCracks_21 (by decide) ?_
        refine lv_iadd hx hb dX0_spreadCracks_22 ?_
        obtain ⟨z6, hz6, hF⟩ := ob_bind hF
        refine cl_i (csR := []) (csF := [wB g a b1]) (rest := []) hx hb hml hown hts hK hE hA hl hP hD hS (c_X0_hasSpan g l a b1 (x3 + 1) z6 hz6) [0] [] [0] ⟨rfl, rfl, rfl, rfl, rfl, rfl, rfl⟩ ⟨0, 4, _, _, rfl, rfl, rfl⟩ 1 (jb_giV mw_288 mw_289 mw_290 mw_2 mw_291) ⟨rfl, rfl⟩ (by decide +kernel) ⟨⟨(Nat.le_of_ble_eq_true rfl), (Nat.le_of_ble_eq_true rfl)⟩, (Nat.le_of_ble_eq_true rfl), (Nat.le_of_ble_eq_true rfl)⟩ ⟨rfl, rfl⟩ (Nat.le_of_ble_eq_true rfl) dX0_spreadCracks_23 (fun H locs hP hD hS => ?_)
        refine lv_if_eq (tgt := 40) hx hb dX0_spreadCracks_26 (by decide) (fun c7 => ?_) (fun c7 => ?_)
        · have hF := ob_pos c7 hF
          refine lv_iconst (v := 0) hx hb dX0_spreadCracks_40 (by decide) ?_
          refine lv_istore (lv' := [(4, .int 0), (3, .int ((B_cracks b1) x3.toNatClampNeg)), (0, .ref (a 0)), (1, .int x2), (2, .int x3)]) hx hb dX0_spreadCracks_41 hl (by decide) rfl (fun ls hl => ?_)
          refine lv_iload_n hx hb dX0_spreadCracks_43 rfl (lv_at hl 3 rfl) ?_
          refine lv_iload hx hb dX0_spreadCracks_44 (lv_at hl 0 rfl) ?_
          refine va_mmax hx hb (hml.trans hl.1.symm) hown (hts _ mw_1021) (hts _ mw_297) (hts _ mw_11) (hts _ mw_298) (Nat.le_of_ble_eq_true rfl) (Nat.le_of_ble_eq_true rfl) (Nat.le_of_ble_eq_true rfl) (Nat.le_of_ble_eq_true rfl) dX0_spreadCracks_46 ?_
          refine lv_istore (lv' := [(5, .int (imax x2 0)), (4, .int 0), (3, .int ((B_cracks b1) x3.toNatClampNeg)), (0, .ref (a 0)), (1, .int x2), (2, .int x3)]) hx hb dX0_spreadCracks_49 hl (by decide) rfl (fun ls hl => ?_)
          refine lv_iload hx hb dX0_spreadCracks_51 (lv_at hl 0 rfl) ?_
          refine lv_iconst (v := 5) hx hb dX0_spreadCracks_53 (by decide) ?_
          refine lv_icmp_lt (tgt := 68) hx hb dX0_spreadCracks_54 (by decide) (fun c8 => ?_) (fun c8 => ?_)
          · have hF := ob_pos c8 hF
            refine lv_iload_n hx hb dX0_spreadCracks_68 rfl (lv_at hl 2 rfl) ?_
            refine lv_istore_n (lv' := [(1, .int ((B_cracks b1) x3.toNatClampNeg)), (5, .int (imax x2 0)), (4, .int 0), (3, .int ((B_cracks b1) x3.toNatClampNeg)), (0, .ref (a 0)), (2, .int x3)]) hx hb dX0_spreadCracks_69 rfl hl (by decide) rfl (fun ls hl => ?_)
            refine lv_iinc (v := x3 + 1) (lv' := [(2, .int (x3 + 1)), (1, .int ((B_cracks b1) x3.toNatClampNeg)), (5, .int (imax x2 0)), (4, .int 0), (3, .int ((B_cracks b1) x3.toNatClampNeg)), (0, .ref (a 0))]) hx hb dX0_spreadCracks_70 hl (k := 5) rfl (by rfl) (by decide) rfl (fun ls hl => ?_)
            refine lv_goto (tgt := 4) hx hb dX0_spreadCracks_73 (by decide) ?_
            exact ih3 _ _ _ hF _ _ hP hD hS ls (lv_sub hl [5, 1, 0] rfl)
          · have hF := ob_neg c8 hF
            refine lv_iload hx hb dX0_spreadCracks_57 (lv_at hl 0 rfl) ?_
            refine lv_iload_n hx hb dX0_spreadCracks_59 rfl (lv_at hl 2 rfl) ?_
            refine lv_icmp_le (tgt := 68) hx hb dX0_spreadCracks_60 (by decide) (fun c9 => ?_) (fun c9 => ?_)
            · have hF := ob_pos c9 hF
              refine lv_iload_n hx hb dX0_spreadCracks_68 rfl (lv_at hl 2 rfl) ?_
              refine lv_istore_n (lv' := [(1, .int ((B_cracks b1) x3.toNatClampNeg)), (5, .int (imax x2 0)), (4, .int 0), (3, .int ((B_cracks b1) x3.toNatClampNeg)), (0, .ref (a 0)), (2, .int x3)]) hx hb dX0_spreadCracks_69 rfl hl (by decide) rfl (fun ls hl => ?_)
              refine lv_iinc (v := x3 + 1) (lv' := [(2, .int (x3 + 1)), (1, .int ((B_cracks b1) x3.toNatClampNeg)), (5, .int (imax x2 0)), (4, .int 0), (3, .int ((B_cracks b1) x3.toNatClampNeg)), (0, .ref (a 0))]) hx hb dX0_spreadCracks_70 hl (k := 5) rfl (by rfl) (by decide) rfl (fun ls hl => ?_)
              refine lv_goto (tgt := 4) hx hb dX0_spreadCracks_73 (by decide) ?_
              exact ih3 _ _ _ hF _ _ hP hD hS ls (lv_sub hl [5, 1, 0] rfl)
            · have hF := ob_neg c9 hF
              refine lv_aload_n hx hb dX0_spreadCracks_63 rfl (lv_at hl 3 rfl) ?_
              refine lv_iload_n hx hb dX0_spreadCracks_64 rfl (lv_at hl 5 rfl) ?_
              obtain ⟨z10, hz10, hF⟩ := ob_bind hF
              refine cl_v (csR := []) (csF := [wB g a z10]) (rest := []) hx hb hml hown hts hK hE hA hl hP hD hS (c_X0_crack g l a b1 x3 z10 hz10) [0] [] [0] ⟨rfl, rfl, rfl, rfl, rfl, rfl, rfl⟩ ⟨0, 4, _, _, rfl, rfl, rfl⟩ 1 (jb_giV mw_1013 mw_1015 ms_20 mw_2 mw_1016) ⟨rfl, rfl⟩ (by decide +kernel) ⟨⟨(Nat.le_of_ble_eq_true rfl), (Nat.le_of_ble_eq_true rfl)⟩, (Nat.le_of_ble_eq_true rfl), (Nat.le_of_ble_eq_true rfl)⟩ ⟨rfl, rfl⟩ (Nat.le_of_ble_eq_true rfl) dX0_spreadCracks_65 (fun H locs hP hD hS => ?_)
              refine lv_iload_n hx hb dX0_spreadCracks_68 rfl (lv_at hl 2 rfl) ?_
              refine lv_istore_n (lv' := [(1, .int ((B_cracks b1) x3.toNatClampNeg)), (5, .int (imax x2 0)), (4, .int 0), (3, .int ((B_cracks b1) x3.toNatClampNeg)), (0, .ref (a 0)), (2, .int x3)]) hx hb dX0_spreadCracks_69 rfl hl (by decide) rfl (fun ls hl => ?_)
              refine lv_iinc (v := x3 + 1) (lv' := [(2, .int (x3 + 1)), (1, .int ((B_cracks b1) x3.toNatClampNeg)), (5, .int (imax x2 0)), (4, .int 0), (3, .int ((B_cracks b1) x3.toNatClampNeg)), (0, .ref (a 0))]) hx hb dX0_spreadCracks_70 hl (k := 5) rfl (by rfl) (by decide) rfl (fun ls hl => ?_)
              refine lv_goto (tgt := 4) hx hb dX0_spreadCracks_73 (by decide) ?_
              exact ih3 _ _ _ hF _ _ hP hD hS ls (lv_sub hl [5, 1, 0] rfl)
        · have hF := ob_neg c7 hF
          refine lv_aload_n hx hb dX0_spreadCracks_29 rfl (lv_at hl 1 rfl) ?_
          refine va_get (D := g.1) (ci := 4) (v := .ref (a 4)) (C := RX0) (T := TX0) (N := 17) hx hb hts inX0 hown hK hP 0 rfl rfl 4 (by decide) (hts _ mw_54) (fun _ h9 => h9) rfl dX0_spreadCracks_30 ?_
          refine lv_iload_n hx hb dX0_spreadCracks_33 rfl (lv_at hl 3 rfl) ?_
          refine lv_iconst (v := 1) hx hb dX0_spreadCracks_34 (by decide) ?_
          refine lv_iadd hx hb dX0_spreadCracks_35 ?_
          have h11 := inb_in (ck_t hF)
          have hF := ck_s hF
          refine va_iald hx hb hK hP 4 0 rfl rfl h11 dX0_spreadCracks_36 ?_
          refine lv_goto (tgt := 41) hx hb dX0_spreadCracks_37 (by decide) ?_
          refine lv_istore (lv' := [(4, .int ((B_cracks b1) (x3 + 1).toNatClampNeg)), (3, .int ((B_cracks b1) x3.toNatClampNeg)), (0, .ref (a 0)), (1, .int x2), (2, .int x3)]) hx hb dX0_spreadCracks_41 hl (by decide) rfl (fun ls hl => ?_)
          refine lv_iload_n hx hb dX0_spreadCracks_43 rfl (lv_at hl 3 rfl) ?_
          refine lv_iload hx hb dX0_spreadCracks_44 (lv_at hl 0 rfl) ?_
          refine va_mmax hx hb (hml.trans hl.1.symm) hown (hts _ mw_1021) (hts _ mw_297) (hts _ mw_11) (hts _ mw_298) (Nat.le_of_ble_eq_true rfl) (Nat.le_of_ble_eq_true rfl) (Nat.le_of_ble_eq_true rfl) (Nat.le_of_ble_eq_true rfl) dX0_spreadCracks_46 ?_
          refine lv_istore (lv' := [(5, .int (imax x2 ((B_cracks b1) (x3 + 1).toNatClampNeg))), (4, .int ((B_cracks b1) (x3 + 1).toNatClampNeg)), (3, .int ((B_cracks b1) x3.toNatClampNeg)), (0, .ref (a 0)), (1, .int x2), (2, .int x3)]) hx hb dX0_spreadCracks_49 hl (by decide) rfl (fun ls hl => ?_)
          refine lv_iload hx hb dX0_spreadCracks_51 (lv_at hl 0 rfl) ?_
          refine lv_iconst (v := 5) hx hb dX0_spreadCracks_53 (by decide) ?_
          refine lv_icmp_lt (tgt := 68) hx hb dX0_spreadCracks_54 (by decide) (fun c12 => ?_) (fun c12 => ?_)
          · have hF := ob_pos c12 hF
            refine lv_iload_n hx hb dX0_spreadCracks_68 rfl (lv_at hl 2 rfl) ?_
            refine lv_istore_n (lv' := [(1, .int ((B_cracks b1) x3.toNatClampNeg)), (5, .int (imax x2 ((B_cracks b1) (x3 + 1).toNatClampNeg))), (4, .int ((B_cracks b1) (x3 + 1).toNatClampNeg)), (3, .int ((B_cracks b1) x3.toNatClampNeg)), (0, .ref (a 0)), (2, .int x3)]) hx hb dX0_spreadCracks_69 rfl hl (by decide) rfl (fun ls hl => ?_)
            refine lv_iinc (v := x3 + 1) (lv' := [(2, .int (x3 + 1)), (1, .int ((B_cracks b1) x3.toNatClampNeg)), (5, .int (imax x2 ((B_cracks b1) (x3 + 1).toNatClampNeg))), (4, .int ((B_cracks b1) (x3 + 1).toNatClampNeg)), (3, .int ((B_cracks b1) x3.toNatClampNeg)), (0, .ref (a 0))]) hx hb dX0_spreadCracks_70 hl (k := 5) rfl (by rfl) (by decide) rfl (fun ls hl => ?_)
            refine lv_goto (tgt := 4) hx hb dX0_spreadCracks_73 (by decide) ?_
            exact ih3 _ _ _ hF _ _ hP hD hS ls (lv_sub hl [5, 1, 0] rfl)
          · have hF := ob_neg c12 hF
            refine lv_iload hx hb dX0_spreadCracks_57 (lv_at hl 0 rfl) ?_
            refine lv_iload_n hx hb dX0_spreadCracks_59 rfl (lv_at hl 2 rfl) ?_
            refine lv_icmp_le (tgt := 68) hx hb dX0_spreadCracks_60 (by decide) (fun c13 => ?_) (fun c13 => ?_)
            · have hF := ob_pos c13 hF
              refine lv_iload_n hx hb dX0_spreadCracks_68 rfl (lv_at hl 2 rfl) ?_
              refine lv_istore_n (lv' := [(1, .int ((B_cracks b1) x3.toNatClampNeg)), (5, .int (imax x2 ((B_cracks b1) (x3 + 1).toNatClampNeg))), (4, .int ((B_cracks b1) (x3 + 1).toNatClampNeg)), (3, .int ((B_cracks b1) x3.toNatClampNeg)), (0, .ref (a 0)), (2, .int x3)]) hx hb dX0_spreadCracks_69 rfl hl (by decide) rfl (fun ls hl => ?_)
              refine lv_iinc (v := x3 + 1) (lv' := [(2, .int (x3 + 1)), (1, .int ((B_cracks b1) x3.toNatClampNeg)), (5, .int (imax x2 ((B_cracks b1) (x3 + 1).toNatClampNeg))), (4, .int ((B_cracks b1) (x3 + 1).toNatClampNeg)), (3, .int ((B_cracks b1) x3.toNatClampNeg)), (0, .ref (a 0))]) hx hb dX0_spreadCracks_70 hl (k := 5) rfl (by rfl) (by decide) rfl (fun ls hl => ?_)
              refine lv_goto (tgt := 4) hx hb dX0_spreadCracks_73 (by decide) ?_
              exact ih3 _ _ _ hF _ _ hP hD hS ls (lv_sub hl [5, 1, 0] rfl)
            · have hF := ob_neg c13 hF
              refine lv_aload_n hx hb dX0_spreadCracks_63 rfl (lv_at hl 3 rfl) ?_
              refine lv_iload_n hx hb dX0_spreadCracks_64 rfl (lv_at hl 5 rfl) ?_
              obtain ⟨z14, hz14, hF⟩ := ob_bind hF
              refine cl_v (csR := []) (csF := [wB g a z14]) (rest := []) hx hb hml hown hts hK hE hA hl hP hD hS (c_X0_crack g l a b1 x3 z14 hz14) [0] [] [0] ⟨rfl, rfl, rfl, rfl, rfl, rfl, rfl⟩ ⟨0, 4, _, _, rfl, rfl, rfl⟩ 1 (jb_giV mw_1013 mw_1015 ms_20 mw_2 mw_1016) ⟨rfl, rfl⟩ (by decide +kernel) ⟨⟨(Nat.le_of_ble_eq_true rfl), (Nat.le_of_ble_eq_true rfl)⟩, (Nat.le_of_ble_eq_true rfl), (Nat.le_of_ble_eq_true rfl)⟩ ⟨rfl, rfl⟩ (Nat.le_of_ble_eq_true rfl) dX0_spreadCracks_65 (fun H locs hP hD hS => ?_)
              refine lv_iload_n hx hb dX0_spreadCracks_68 rfl (lv_at hl 2 rfl) ?_
              refine lv_istore_n (lv' := [(1, .int ((B_cracks b1) x3.toNatClampNeg)), (5, .int (imax x2 ((B_cracks b1) (x3 + 1).toNatClampNeg))), (4, .int ((B_cracks b1) (x3 + 1).toNatClampNeg)), (3, .int ((B_cracks b1) x3.toNatClampNeg)), (0, .ref (a 0)), (2, .int x3)]) hx hb dX0_spreadCracks_69 rfl hl (by decide) rfl (fun ls hl => ?_)
              refine lv_iinc (v := x3 + 1) (lv' := [(2, .int (x3 + 1)), (1, .int ((B_cracks b1) x3.toNatClampNeg)), (5, .int (imax x2 ((B_cracks b1) (x3 + 1).toNatClampNeg))), (4, .int ((B_cracks b1) (x3 + 1).toNatClampNeg)), (3, .int ((B_cracks b1) x3.toNatClampNeg)), (0, .ref (a 0))]) hx hb dX0_spreadCracks_70 hl (k := 5) rfl (by rfl) (by decide) rfl (fun ls hl => ?_)
              refine lv_goto (tgt := 4) hx hb dX0_spreadCracks_73 (by decide) ?_
              exact ih3 _ _ _ hF _ _ hP hD hS ls (lv_sub hl [5, 1, 0] rfl)
  exact loop3 1000 _ _ _ hF _ _ hP hD hS ls (lv_sub hl [2, 1, 0] rfl)
def F_X0_sinkVehicles_L23 (y1 : Int32) (y2 : Int32) (k : Bv → Int32 → Option (Bv)) : Nat → Bv → Int32 → Option (Bv)
  | 0, _, _ => none
  | n + 1, b0, x3 => if x3 < 0 then k b0 x3 else (F_X0_loadOf b0 y1).bind (fun z2 => if z2 ≤ y2 then k b0 x3 else ck (inb x3 8) (if ¬ ((B_places b0) x3.toNatClampNeg) = y1 then F_X0_sinkVehicles_L23 y1 y2 k n b0 (x3 + (-1)) else (F_X0_removeVehicle b0 x3).bind (fun z3 => F_X0_sinkVehicles_L23 y1 y2 k n (mkB (B_spans z3) (B_lengths z3) (B_jars z3) (B_ages z3) (B_cracks z3) (B_stresses z3) (B_vehicles z3) (B_numbers z3) (B_weights z3) (B_places z3) (B_nextNumber z3) (B_hour z3) (B_rate z3) (B_till z3) (B_paid z3) (B_crossed z3) ((B_sunk z3) + 1)) (x3 + (-1)))))
def F_X0_sinkVehicles_L2  (k : Bv → Int32 → Option (Bv)) : Nat → Bv → Int32 → Option (Bv)
  | 0, _, _ => none
  | n + 1, b0, x1 => if (B_spans b0) ≤ x1 then k b0 x1 else (F_X0_strengthOf b0 x1).bind (fun z1 => F_X0_sinkVehicles_L23 x1 z1 (fun b4 x5 => F_X0_sinkVehicles_L2  k n b4 (x1 + 1)) 1000 b0 ((B_vehicles b0) - 1))
def F_X0_sinkVehicles (b : Bv) : Option (Bv) := F_X0_sinkVehicles_L2  (fun b6 x7 => some b6) 1000 b 0
set_option maxHeartbeats 4000000 in
set_option maxRecDepth 100000 in
theorem c_X0_sinkVehicles (g : GG) (l : Launch) (a : Nat → Nat) (b : Bv) (z : Bv) (hF : F_X0_sinkVehicles b = some z) : MV g l yX0_sinkVehicles cX0_sinkVehicles 4 none ({ frames := 2, cells := 0, slots := 0, locals := 43 } : Room) [.ref (a 0)] [wB g a b] 0 0 [wB g a z] := by
  refine MV.bg (by decide) (Nat.le_of_ble_eq_true rfl) ?_
  intro p e s m below meth c A Q hQ hx hb hr hml hown hts hlocks hmn hK hE hA hP hD hS ls hl
  rw [F_X0_sinkVehicles] at hF
  have hl : lv_has ls 4 [(0, .ref (a 0))] := hl
  refine lv_iconst (v := 0) hx hb dX0_sinkVehicles_0 (by decide) ?_
  refine lv_istore_n (lv' := [(1, .int 0), (0, .ref (a 0))]) hx hb dX0_sinkVehicles_1 rfl hl (by decide) rfl (fun ls hl => ?_)
  obtain ⟨k2, ek2, hF⟩ := ob_k (F := fun k9 => F_X0_sinkVehicles_L2  k9 1000 b 0) hF
  have loop2 : ∀ (n9 : Nat) (b1 : Bv) (x2 : Int32), F_X0_sinkVehicles_L2  k2 n9 b1 x2 = some z → ∀ (H : Heap) (locs : List Loc), va_P g.1 vwCl ([wB g a b1] : List va_W).flatten H → va_D A ([wB g a b1] : List va_W).flatten → va_S A s.heap H locs → ∀ ls : Array Slot, lv_has ls 4 [(0, .ref (a 0)), (1, .int x2)] → W p l e ({ frames := 2, cells := 0, slots := 0, locals := 43 } : Room) s m ([.ref (a 0)] : List Value).toArray below meth c H locs 0 0 Q (F0 m 2 ls []) := by
    intro n9
    induction n9 with
    | zero => intro b1 x2 hF; rw [F_X0_sinkVehicles_L2] at hF; cases hF
    | succ n9 ih2 =>
      intro b1 x2 hF H locs hP hD hS ls hl
      rw [F_X0_sinkVehicles_L2] at hF
      refine lv_iload_n hx hb dX0_sinkVehicles_2 rfl (lv_at hl 1 rfl) ?_
      refine lv_aload_n hx hb dX0_sinkVehicles_3 rfl (lv_at hl 0 rfl) ?_
      refine va_get (D := g.1) (ci := 4) (v := .int (B_spans b1)) (C := RX0) (T := TX0) (N := 17) hx hb hts inX0 hown hK hP 0 rfl rfl 0 (by decide) (hts _ mw_44) (fun _ h9 => h9) rfl dX0_sinkVehicles_4 ?_
      refine lv_icmp_ge (tgt := 73) hx hb dX0_sinkVehicles_7 (by decide) (fun c3 => ?_) (fun c3 => ?_)
      · have hF := ob_pos c3 hF
        rw [ek2] at hF
        cases hF
        rw [hQ]
        exact jb_vret hx hb hr hlocks hP hD hS dX0_sinkVehicles_73 (Nat.le_of_ble_eq_true rfl) (Nat.le_of_ble_eq_true rfl)
      · have hF := ob_neg c3 hF
        refine lv_aload_n hx hb dX0_sinkVehicles_10 rfl (lv_at hl 0 rfl) ?_
        refine lv_iload_n hx hb dX0_sinkVehicles_11 rfl (lv_at hl 1 rfl) ?_
        obtain ⟨z4, hz4, hF⟩ := ob_bind hF
        refine cl_i (csR := []) (csF := [wB g a b1]) (rest := []) hx hb hml hown hts hK hE hA hl hP hD hS (c_X0_strengthOf g l a b1 x2 z4 hz4) [0] [] [0] ⟨rfl, rfl, rfl, rfl, rfl, rfl, rfl⟩ ⟨0, 4, _, _, rfl, rfl, rfl⟩ 1 (jb_giV mw_698 mw_285 mw_286 mw_2 mw_287) ⟨rfl, rfl⟩ (by decide +kernel) ⟨⟨(Nat.le_of_ble_eq_true rfl), (Nat.le_of_ble_eq_true rfl)⟩, (Nat.le_of_ble_eq_true rfl), (Nat.le_of_ble_eq_true rfl)⟩ ⟨rfl, rfl⟩ (Nat.le_of_ble_eq_true rfl) dX0_sinkVehicles_12 (fun H locs hP hD hS => ?_)
        refine lv_istore_n (lv' := [(2, .int z4), (0, .ref (a 0)), (1, .int x2)]) hx hb dX0_sinkVehicles_15 rfl hl (by decide) rfl (fun ls hl => ?_)
        refine lv_aload_n hx hb dX0_sinkVehicles_16 rfl (lv_at hl 1 rfl) ?_
        refine va_get (D := g.1) (ci := 4) (v := .int (B_vehicles b1)) (C := RX0) (T := TX0) (N := 17) hx hb hts inX0 hown hK hP 0 rfl rfl 6 (by decide) (hts _ mw_59) (fun _ h9 => h9) rfl dX0_sinkVehicles_17 ?_
        refine lv_iconst (v := 1) hx hb dX0_sinkVehicles_20 (by decide) ?_
        refine lv_isub hx hb dX0_sinkVehicles_21 ?_
        refine lv_istore_n (lv' := [(3, .int ((B_vehicles b1) - 1)), (2, .int z4), (0, .ref (a 0)), (1, .int x2)]) hx hb dX0_sinkVehicles_22 rfl hl (by decide) rfl (fun ls hl => ?_)
        obtain ⟨k6, ek6, hF⟩ := ob_k (F := fun k9 => F_X0_sinkVehicles_L23 x2 z4 k9 1000 b1 ((B_vehicles b1) - 1)) hF
        have loop6 : ∀ (n9 : Nat) (b5 : Bv) (x6 : Int32), F_X0_sinkVehicles_L23 x2 z4 k6 n9 b5 x6 = some z → ∀ (H : Heap) (locs : List Loc), va_P g.1 vwCl ([wB g a b5] : List va_W).flatten H → va_D A ([wB g a b5] : List va_W).flatten → va_S A s.heap H locs → ∀ ls : Array Slot, lv_has ls 4 [(0, .ref (a 0)), (1, .int x2), (2, .int z4), (3, .int x6)] → W p l e ({ frames := 2, cells := 0, slots := 0, locals := 43 } : Room) s m ([.ref (a 0)] : List Value).toArray below meth c H locs 0 0 Q (F0 m 23 ls []) := by
          intro n9
          induction n9 with
          | zero => intro b5 x6 hF; rw [F_X0_sinkVehicles_L23] at hF; cases hF
          | succ n9 ih6 =>
            intro b5 x6 hF H locs hP hD hS ls hl
            rw [F_X0_sinkVehicles_L23] at hF
            refine lv_iload_n hx hb dX0_sinkVehicles_23 rfl (lv_at hl 3 rfl) ?_
            refine lv_if_lt (tgt := 67) hx hb dX0_sinkVehicles_24 (by decide) (fun c7 => ?_) (fun c7 => ?_)
            · have hF := ob_pos c7 hF
              rw [ek6] at hF
              refine lv_iinc (v := x2 + 1) (lv' := [(1, .int (x2 + 1)), (0, .ref (a 0)), (2, .int z4), (3, .int x6)]) hx hb dX0_sinkVehicles_67 hl (k := 1) rfl (by rfl) (by decide) rfl (fun ls hl => ?_)
              refine lv_goto (tgt := 2) hx hb dX0_sinkVehicles_70 (by decide) ?_
              exact ih2 _ _ hF _ _ hP hD hS ls (lv_sub hl [1, 0] rfl)
            · have hF := ob_neg c7 hF
              refine lv_aload_n hx hb dX0_sinkVehicles_27 rfl (lv_at hl 0 rfl) ?_
              refine lv_iload_n hx hb dX0_sinkVehicles_28 rfl (lv_at hl 1 rfl) ?_
              obtain ⟨z8, hz8, hF⟩ := ob_bind hF
              refine cl_i (csR := []) (csF := [wB g a b5]) (rest := []) hx hb hml hown hts hK hE hA hl hP hD hS (c_X0_loadOf g l a b5 x2 z8 hz8) [0] [] [0] ⟨rfl, rfl, rfl, rfl, rfl, rfl, rfl⟩ ⟨0, 4, _, _, rfl, rfl, rfl⟩ 1 (jb_giV mw_697 mw_273 mw_274 mw_2 mw_275) ⟨rfl, rfl⟩ (by decide +kernel) ⟨⟨(Nat.le_of_ble_eq_true rfl), (Nat.le_of_ble_eq_true rfl)⟩, (Nat.le_of_ble_eq_true rfl), (Nat.le_of_ble_eq_true rfl)⟩ ⟨rfl, rfl⟩ (Nat.le_of_ble_eq_true rfl) dX0_sinkVehicles_29 (fun H locs hP hD hS => ?_)
              refine lv_iload_n hx hb dX0_sinkVehicles_32 rfl (lv_at hl 2 rfl) ?_
              refine lv_icmp_le (tgt := 67) hx hb dX0_sinkVehicles_33 (by decide) (fun c9 => ?_) (fun c9 => ?_)
              · have hF := ob_pos c9 hF
                rw [ek6] at hF
                refine lv_iinc (v := x2 + 1) (lv' := [(1, .int (x2 + 1)), (0, .ref (a 0)), (2, .int z4), (3, .int x6)]) hx hb dX0_sinkVehicles_67 hl (k := 1) rfl (by rfl) (by decide) rfl (fun ls hl => ?_)
                refine lv_goto (tgt := 2) hx hb dX0_sinkVehicles_70 (by decide) ?_
                exact ih2 _ _ hF _ _ hP hD hS ls (lv_sub hl [1, 0] rfl)
              · have hF := ob_neg c9 hF
                refine lv_aload_n hx hb dX0_sinkVehicles_36 rfl (lv_at hl 0 rfl) ?_
                refine va_get (D := g.1) (ci := 4) (v := .ref (a 8)) (C := RX0) (T := TX0) (N := 17) hx hb hts inX0 hown hK hP 0 rfl rfl 9 (by decide) (hts _ mw_66) (fun _ h9 => h9) rfl dX0_sinkVehicles_37 ?_
                refine lv_iload_n hx hb dX0_sinkVehicles_40 rfl (lv_at hl 3 rfl) ?_
                have h10 := inb_in (ck_t hF)
                have hF := ck_s hF
                refine va_iald hx hb hK hP 8 0 rfl rfl h10 dX0_sinkVehicles_41 ?_
                refine lv_iload_n hx hb dX0_sinkVehicles_42 rfl (lv_at hl 1 rfl) ?_
                refine lv_icmp_ne (tgt := 61) hx hb dX0_sinkVehicles_43 (by decide) (fun c11 => ?_) (fun c11 => ?_)
                · have hF := ob_pos c11 hF
                  refine lv_iinc (v := x6 + (-1)) (lv' := [(3, .int (x6 + (-1))), (0, .ref (a 0)), (1, .int x2), (2, .int z4)]) hx hb dX0_sinkVehicles_61 hl (k := 3) rfl (by rfl) (by decide) rfl (fun ls hl => ?_)
                  refine lv_goto (tgt := 23) hx hb dX0_sinkVehicles_64 (by decide) ?_
                  exact ih6 _ _ hF _ _ hP hD hS ls (lv_sub hl [1, 2, 3, 0] rfl)
                · have hF := ob_nneg c11 hF
                  refine lv_aload_n hx hb dX0_sinkVehicles_46 rfl (lv_at hl 0 rfl) ?_
                  refine lv_iload_n hx hb dX0_sinkVehicles_47 rfl (lv_at hl 3 rfl) ?_
                  obtain ⟨z12, hz12, hF⟩ := ob_bind hF
                  refine cl_v (csR := []) (csF := [wB g a z12]) (rest := []) hx hb hml hown hts hK hE hA hl hP hD hS (c_X0_removeVehicle g l a b5 x6 z12 hz12) [0] [] [0] ⟨rfl, rfl, rfl, rfl, rfl, rfl, rfl⟩ ⟨0, 4, _, _, rfl, rfl, rfl⟩ 1 (jb_giV mw_1000 mw_1002 ms_17 mw_2 mw_1003) ⟨rfl, rfl⟩ (by decide +kernel) ⟨⟨(Nat.le_of_ble_eq_true rfl), (Nat.le_of_ble_eq_true rfl)⟩, (Nat.le_of_ble_eq_true rfl), (Nat.le_of_ble_eq_true rfl)⟩ ⟨rfl, rfl⟩ (Nat.le_of_ble_eq_true rfl) dX0_sinkVehicles_48 (fun H locs hP hD hS => ?_)
                  refine lv_aload_n hx hb dX0_sinkVehicles_51 rfl (lv_at hl 0 rfl) ?_
                  refine lv_dup hx hb dX0_sinkVehicles_52 rfl ?_
                  refine va_get (D := g.1) (ci := 4) (v := .int (B_sunk z12)) (C := RX0) (T := TX0) (N := 17) hx hb hts inX0 hown hK hP 0 rfl rfl 16 (by decide) (hts _ mw_82) (fun _ h9 => h9) rfl dX0_sinkVehicles_53 ?_
                  refine lv_iconst (v := 1) hx hb dX0_sinkVehicles_56 (by decide) ?_
                  refine lv_iadd hx hb dX0_sinkVehicles_57 ?_
                  refine va_put (D := g.1) (ci := 4) (v := .int ((B_sunk z12) + 1)) (ty := .int) (C := RX0) (T := TX0) (N := 17) hx hb hts inX0 tyX0 tyX0_ok nmX0 hown hK hP hD hS 0 rfl rfl 16 (by decide) (hts _ mw_82) (fun _ h9 => h9) rfl (by decide +kernel) rfl rfl (Nat.le_of_ble_eq_true rfl) dX0_sinkVehicles_58 (fun H locs hP hD hS => ?_)
                  have hP : va_P g.1 vwCl ([wBc g a (B_spans z12) (B_lengths z12) (B_jars z12) (B_ages z12) (B_cracks z12) (B_stresses z12) (B_vehicles z12) (B_numbers z12) (B_weights z12) (B_places z12) (B_nextNumber z12) (B_hour z12) (B_rate z12) (B_till z12) (B_paid z12) (B_crossed z12) ((B_sunk z12) + 1)] : List va_W).flatten _ := hP
                  have hD : va_D A ([wBc g a (B_spans z12) (B_lengths z12) (B_jars z12) (B_ages z12) (B_cracks z12) (B_stresses z12) (B_vehicles z12) (B_numbers z12) (B_weights z12) (B_places z12) (B_nextNumber z12) (B_hour z12) (B_rate z12) (B_till z12) (B_paid z12) (B_crossed z12) ((B_sunk z12) + 1)] : List va_W).flatten := hD
                  refine lv_iinc (v := x6 + (-1)) (lv' := [(3, .int (x6 + (-1))), (0, .ref (a 0)), (1, .int x2), (2, .int z4)]) hx hb dX0_sinkVehicles_61 hl (k := 3) rfl (by rfl) (by decide) rfl (fun ls hl => ?_)
                  refine lv_goto (tgt := 23) hx hb dX0_sinkVehicles_64 (by decide) ?_
                  exact ih6 _ _ hF _ _ hP hD hS ls (lv_sub hl [1, 2, 3, 0] rfl)
        exact loop6 1000 _ _ hF _ _ hP hD hS ls (lv_sub hl [2, 3, 1, 0] rfl)
  exact loop2 1000 _ _ hF _ _ hP hD hS ls (lv_sub hl [1, 0] rfl)
def F_X0_letHoursPass_L7 (y1 : Int32) (y2 : Int32) (k : Bv → Int32 → Option (Int32 × Bv)) : Nat → Bv → Int32 → Option (Int32 × Bv)
  | 0, _, _ => none
  | n + 1, b0, x3 => if y1 ≤ x3 then k b0 x3 else (F_X0_ageSpans (mkB (B_spans b0) (B_lengths b0) (B_jars b0) (B_ages b0) (B_cracks b0) (B_stresses b0) (B_vehicles b0) (B_numbers b0) (B_weights b0) (B_places b0) (B_nextNumber b0) ((B_hour b0) + 1) (B_rate b0) (B_till b0) (B_paid b0) (B_crossed b0) (B_sunk b0))).bind (fun z1 => (F_X0_moveVehicles z1).bind (fun z2 => (F_X0_stressSpans z2).bind (fun z3 => ck (nz 6) (if ¬ ((B_hour z3) - (B_hour z3) / 6 * 6) = 0 then (F_X0_sinkVehicles z3).bind (fun z4 => F_X0_letHoursPass_L7 y1 y2 k n z4 (x3 + 1)) else (F_X0_spreadCracks z3).bind (fun z5 => (F_X0_sinkVehicles z5).bind (fun z6 => F_X0_letHoursPass_L7 y1 y2 k n z6 (x3 + 1)))))))
def F_X0_letHoursPass (b : Bv) (p0 : Int32) : Option (Int32 × Bv) := F_X0_letHoursPass_L7 p0 (B_crossed b) (fun b7 x8 => some ((B_crossed b7) - (B_crossed b), b7)) 1000 b 0
set_option maxHeartbeats 4000000 in
set_option maxRecDepth 100000 in
theorem c_X0_letHoursPass (g : GG) (l : Launch) (a : Nat → Nat) (b : Bv) (p0 : Int32) (z : Int32 × Bv) (hF : F_X0_letHoursPass b p0 = some z) : MI g l yX0_letHoursPass cX0_letHoursPass 4 (some .int) ({ frames := 4, cells := 0, slots := 0, locals := 89 } : Room) [.ref (a 0), .int p0] [wB g a b] 0 0 z.1 [wB g a z.2] := by
  refine MI.bg (by decide) (Nat.le_of_ble_eq_true rfl) ?_
  intro p e s m below meth c A Q hQ hx hb hr hml hown hts hlocks hmn hK hE hA hP hD hS ls hl
  rw [F_X0_letHoursPass] at hF
  have hl : lv_has ls 4 [(0, .ref (a 0)), (1, .int p0)] := hl
  refine lv_aload_n hx hb dX0_letHoursPass_0 rfl (lv_at hl 0 rfl) ?_
  refine va_get (D := g.1) (ci := 4) (v := .int (B_crossed b)) (C := RX0) (T := TX0) (N := 17) hx hb hts inX0 hown hK hP 0 rfl rfl 15 (by decide) (hts _ mw_80) (fun _ h9 => h9) rfl dX0_letHoursPass_1 ?_
  refine lv_istore_n (lv' := [(2, .int (B_crossed b)), (0, .ref (a 0)), (1, .int p0)]) hx hb dX0_letHoursPass_4 rfl hl (by decide) rfl (fun ls hl => ?_)
  refine lv_iconst (v := 0) hx hb dX0_letHoursPass_5 (by decide) ?_
  refine lv_istore_n (lv' := [(3, .int 0), (2, .int (B_crossed b)), (0, .ref (a 0)), (1, .int p0)]) hx hb dX0_letHoursPass_6 rfl hl (by decide) rfl (fun ls hl => ?_)
  obtain ⟨k2, ek2, hF⟩ := ob_k (F := fun k9 => F_X0_letHoursPass_L7 p0 (B_crossed b) k9 1000 b 0) hF
  have loop2 : ∀ (n9 : Nat) (b1 : Bv) (x2 : Int32), F_X0_letHoursPass_L7 p0 (B_crossed b) k2 n9 b1 x2 = some z → ∀ (H : Heap) (locs : List Loc), va_P g.1 vwCl ([wB g a b1] : List va_W).flatten H → va_D A ([wB g a b1] : List va_W).flatten → va_S A s.heap H locs → ∀ ls : Array Slot, lv_has ls 4 [(0, .ref (a 0)), (1, .int p0), (2, .int (B_crossed b)), (3, .int x2)] → W p l e ({ frames := 4, cells := 0, slots := 0, locals := 89 } : Room) s m ([.ref (a 0), .int p0] : List Value).toArray below meth c H locs 0 0 Q (F0 m 7 ls []) := by
    intro n9
    induction n9 with
    | zero => intro b1 x2 hF; rw [F_X0_letHoursPass_L7] at hF; cases hF
    | succ n9 ih2 =>
      intro b1 x2 hF H locs hP hD hS ls hl
      rw [F_X0_letHoursPass_L7] at hF
      refine lv_iload_n hx hb dX0_letHoursPass_7 rfl (lv_at hl 3 rfl) ?_
      refine lv_iload_n hx hb dX0_letHoursPass_8 rfl (lv_at hl 1 rfl) ?_
      refine lv_icmp_ge (tgt := 58) hx hb dX0_letHoursPass_9 (by decide) (fun c3 => ?_) (fun c3 => ?_)
      · have hF := ob_pos c3 hF
        rw [ek2] at hF
        refine lv_aload_n hx hb dX0_letHoursPass_58 rfl (lv_at hl 0 rfl) ?_
        refine va_get (D := g.1) (ci := 4) (v := .int (B_crossed b1)) (C := RX0) (T := TX0) (N := 17) hx hb hts inX0 hown hK hP 0 rfl rfl 15 (by decide) (hts _ mw_80) (fun _ h9 => h9) rfl dX0_letHoursPass_59 ?_
        refine lv_iload_n hx hb dX0_letHoursPass_62 rfl (lv_at hl 2 rfl) ?_
        refine lv_isub hx hb dX0_letHoursPass_63 ?_
        cases hF
        rw [hQ]
        exact jb_iret hx hb hr hlocks hP hD hS dX0_letHoursPass_64 rfl (Nat.le_of_ble_eq_true rfl) (Nat.le_of_ble_eq_true rfl)
      · have hF := ob_neg c3 hF
        refine lv_aload_n hx hb dX0_letHoursPass_12 rfl (lv_at hl 0 rfl) ?_
        refine lv_dup hx hb dX0_letHoursPass_13 rfl ?_
        refine va_get (D := g.1) (ci := 4) (v := .int (B_hour b1)) (C := RX0) (T := TX0) (N := 17) hx hb hts inX0 hown hK hP 0 rfl rfl 11 (by decide) (hts _ mw_69) (fun _ h9 => h9) rfl dX0_letHoursPass_14 ?_
        refine lv_iconst (v := 1) hx hb dX0_letHoursPass_17 (by decide) ?_
        refine lv_iadd hx hb dX0_letHoursPass_18 ?_
        refine va_put (D := g.1) (ci := 4) (v := .int ((B_hour b1) + 1)) (ty := .int) (C := RX0) (T := TX0) (N := 17) hx hb hts inX0 tyX0 tyX0_ok nmX0 hown hK hP hD hS 0 rfl rfl 11 (by decide) (hts _ mw_69) (fun _ h9 => h9) rfl (by decide +kernel) rfl rfl (Nat.le_of_ble_eq_true rfl) dX0_letHoursPass_19 (fun H locs hP hD hS => ?_)
        have hP : va_P g.1 vwCl ([wBc g a (B_spans b1) (B_lengths b1) (B_jars b1) (B_ages b1) (B_cracks b1) (B_stresses b1) (B_vehicles b1) (B_numbers b1) (B_weights b1) (B_places b1) (B_nextNumber b1) ((B_hour b1) + 1) (B_rate b1) (B_till b1) (B_paid b1) (B_crossed b1) (B_sunk b1)] : List va_W).flatten _ := hP
        have hD : va_D A ([wBc g a (B_spans b1) (B_lengths b1) (B_jars b1) (B_ages b1) (B_cracks b1) (B_stresses b1) (B_vehicles b1) (B_numbers b1) (B_weights b1) (B_places b1) (B_nextNumber b1) ((B_hour b1) + 1) (B_rate b1) (B_till b1) (B_paid b1) (B_crossed b1) (B_sunk b1)] : List va_W).flatten := hD
        refine lv_aload_n hx hb dX0_letHoursPass_22 rfl (lv_at hl 0 rfl) ?_
        obtain ⟨z4, hz4, hF⟩ := ob_bind hF
        refine cl_v (csR := []) (csF := [wB g a z4]) (rest := []) hx hb hml hown hts hK hE hA hl hP hD hS (c_X0_ageSpans g l a (mkB (B_spans b1) (B_lengths b1) (B_jars b1) (B_ages b1) (B_cracks b1) (B_stresses b1) (B_vehicles b1) (B_numbers b1) (B_weights b1) (B_places b1) (B_nextNumber b1) ((B_hour b1) + 1) (B_rate b1) (B_till b1) (B_paid b1) (B_crossed b1) (B_sunk b1)) z4 hz4) [0] [] [0] ⟨rfl, rfl, rfl, rfl, rfl, rfl, rfl⟩ ⟨0, 4, _, _, rfl, rfl, rfl⟩ 0 (jb_giV mw_976 mw_978 ms_14 mw_2 mw_979) ⟨rfl, rfl⟩ (by decide +kernel) ⟨⟨(Nat.le_of_ble_eq_true rfl), (Nat.le_of_ble_eq_true rfl)⟩, (Nat.le_of_ble_eq_true rfl), (Nat.le_of_ble_eq_true rfl)⟩ ⟨rfl, rfl⟩ (Nat.le_of_ble_eq_true rfl) dX0_letHoursPass_23 (fun H locs hP hD hS => ?_)
        refine lv_aload_n hx hb dX0_letHoursPass_26 rfl (lv_at hl 0 rfl) ?_
        obtain ⟨z5, hz5, hF⟩ := ob_bind hF
        refine cl_v (csR := []) (csF := [wB g a z5]) (rest := []) hx hb hml hown hts hK hE hA hl hP hD hS (c_X0_moveVehicles g l a z4 z5 hz5) [0] [] [0] ⟨rfl, rfl, rfl, rfl, rfl, rfl, rfl⟩ ⟨0, 4, _, _, rfl, rfl, rfl⟩ 0 (jb_giV mw_980 mw_982 ms_15 mw_2 mw_983) ⟨rfl, rfl⟩ (by decide +kernel) ⟨⟨(Nat.le_of_ble_eq_true rfl), (Nat.le_of_ble_eq_true rfl)⟩, (Nat.le_of_ble_eq_true rfl), (Nat.le_of_ble_eq_true rfl)⟩ ⟨rfl, rfl⟩ (Nat.le_of_ble_eq_true rfl) dX0_letHoursPass_27 (fun H locs hP hD hS => ?_)
        refine lv_aload_n hx hb dX0_letHoursPass_30 rfl (lv_at hl 0 rfl) ?_
        obtain ⟨z6, hz6, hF⟩ := ob_bind hF
        refine cl_v (csR := []) (csF := [wB g a z6]) (rest := []) hx hb hml hown hts hK hE hA hl hP hD hS (c_X0_stressSpans g l a z5 z6 hz6) [0] [] [0] ⟨rfl, rfl, rfl, rfl, rfl, rfl, rfl⟩ ⟨0, 4, _, _, rfl, rfl, rfl⟩ 0 (jb_giV mw_1008 mw_1010 ms_19 mw_2 mw_1011) ⟨rfl, rfl⟩ (by decide +kernel) ⟨⟨(Nat.le_of_ble_eq_true rfl), (Nat.le_of_ble_eq_true rfl)⟩, (Nat.le_of_ble_eq_true rfl), (Nat.le_of_ble_eq_true rfl)⟩ ⟨rfl, rfl⟩ (Nat.le_of_ble_eq_true rfl) dX0_letHoursPass_31 (fun H locs hP hD hS => ?_)
        refine lv_aload_n hx hb dX0_letHoursPass_34 rfl (lv_at hl 0 rfl) ?_
        refine va_get (D := g.1) (ci := 4) (v := .int (B_hour z6)) (C := RX0) (T := TX0) (N := 17) hx hb hts inX0 hown hK hP 0 rfl rfl 11 (by decide) (hts _ mw_69) (fun _ h9 => h9) rfl dX0_letHoursPass_35 ?_
        refine lv_bipush (v := 6) hx hb dX0_letHoursPass_38 (by decide) ?_
        have h7 := nz_ne (ck_t hF)
        have hF := ck_s hF
        refine lv_irem hx hb dX0_letHoursPass_40 h7 ?_
        refine lv_if_ne (tgt := 48) hx hb dX0_letHoursPass_41 (by decide) (fun c8 => ?_) (fun c8 => ?_)
        · have hF := ob_pos c8 hF
          refine lv_aload_n hx hb dX0_letHoursPass_48 rfl (lv_at hl 0 rfl) ?_
          obtain ⟨z9, hz9, hF⟩ := ob_bind hF
          refine cl_v (csR := []) (csF := [wB g a z9]) (rest := []) hx hb hml hown hts hK hE hA hl hP hD hS (c_X0_sinkVehicles g l a z6 z9 hz9) [0] [] [0] ⟨rfl, rfl, rfl, rfl, rfl, rfl, rfl⟩ ⟨0, 4, _, _, rfl, rfl, rfl⟩ 0 (jb_giV mw_1022 mw_1024 ms_22 mw_2 mw_1025) ⟨rfl, rfl⟩ (by decide +kernel) ⟨⟨(Nat.le_of_ble_eq_true rfl), (Nat.le_of_ble_eq_true rfl)⟩, (Nat.le_of_ble_eq_true rfl), (Nat.le_of_ble_eq_true rfl)⟩ ⟨rfl, rfl⟩ (Nat.le_of_ble_eq_true rfl) dX0_letHoursPass_49 (fun H locs hP hD hS => ?_)
          refine lv_iinc (v := x2 + 1) (lv' := [(3, .int (x2 + 1)), (0, .ref (a 0)), (1, .int p0), (2, .int (B_crossed b))]) hx hb dX0_letHoursPass_52 hl (k := 3) rfl (by rfl) (by decide) rfl (fun ls hl => ?_)
          refine lv_goto (tgt := 7) hx hb dX0_letHoursPass_55 (by decide) ?_
          exact ih2 _ _ hF _ _ hP hD hS ls (lv_sub hl [1, 2, 3, 0] rfl)
        · have hF := ob_nneg c8 hF
          refine lv_aload_n hx hb dX0_letHoursPass_44 rfl (lv_at hl 0 rfl) ?_
          obtain ⟨z10, hz10, hF⟩ := ob_bind hF
          refine cl_v (csR := []) (csF := [wB g a z10]) (rest := []) hx hb hml hown hts hK hE hA hl hP hD hS (c_X0_spreadCracks g l a z6 z10 hz10) [0] [] [0] ⟨rfl, rfl, rfl, rfl, rfl, rfl, rfl⟩ ⟨0, 4, _, _, rfl, rfl, rfl⟩ 0 (jb_giV mw_1017 mw_1019 ms_21 mw_2 mw_1020) ⟨rfl, rfl⟩ (by decide +kernel) ⟨⟨(Nat.le_of_ble_eq_true rfl), (Nat.le_of_ble_eq_true rfl)⟩, (Nat.le_of_ble_eq_true rfl), (Nat.le_of_ble_eq_true rfl)⟩ ⟨rfl, rfl⟩ (Nat.le_of_ble_eq_true rfl) dX0_letHoursPass_45 (fun H locs hP hD hS => ?_)
          refine lv_aload_n hx hb dX0_letHoursPass_48 rfl (lv_at hl 0 rfl) ?_
          obtain ⟨z11, hz11, hF⟩ := ob_bind hF
          refine cl_v (csR := []) (csF := [wB g a z11]) (rest := []) hx hb hml hown hts hK hE hA hl hP hD hS (c_X0_sinkVehicles g l a z10 z11 hz11) [0] [] [0] ⟨rfl, rfl, rfl, rfl, rfl, rfl, rfl⟩ ⟨0, 4, _, _, rfl, rfl, rfl⟩ 0 (jb_giV mw_1022 mw_1024 ms_22 mw_2 mw_1025) ⟨rfl, rfl⟩ (by decide +kernel) ⟨⟨(Nat.le_of_ble_eq_true rfl), (Nat.le_of_ble_eq_true rfl)⟩, (Nat.le_of_ble_eq_true rfl), (Nat.le_of_ble_eq_true rfl)⟩ ⟨rfl, rfl⟩ (Nat.le_of_ble_eq_true rfl) dX0_letHoursPass_49 (fun H locs hP hD hS => ?_)
          refine lv_iinc (v := x2 + 1) (lv' := [(3, .int (x2 + 1)), (0, .ref (a 0)), (1, .int p0), (2, .int (B_crossed b))]) hx hb dX0_letHoursPass_52 hl (k := 3) rfl (by rfl) (by decide) rfl (fun ls hl => ?_)
          refine lv_goto (tgt := 7) hx hb dX0_letHoursPass_55 (by decide) ?_
          exact ih2 _ _ hF _ _ hP hD hS ls (lv_sub hl [1, 2, 3, 0] rfl)
  exact loop2 1000 _ _ hF _ _ hP hD hS ls (lv_sub hl [2, 3, 1, 0] rfl)
def F_X0_carryOut (b : Bv) (p0 : Int32) (p1 : Int32) (p2 : Int32) : Option (Bv) := if p0 = 0 then (F_X0_appendSpan b p1).bind (fun z1 => some z1.2) else if p0 = 1 then (F_X0_addJars b p1 p2).bind (fun z2 => some z2.2) else if p0 = 2 then (F_X0_appendVehicle b p1).bind (fun z3 => some z3.2) else if p0 = 3 then (F_X0_repair b p1 p2).bind (fun z4 => some z4.2) else if p0 = 4 then (F_X0_replaceRate b p1).bind (fun z5 => some z5.2) else if p0 = 5 then (F_X0_letHoursPass b p1).bind (fun z6 => some z6.2) else (F_X0_dropLastSpan b).bind (fun z7 => some z7.2)
set_option maxHeartbeats 4000000 in
set_option maxRecDepth 100000 in
theorem c_X0_carryOut (g : GG) (l : Launch) (a : Nat → Nat) (b : Bv) (p0 : Int32) (p1 : Int32) (p2 : Int32) (z : Bv) (hF : F_X0_carryOut b p0 p1 p2 = some z) : MV g l yX0_carryOut cX0_carryOut 4 none ({ frames := 5, cells := 0, slots := 0, locals := 112 } : Room) [.ref (a 0), .int p0, .int p1, .int p2] [wB g a b] 0 0 [wB g a z] := by
  refine MV.bg (by decide) (Nat.le_of_ble_eq_true rfl) ?_
  intro p e s m below meth c A Q hQ hx hb hr hml hown hts hlocks hmn hK hE hA hP hD hS ls hl
  rw [F_X0_carryOut] at hF
  have hl : lv_has ls 4 [(0, .ref (a 0)), (1, .int p0), (2, .int p1), (3, .int p2)] := hl
  refine lv_iload_n hx hb dX0_carryOut_0 rfl (lv_at hl 1 rfl) ?_
  by_cases s1 : p0 = 0
  · have hF := ob_pos s1 hF
    refine lv_tableIn (off := 39) (tgt := 40) hx hb dX0_carryOut_1 (by rw [s1]; decide) (by rw [s1]; decide) (by rw [s1]; rfl) (by decide) ?_
    refine lv_aload_n hx hb dX0_carryOut_40 rfl (lv_at hl 0 rfl) ?_
    refine lv_iload_n hx hb dX0_carryOut_41 rfl (lv_at hl 2 rfl) ?_
    obtain ⟨z2, hz2, hF⟩ := ob_bind hF
    refine cl_i (csR := []) (csF := [wB g a z2.2]) (rest := []) hx hb hml hown hts hK hE hA hl hP hD hS (c_X0_appendSpan g l a b p1 z2 hz2) [0] [] [0] ⟨rfl, rfl, rfl, rfl, rfl, rfl, rfl⟩ ⟨0, 4, _, _, rfl, rfl, rfl⟩ 1 (jb_giV mw_1218 mw_808 mw_809 mw_2 mw_810) ⟨rfl, rfl⟩ (by decide +kernel) ⟨⟨(Nat.le_of_ble_eq_true rfl), (Nat.le_of_ble_eq_true rfl)⟩, (Nat.le_of_ble_eq_true rfl), (Nat.le_of_ble_eq_true rfl)⟩ ⟨rfl, rfl⟩ (Nat.le_of_ble_eq_true rfl) dX0_carryOut_42 (fun H locs hP hD hS => ?_)
    refine lv_pop hx hb dX0_carryOut_45 rfl ?_
    refine lv_goto (tgt := 101) hx hb dX0_carryOut_46 (by decide) ?_
    cases hF
    rw [hQ]
    exact jb_vret hx hb hr hlocks hP hD hS dX0_carryOut_101 (Nat.le_of_ble_eq_true rfl) (Nat.le_of_ble_eq_true rfl)
  · have hF := ob_neg s1 hF
    by_cases s3 : p0 = 1
    · have hF := ob_pos s3 hF
      refine lv_tableIn (off := 48) (tgt := 49) hx hb dX0_carryOut_1 (by rw [s3]; decide) (by rw [s3]; decide) (by rw [s3]; rfl) (by decide) ?_
      refine lv_aload_n hx hb dX0_carryOut_49 rfl (lv_at hl 0 rfl) ?_
      refine lv_iload_n hx hb dX0_carryOut_50 rfl (lv_at hl 2 rfl) ?_
      refine lv_iload_n hx hb dX0_carryOut_51 rfl (lv_at hl 3 rfl) ?_
      obtain ⟨z4, hz4, hF⟩ := ob_bind hF
      refine cl_i (csR := []) (csF := [wB g a z4.2]) (rest := []) hx hb hml hown hts hK hE hA hl hP hD hS (c_X0_addJars g l a b p1 p2 z4 hz4) [0] [] [0] ⟨rfl, rfl, rfl, rfl, rfl, rfl, rfl⟩ ⟨0, 4, _, _, rfl, rfl, rfl⟩ 2 (jb_giV mw_1219 mw_833 mw_834 mw_2 mw_835) ⟨rfl, rfl⟩ (by decide +kernel) ⟨⟨(Nat.le_of_ble_eq_true rfl), (Nat.le_of_ble_eq_true rfl)⟩, (Nat.le_of_ble_eq_true rfl), (Nat.le_of_ble_eq_true rfl)⟩ ⟨rfl, rfl⟩ (Nat.le_of_ble_eq_true rfl) dX0_carryOut_52 (fun H locs hP hD hS => ?_)
      refine lv_pop hx hb dX0_carryOut_55 rfl ?_
      refine lv_goto (tgt := 101) hx hb dX0_carryOut_56 (by decide) ?_
      cases hF
      rw [hQ]
      exact jb_vret hx hb hr hlocks hP hD hS dX0_carryOut_101 (Nat.le_of_ble_eq_true rfl) (Nat.le_of_ble_eq_true rfl)
    · have hF := ob_neg s3 hF
      by_cases s5 : p0 = 2
      · have hF := ob_pos s5 hF
        refine lv_tableIn (off := 58) (tgt := 59) hx hb dX0_carryOut_1 (by rw [s5]; decide) (by rw [s5]; decide) (by rw [s5]; rfl) (by decide) ?_
        refine lv_aload_n hx hb dX0_carryOut_59 rfl (lv_at hl 0 rfl) ?_
        refine lv_iload_n hx hb dX0_carryOut_60 rfl (lv_at hl 2 rfl) ?_
        obtain ⟨z6, hz6, hF⟩ := ob_bind hF
        refine cl_i (csR := []) (csF := [wB g a z6.2]) (rest := []) hx hb hml hown hts hK hE hA hl hP hD hS (c_X0_appendVehicle g l a b p1 z6 hz6) [0] [] [0] ⟨rfl, rfl, rfl, rfl, rfl, rfl, rfl⟩ ⟨0, 4, _, _, rfl, rfl, rfl⟩ 1 (jb_giV mw_1220 mw_962 mw_963 mw_2 mw_964) ⟨rfl, rfl⟩ (by decide +kernel) ⟨⟨(Nat.le_of_ble_eq_true rfl), (Nat.le_of_ble_eq_true rfl)⟩, (Nat.le_of_ble_eq_true rfl), (Nat.le_of_ble_eq_true rfl)⟩ ⟨rfl, rfl⟩ (Nat.le_of_ble_eq_true rfl) dX0_carryOut_61 (fun H locs hP hD hS => ?_)
        refine lv_pop hx hb dX0_carryOut_64 rfl ?_
        refine lv_goto (tgt := 101) hx hb dX0_carryOut_65 (by decide) ?_
        cases hF
        rw [hQ]
        exact jb_vret hx hb hr hlocks hP hD hS dX0_carryOut_101 (Nat.le_of_ble_eq_true rfl) (Nat.le_of_ble_eq_true rfl)
      · have hF := ob_neg s5 hF
        by_cases s7 : p0 = 3
        · have hF := ob_pos s7 hF
          refine lv_tableIn (off := 67) (tgt := 68) hx hb dX0_carryOut_1 (by rw [s7]; decide) (by rw [s7]; decide) (by rw [s7]; rfl) (by decide) ?_
          refine lv_aload_n hx hb dX0_carryOut_68 rfl (lv_at hl 0 rfl) ?_
          refine lv_iload_n hx hb dX0_carryOut_69 rfl (lv_at hl 2 rfl) ?_
          refine lv_iload_n hx hb dX0_carryOut_70 rfl (lv_at hl 3 rfl) ?_
          obtain ⟨z8, hz8, hF⟩ := ob_bind hF
          refine cl_i (csR := []) (csF := [wB g a z8.2]) (rest := []) hx hb hml hown hts hK hE hA hl hP hD hS (c_X0_repair g l a b p1 p2 z8 hz8) [0] [] [0] ⟨rfl, rfl, rfl, rfl, rfl, rfl, rfl⟩ ⟨0, 4, _, _, rfl, rfl, rfl⟩ 2 (jb_giV mw_1221 mw_844 mw_845 mw_2 mw_846) ⟨rfl, rfl⟩ (by decide +kernel) ⟨⟨(Nat.le_of_ble_eq_true rfl), (Nat.le_of_ble_eq_true rfl)⟩, (Nat.le_of_ble_eq_true rfl), (Nat.le_of_ble_eq_true rfl)⟩ ⟨rfl, rfl⟩ (Nat.le_of_ble_eq_true rfl) dX0_carryOut_71 (fun H locs hP hD hS => ?_)
          refine lv_pop hx hb dX0_carryOut_74 rfl ?_
          refine lv_goto (tgt := 101) hx hb dX0_carryOut_75 (by decide) ?_
          cases hF
          rw [hQ]
          exact jb_vret hx hb hr hlocks hP hD hS dX0_carryOut_101 (Nat.le_of_ble_eq_true rfl) (Nat.le_of_ble_eq_true rfl)
        · have hF := ob_neg s7 hF
          by_cases s9 : p0 = 4
          · have hF := ob_pos s9 hF
            refine lv_tableIn (off := 77) (tgt := 78) hx hb dX0_carryOut_1 (by rw [s9]; decide) (by rw [s9]; decide) (by rw [s9]; rfl) (by decide) ?_
            refine lv_aload_n hx hb dX0_carryOut_78 rfl (lv_at hl 0 rfl) ?_
            refine lv_iload_n hx hb dX0_carryOut_79 rfl (lv_at hl 2 rfl) ?_
            obtain ⟨z10, hz10, hF⟩ := ob_bind hF
            refine cl_i (csR := []) (csF := [wB g a z10.2]) (rest := []) hx hb hml hown hts hK hE hA hl hP hD hS (c_X0_replaceRate g l a b p1 z10 hz10) [0] [] [0] ⟨rfl, rfl, rfl, rfl, rfl, rfl, rfl⟩ ⟨0, 4, _, _, rfl, rfl, rfl⟩ 1 (jb_giV mw_1222 mw_1034 mw_1035 mw_2 mw_1036) ⟨rfl, rfl⟩ (by decide +kernel) ⟨⟨(Nat.le_of_ble_eq_true rfl), (Nat.le_of_ble_eq_true rfl)⟩, (Nat.le_of_ble_eq_true rfl), (Nat.le_of_ble_eq_true rfl)⟩ ⟨rfl, rfl⟩ (Nat.le_of_ble_eq_true rfl) dX0_carryOut_80 (fun H locs hP hD hS => ?_)
            refine lv_pop hx hb dX0_carryOut_83 rfl ?_
            refine lv_goto (tgt := 101) hx hb dX0_carryOut_84 (by decide) ?_
            cases hF
            rw [hQ]
            exact jb_vret hx hb hr hlocks hP hD hS dX0_carryOut_101 (Nat.le_of_ble_eq_true rfl) (Nat.le_of_ble_eq_true rfl)
          · have hF := ob_neg s9 hF
            by_cases s11 : p0 = 5
            · have hF := ob_pos s11 hF
              refine lv_tableIn (off := 86) (tgt := 87) hx hb dX0_carryOut_1 (by rw [s11]; decide) (by rw [s11]; decide) (by rw [s11]; rfl) (by decide) ?_
              refine lv_aload_n hx hb dX0_carryOut_87 rfl (lv_at hl 0 rfl) ?_
              refine lv_iload_n hx hb dX0_carryOut_88 rfl (lv_at hl 2 rfl) ?_
              obtain ⟨z12, hz12, hF⟩ := ob_bind hF
              refine cl_i (csR := []) (csF := [wB g a z12.2]) (rest := []) hx hb hml hown hts hK hE hA hl hP hD hS (c_X0_letHoursPass g l a b p1 z12 hz12) [0] [] [0] ⟨rfl, rfl, rfl, rfl, rfl, rfl, rfl⟩ ⟨0, 4, _, _, rfl, rfl, rfl⟩ 1 (jb_giV mw_1223 mw_973 mw_974 mw_2 mw_975) ⟨rfl, rfl⟩ (by decide +kernel) ⟨⟨(Nat.le_of_ble_eq_true rfl), (Nat.le_of_ble_eq_true rfl)⟩, (Nat.le_of_ble_eq_true rfl), (Nat.le_of_ble_eq_true rfl)⟩ ⟨rfl, rfl⟩ (Nat.le_of_ble_eq_true rfl) dX0_carryOut_89 (fun H locs hP hD hS => ?_)
              refine lv_pop hx hb dX0_carryOut_92 rfl ?_
              refine lv_goto (tgt := 101) hx hb dX0_carryOut_93 (by decide) ?_
              cases hF
              rw [hQ]
              exact jb_vret hx hb hr hlocks hP hD hS dX0_carryOut_101 (Nat.le_of_ble_eq_true rfl) (Nat.le_of_ble_eq_true rfl)
            · have hF := ob_neg s11 hF
              have ts1 := jb_toInt (n := 0) s1 (by decide)
              have ts3 := jb_toInt (n := 1) s3 (by decide)
              have ts5 := jb_toInt (n := 2) s5 (by decide)
              have ts7 := jb_toInt (n := 3) s7 (by decide)
              have ts9 := jb_toInt (n := 4) s9 (by decide)
              have ts11 := jb_toInt (n := 5) s11 (by decide)
              refine lv_tableOut (tgt := 96) hx hb dX0_carryOut_1 (by omega) (by decide) ?_
              refine lv_aload_n hx hb dX0_carryOut_96 rfl (lv_at hl 0 rfl) ?_
              obtain ⟨z13, hz13, hF⟩ := ob_bind hF
              refine cl_i (csR := []) (csF := [wB g a z13.2]) (rest := []) hx hb hml hown hts hK hE hA hl hP hD hS (c_X0_dropLastSpan g l a b z13 hz13) [0] [] [0] ⟨rfl, rfl, rfl, rfl, rfl, rfl, rfl⟩ ⟨0, 4, _, _, rfl, rfl, rfl⟩ 0 (jb_giV mw_1224 mw_819 mw_820 mw_2 mw_821) ⟨rfl, rfl⟩ (by decide +kernel) ⟨⟨(Nat.le_of_ble_eq_true rfl), (Nat.le_of_ble_eq_true rfl)⟩, (Nat.le_of_ble_eq_true rfl), (Nat.le_of_ble_eq_true rfl)⟩ ⟨rfl, rfl⟩ (Nat.le_of_ble_eq_true rfl) dX0_carryOut_97 (fun H locs hP hD hS => ?_)
              refine lv_pop hx hb dX0_carryOut_100 rfl ?_
              cases hF
              rw [hQ]
              exact jb_vret hx hb hr hlocks hP hD hS dX0_carryOut_101 (Nat.le_of_ble_eq_true rfl) (Nat.le_of_ble_eq_true rfl)
