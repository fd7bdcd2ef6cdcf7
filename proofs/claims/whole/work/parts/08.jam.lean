theorem mw_223 : Cond.fieldLink RX4 10 "JamBridge" "bridge" "LJamBridge$Bridge;" ∈ WW := WT_in 223 (by decide +kernel) (by decide +kernel)
theorem mw_858 : Cond.methodLink RX4 317 yX0_hasSpan ∈ WW := WT_in 858 (by decide +kernel) (by decide +kernel)
theorem mw_1056 : Cond.methodLink RX4 177 yX0_positionOf ∈ WW := WT_in 1056 (by decide +kernel) (by decide +kernel)
theorem mw_1057 : Cond.instanceMethod yX0_positionOf ∈ WW := WT_in 1057 (by decide +kernel) (by decide +kernel)
theorem mw_1058 : Cond.selects RX0 yX0_positionOf yX0_positionOf ∈ WW := WT_in 1058 (by decide +kernel) (by decide +kernel)
theorem mw_1059 : Cond.code yX0_positionOf cX0_positionOf 3 (some .int) ∈ WW := WT_in 1059 (by decide +kernel) (by decide +kernel)
theorem mw_232 : Cond.fieldLink RX4 58 "JamBridge" "deniedNumber" "I" ∈ WW := WT_in 232 (by decide +kernel) (by decide +kernel)
theorem mw_233 : Cond.fieldLink RX4 61 "JamBridge" "deniedDetail" "I" ∈ WW := WT_in 233 (by decide +kernel) (by decide +kernel)
theorem mw_234 : Cond.fieldLink RX4 64 "JamBridge" "deniedCause" "I" ∈ WW := WT_in 234 (by decide +kernel) (by decide +kernel)
theorem mw_227 : Cond.fieldLink RX4 32 "JamBridge" "judge" "LJamBridge$Judge;" ∈ WW := WT_in 227 (by decide +kernel) (by decide +kernel)
theorem mw_726 : Cond.methodLink RX4 251 yX2_allows ∈ WW := WT_in 726 (by decide +kernel) (by decide +kernel)
theorem mw_727 : Cond.instanceMethod yX2_allows ∈ WW := WT_in 727 (by decide +kernel) (by decide +kernel)
theorem mw_728 : Cond.selects RX2 yX2_allows yX2_allows ∈ WW := WT_in 728 (by decide +kernel) (by decide +kernel)
theorem mw_729 : Cond.code yX2_allows cX2_allows 5 (some .boolean) ∈ WW := WT_in 729 (by decide +kernel) (by decide +kernel)
theorem mw_226 : Cond.fieldLink RX4 25 "JamBridge" "history" "LJamBridge$History;" ∈ WW := WT_in 226 (by decide +kernel) (by decide +kernel)
theorem mw_801 : Cond.methodLink RX4 269 yX1_keep ∈ WW := WT_in 801 (by decide +kernel) (by decide +kernel)
theorem mw_802 : Cond.instanceMethod yX1_keep ∈ WW := WT_in 802 (by decide +kernel) (by decide +kernel)
theorem mw_803 : Cond.selects RX1 yX1_keep yX1_keep ∈ WW := WT_in 803 (by decide +kernel) (by decide +kernel)
theorem mw_3 : Cond.initialized RX1 ∈ WW := WT_in 3 (by decide +kernel) (by decide +kernel)
theorem mw_804 : Cond.code yX1_keep cX1_keep 2 none ∈ WW := WT_in 804 (by decide +kernel) (by decide +kernel)
theorem mw_781 : Cond.methodLink RX4 258 yX4_keepDenial ∈ WW := WT_in 781 (by decide +kernel) (by decide +kernel)
theorem mw_783 : Cond.instanceMethod yX4_keepDenial ∈ WW := WT_in 783 (by decide +kernel) (by decide +kernel)
theorem ms_10 : Cond.selects RX4 yX4_keepDenial yX4_keepDenial ∈ WW := WS_in 10 (by decide +kernel) (by decide +kernel)
theorem mw_1 : Cond.initialized RX4 ∈ WW := WT_in 1 (by decide +kernel) (by decide +kernel)
theorem mw_784 : Cond.code yX4_keepDenial cX4_keepDenial 4 none ∈ WW := WT_in 784 (by decide +kernel) (by decide +kernel)
theorem mw_722 : Cond.methodLink RX4 67 yX4_prepare ∈ WW := WT_in 722 (by decide +kernel) (by decide +kernel)
theorem mw_724 : Cond.instanceMethod yX4_prepare ∈ WW := WT_in 724 (by decide +kernel) (by decide +kernel)
theorem ms_1 : Cond.selects RX4 yX4_prepare yX4_prepare ∈ WW := WS_in 1 (by decide +kernel) (by decide +kernel)
theorem mw_725 : Cond.code yX4_prepare cX4_prepare 5 none ∈ WW := WT_in 725 (by decide +kernel) (by decide +kernel)
theorem mw_807 : Cond.methodLink RX4 71 yX0_appendSpan ∈ WW := WT_in 807 (by decide +kernel) (by decide +kernel)
theorem mw_818 : Cond.methodLink RX4 75 yX0_dropLastSpan ∈ WW := WT_in 818 (by decide +kernel) (by decide +kernel)
theorem mw_832 : Cond.methodLink RX4 79 yX0_addJars ∈ WW := WT_in 832 (by decide +kernel) (by decide +kernel)
theorem mw_843 : Cond.methodLink RX4 83 yX0_repair ∈ WW := WT_in 843 (by decide +kernel) (by decide +kernel)
theorem mw_961 : Cond.methodLink RX4 145 yX0_appendVehicle ∈ WW := WT_in 961 (by decide +kernel) (by decide +kernel)
theorem mw_972 : Cond.methodLink RX4 148 yX0_letHoursPass ∈ WW := WT_in 972 (by decide +kernel) (by decide +kernel)
theorem mw_1033 : Cond.methodLink RX4 151 yX0_replaceRate ∈ WW := WT_in 1033 (by decide +kernel) (by decide +kernel)
theorem mw_272 : Cond.methodLink RX4 109 yX0_loadOf ∈ WW := WT_in 272 (by decide +kernel) (by decide +kernel)
theorem mw_284 : Cond.methodLink RX4 106 yX0_strengthOf ∈ WW := WT_in 284 (by decide +kernel) (by decide +kernel)
theorem mw_295 : Cond.methodLink RX4 187 yJ9_min_7cf53 ∈ WW := WT_in 295 (by decide +kernel) (by decide +kernel)
theorem mw_296 : Cond.methodLink RX4 135 yJ9_max_7cf53 ∈ WW := WT_in 296 (by decide +kernel) (by decide +kernel)
theorem mw_854 : Cond.methodLink RX4 89 yX4_requireSpan ∈ WW := WT_in 854 (by decide +kernel) (by decide +kernel)
theorem mw_856 : Cond.instanceMethod yX4_requireSpan ∈ WW := WT_in 856 (by decide +kernel) (by decide +kernel)
theorem ms_11 : Cond.selects RX4 yX4_requireSpan yX4_requireSpan ∈ WW := WS_in 11 (by decide +kernel) (by decide +kernel)
theorem mw_857 : Cond.code yX4_requireSpan cX4_requireSpan 2 none ∈ WW := WT_in 857 (by decide +kernel) (by decide +kernel)
theorem mw_1052 : Cond.methodLink RX4 168 yX4_requirePosition ∈ WW := WT_in 1052 (by decide +kernel) (by decide +kernel)
theorem mw_1054 : Cond.instanceMethod yX4_requirePosition ∈ WW := WT_in 1054 (by decide +kernel) (by decide +kernel)
theorem ms_23 : Cond.selects RX4 yX4_requirePosition yX4_requirePosition ∈ WW := WS_in 23 (by decide +kernel) (by decide +kernel)
theorem mw_1055 : Cond.code yX4_requirePosition cX4_requirePosition 3 (some .int) ∈ WW := WT_in 1055 (by decide +kernel) (by decide +kernel)
theorem mw_1075 : Cond.methodLink RX4 174 yX0_tollAt ∈ WW := WT_in 1075 (by decide +kernel) (by decide +kernel)
theorem mw_945 : Cond.methodLink RX4 140 yX0_rankOf ∈ WW := WT_in 945 (by decide +kernel) (by decide +kernel)
theorem mw_946 : Cond.instanceMethod yX0_rankOf ∈ WW := WT_in 946 (by decide +kernel) (by decide +kernel)
theorem mw_947 : Cond.selects RX0 yX0_rankOf yX0_rankOf ∈ WW := WT_in 947 (by decide +kernel) (by decide +kernel)
theorem mw_948 : Cond.code yX0_rankOf cX0_rankOf 4 (some .int) ∈ WW := WT_in 948 (by decide +kernel) (by decide +kernel)
theorem mw_693 : Cond.methodLink RX4 112 yX0_strains ∈ WW := WT_in 693 (by decide +kernel) (by decide +kernel)
theorem mw_909 : Cond.methodLink RX4 116 yX4_requireWeight ∈ WW := WT_in 909 (by decide +kernel) (by decide +kernel)
theorem mw_911 : Cond.instanceMethod yX4_requireWeight ∈ WW := WT_in 911 (by decide +kernel) (by decide +kernel)
theorem ms_12 : Cond.selects RX4 yX4_requireWeight yX4_requireWeight ∈ WW := WS_in 12 (by decide +kernel) (by decide +kernel)
theorem mw_912 : Cond.code yX4_requireWeight cX4_requireWeight 2 none ∈ WW := WT_in 912 (by decide +kernel) (by decide +kernel)
theorem mw_224 : Cond.fieldLink RX4 16 "JamBridge" "trial" "LJamBridge$Bridge;" ∈ WW := WT_in 224 (by decide +kernel) (by decide +kernel)
theorem mw_708 : Cond.methodLink RX4 119 yX0_copyFrom ∈ WW := WT_in 708 (by decide +kernel) (by decide +kernel)
theorem mw_1084 : Cond.methodLink RX4 182 yX0_isOnLastSpan ∈ WW := WT_in 1084 (by decide +kernel) (by decide +kernel)
theorem mw_228 : Cond.fieldLink RX4 39 "JamBridge" "text" "LJamBridge$Text;" ∈ WW := WT_in 228 (by decide +kernel) (by decide +kernel)
theorem mw_1142 : Cond.methodLink RX4 223 yX3_append ∈ WW := WT_in 1142 (by decide +kernel) (by decide +kernel)
theorem mw_1143 : Cond.instanceMethod yX3_append ∈ WW := WT_in 1143 (by decide +kernel) (by decide +kernel)
theorem mw_1144 : Cond.selects RX3 yX3_append yX3_append ∈ WW := WT_in 1144 (by decide +kernel) (by decide +kernel)
theorem mw_1145 : Cond.code yX3_append cX3_append 2 none ∈ WW := WT_in 1145 (by decide +kernel) (by decide +kernel)
theorem mw_231 : Cond.fieldLink RX4 54 "JamBridge" "faultKept" "I" ∈ WW := WT_in 231 (by decide +kernel) (by decide +kernel)
theorem mw_1265 : Cond.methodLink RX4 291 yX4_requireDenial ∈ WW := WT_in 1265 (by decide +kernel) (by decide +kernel)
theorem mw_1267 : Cond.instanceMethod yX4_requireDenial ∈ WW := WT_in 1267 (by decide +kernel) (by decide +kernel)
theorem ms_31 : Cond.selects RX4 yX4_requireDenial yX4_requireDenial ∈ WW := WS_in 31 (by decide +kernel) (by decide +kernel)
theorem mw_1268 : Cond.code yX4_requireDenial cX4_requireDenial 1 none ∈ WW := WT_in 1268 (by decide +kernel) (by decide +kernel)
theorem mw_1293 : Cond.methodLink RX4 301 yX1_giveBack ∈ WW := WT_in 1293 (by decide +kernel) (by decide +kernel)
theorem mw_1294 : Cond.instanceMethod yX1_giveBack ∈ WW := WT_in 1294 (by decide +kernel) (by decide +kernel)
theorem mw_1295 : Cond.selects RX1 yX1_giveBack yX1_giveBack ∈ WW := WT_in 1295 (by decide +kernel) (by decide +kernel)
theorem mw_1296 : Cond.code yX1_giveBack cX1_giveBack 2 none ∈ WW := WT_in 1296 (by decide +kernel) (by decide +kernel)
theorem mw_225 : Cond.fieldLink RX4 19 "JamBridge" "snapshot" "LJamBridge$Bridge;" ∈ WW := WT_in 225 (by decide +kernel) (by decide +kernel)
theorem mw_230 : Cond.fieldLink RX4 50 "JamBridge" "snapshotSaved" "Z" ∈ WW := WT_in 230 (by decide +kernel) (by decide +kernel)
def F_X4_requireSpan (x : Xv) (b : Bv) (p0 : Int32) : Option ((Unit) ⊕ (String)) := (F_X0_hasSpan b p0).bind (fun z1 => if ¬ (bi z1) = 0 then some (.inl ()) else some (.inr ("java/lang/IndexOutOfBoundsException")))
set_option maxHeartbeats 4000000 in
set_option maxRecDepth 100000 in
theorem c_X4_requireSpan (g : GG) (l : Launch) (hst : l.stackTraces = false) (a a1 a2 a3 a4 a5 a6 a7 : Nat → Nat) (x : Xv) (b : Bv) (p0 : Int32) (z : (Unit) ⊕ (String)) (hF : F_X4_requireSpan x b p0 = some z) : MX g l yX4_requireSpan cX4_requireSpan 2 none ({ frames := 6, cells := 1, slots := 6, locals := 90 } : Room) [.ref (a 0), .int p0] [wX g a a1 a2 a3 a4 a5 a6 a7 x, wB g a1 b] 1 6 (Sum.elim (fun y => .inl (none, [wX g a a1 a2 a3 a4 a5 a6 a7 x, wB g a1 b])) (fun y => .inr (y, [wX g a a1 a2 a3 a4 a5 a6 a7 x, wB g a1 b])) z) := by
  refine MX.bg (by decide) (Nat.le_of_ble_eq_true rfl) ?_
  intro p e s m below meth c A Q hQ hx hb hr hml hown hts hlocks htab hK hE hA hP hD hS ls hl
  rw [F_X4_requireSpan] at hF
  have hl : lv_has ls 2 [(0, .ref (a 0)), (1, .int p0)] := hl
  refine lv_aload_n hx hb dX4_requireSpan_0 rfl (lv_at hl 0 rfl) ?_
  refine va_get (D := g.1) (ci := 8) (v := .ref (a1 0)) (C := RX4) (T := TX4) (N := 12) hx hb hts inX4 hown hK hP 0 rfl rfl 0 (by decide) (hts _ mw_223) (fun _ h9 => h9) rfl dX4_requireSpan_1 ?_
  refine lv_iload_n hx hb dX4_requireSpan_4 rfl (lv_at hl 1 rfl) ?_
  obtain ⟨z1, hz1, hF⟩ := ob_bind hF
  refine cl_i (csR := [wX g a a1 a2 a3 a4 a5 a6 a7 x]) (csF := [wX g a a1 a2 a3 a4 a5 a6 a7 x, wB g a1 b]) (rest := []) hx hb hml hown hts hK hE hA hl hP hD hS (c_X0_hasSpan g l a1 b p0 z1 hz1) [1] [0] [0, 1] ⟨rfl, rfl, rfl, rfl, rfl, rfl, rfl⟩ ⟨0, 4, _, _, rfl, rfl, rfl⟩ 1 (jb_giV mw_858 mw_289 mw_290 mw_2 mw_291) ⟨rfl, rfl⟩ (by decide +kernel) ⟨⟨(Nat.le_of_ble_eq_true rfl), (Nat.le_of_ble_eq_true rfl)⟩, (Nat.le_of_ble_eq_true rfl), (Nat.le_of_ble_eq_true rfl)⟩ ⟨rfl, rfl⟩ (Nat.le_of_ble_eq_true rfl) dX4_requireSpan_5 (fun H locs hP hD hS => ?_)
  refine lv_if_ne (tgt := 22) hx hb dX4_requireSpan_8 (by decide) (fun c2 => ?_) (fun c2 => ?_)
  · have hF := ob_pos c2 hF
    cases hF
    rw [hQ]
    exact jx_vret hx hb hr hlocks hP hD hS dX4_requireSpan_22 rfl (Nat.le_of_ble_eq_true rfl) (Nat.le_of_ble_eq_true rfl)
  · have hF := ob_nneg c2 hF
    cases hF
    rw [hQ]
    exact jx_throwW hst thw_157 hx hb (hml.trans hl.1.symm) hown hts hE htab hlocks 0 rfl hP hD hS dX4_requireSpan_11 dX4_requireSpan_14 dX4_requireSpan_15 dX4_requireSpan_18 dX4_requireSpan_21 ⟨(Nat.le_of_ble_eq_true rfl), (Nat.le_of_ble_eq_true rfl), (Nat.le_of_ble_eq_true rfl), (Nat.le_of_ble_eq_true rfl)⟩ (Nat.le_of_ble_eq_true rfl) (Nat.le_of_ble_eq_true rfl) rfl
def F_X4_requireWeight (x : Xv) (p0 : Int32) : Option ((Unit) ⊕ (String)) := if p0 < 1 then some (.inr ("java/lang/IllegalArgumentException")) else if p0 ≤ 99 then some (.inl ()) else some (.inr ("java/lang/IllegalArgumentException"))
set_option maxHeartbeats 4000000 in
set_option maxRecDepth 100000 in
theorem c_X4_requireWeight (g : GG) (l : Launch) (hst : l.stackTraces = false) (a a1 a2 a3 a4 a5 a6 a7 : Nat → Nat) (x : Xv) (p0 : Int32) (z : (Unit) ⊕ (String)) (hF : F_X4_requireWeight x p0 = some z) : MX g l yX4_requireWeight cX4_requireWeight 2 none ({ frames := 6, cells := 1, slots := 6, locals := 90 } : Room) [.ref (a 0), .int p0] [wX g a a1 a2 a3 a4 a5 a6 a7 x] 1 6 (Sum.elim (fun y => .inl (none, [wX g a a1 a2 a3 a4 a5 a6 a7 x])) (fun y => .inr (y, [wX g a a1 a2 a3 a4 a5 a6 a7 x])) z) := by
  refine MX.bg (by decide) (Nat.le_of_ble_eq_true rfl) ?_
  intro p e s m below meth c A Q hQ hx hb hr hml hown hts hlocks htab hK hE hA hP hD hS ls hl
  rw [F_X4_requireWeight] at hF
  have hl : lv_has ls 2 [(0, .ref (a 0)), (1, .int p0)] := hl
  refine lv_iload_n hx hb dX4_requireWeight_0 rfl (lv_at hl 1 rfl) ?_
  refine lv_iconst (v := 1) hx hb dX4_requireWeight_1 (by decide) ?_
  refine lv_icmp_lt (tgt := 11) hx hb dX4_requireWeight_2 (by decide) (fun c1 => ?_) (fun c1 => ?_)
  · have hF := ob_pos c1 hF
    cases hF
    rw [hQ]
    exact jx_throwW hst thw_234 hx hb (hml.trans hl.1.symm) hown hts hE htab hlocks 3 rfl hP hD hS dX4_requireWeight_11 dX4_requireWeight_14 dX4_requireWeight_15 dX4_requireWeight_18 dX4_requireWeight_21 ⟨(Nat.le_of_ble_eq_true rfl), (Nat.le_of_ble_eq_true rfl), (Nat.le_of_ble_eq_true rfl), (Nat.le_of_ble_eq_true rfl)⟩ (Nat.le_of_ble_eq_true rfl) (Nat.le_of_ble_eq_true rfl) rfl
  · have hF := ob_neg c1 hF
    refine lv_iload_n hx hb dX4_requireWeight_5 rfl (lv_at hl 1 rfl) ?_
    refine lv_bipush (v := 99) hx hb dX4_requireWeight_6 (by decide) ?_
    refine lv_icmp_le (tgt := 22) hx hb dX4_requireWeight_8 (by decide) (fun c2 => ?_) (fun c2 => ?_)
    · have hF := ob_pos c2 hF
      cases hF
      rw [hQ]
      exact jx_vret hx hb hr hlocks hP hD hS dX4_requireWeight_22 rfl (Nat.le_of_ble_eq_true rfl) (Nat.le_of_ble_eq_true rfl)
    · have hF := ob_neg c2 hF
      cases hF
      rw [hQ]
      exact jx_throwW hst thw_234 hx hb (hml.trans hl.1.symm) hown hts hE htab hlocks 3 rfl hP hD hS dX4_requireWeight_11 dX4_requireWeight_14 dX4_requireWeight_15 dX4_requireWeight_18 dX4_requireWeight_21 ⟨(Nat.le_of_ble_eq_true rfl), (Nat.le_of_ble_eq_true rfl), (Nat.le_of_ble_eq_true rfl), (Nat.le_of_ble_eq_true rfl)⟩ (Nat.le_of_ble_eq_true rfl) (Nat.le_of_ble_eq_true rfl) rfl
def F_X4_requirePosition (x : Xv) (b : Bv) (p0 : Int32) : Option ((Int32) ⊕ (String)) := (F_X0_positionOf b p0).bind (fun z1 => if ¬ z1 = (-1) then some (.inl z1) else some (.inr ("java/util/NoSuchElementException")))
set_option maxHeartbeats 4000000 in
set_option maxRecDepth 100000 in
theorem c_X4_requirePosition (g : GG) (l : Launch) (hst : l.stackTraces = false) (a a1 a2 a3 a4 a5 a6 a7 : Nat → Nat) (x : Xv) (b : Bv) (p0 : Int32) (z : (Int32) ⊕ (String)) (hF : F_X4_requirePosition x b p0 = some z) : MX g l yX4_requirePosition cX4_requirePosition 3 (some .int) ({ frames := 6, cells := 1, slots := 6, locals := 90 } : Room) [.ref (a 0), .int p0] [wX g a a1 a2 a3 a4 a5 a6 a7 x, wB g a1 b] 1 6 (Sum.elim (fun y => .inl (some (.int y), [wX g a a1 a2 a3 a4 a5 a6 a7 x, wB g a1 b])) (fun y => .inr (y, [wX g a a1 a2 a3 a4 a5 a6 a7 x, wB g a1 b])) z) := by
  refine MX.bg (by decide) (Nat.le_of_ble_eq_true rfl) ?_
  intro p e s m below meth c A Q hQ hx hb hr hml hown hts hlocks htab hK hE hA hP hD hS ls hl
  rw [F_X4_requirePosition] at hF
  have hl : lv_has ls 3 [(0, .ref (a 0)), (1, .int p0)] := hl
  refine lv_aload_n hx hb dX4_requirePosition_0 rfl (lv_at hl 0 rfl) ?_
  refine va_get (D := g.1) (ci := 8) (v := .ref (a1 0)) (C := RX4) (T := TX4) (N := 12) hx hb hts inX4 hown hK hP 0 rfl rfl 0 (by decide) (hts _ mw_223) (fun _ h9 => h9) rfl dX4_requirePosition_1 ?_
  refine lv_iload_n hx hb dX4_requirePosition_4 rfl (lv_at hl 1 rfl) ?_
  obtain ⟨z1, hz1, hF⟩ := ob_bind hF
  refine cl_i (csR := [wX g a a1 a2 a3 a4 a5 a6 a7 x]) (csF := [wX g a a1 a2 a3 a4 a5 a6 a7 x, wB g a1 b]) (rest := []) hx hb hml hown hts hK hE hA hl hP hD hS (c_X0_positionOf g l a1 b p0 z1 hz1) [1] [0] [0, 1] ⟨rfl, rfl, rfl, rfl, rfl, rfl, rfl⟩ ⟨0, 4, _, _, rfl, rfl, rfl⟩ 1 (jb_giV mw_1056 mw_1057 mw_1058 mw_2 mw_1059) ⟨rfl, rfl⟩ (by decide +kernel) ⟨⟨(Nat.le_of_ble_eq_true rfl), (Nat.le_of_ble_eq_true rfl)⟩, (Nat.le_of_ble_eq_true rfl), (Nat.le_of_ble_eq_true rfl)⟩ ⟨rfl, rfl⟩ (Nat.le_of_ble_eq_true rfl) dX4_requirePosition_5 (fun H locs hP hD hS => ?_)
  refine lv_istore_n (lv' := [(2, .int z1), (0, .ref (a 0)), (1, .int p0)]) hx hb dX4_requirePosition_8 rfl hl (by decide) rfl (fun ls hl => ?_)
  refine lv_iload_n hx hb dX4_requirePosition_9 rfl (lv_at hl 0 rfl) ?_
  refine lv_iconst (v := (-1)) hx hb dX4_requirePosition_10 (by decide) ?_
  refine lv_icmp_ne (tgt := 25) hx hb dX4_requirePosition_11 (by decide) (fun c2 => ?_) (fun c2 => ?_)
  · have hF := ob_pos c2 hF
    refine lv_iload_n hx hb dX4_requirePosition_25 rfl (lv_at hl 0 rfl) ?_
    cases hF
    rw [hQ]
    exact jx_iret hx hb hr rfl hlocks hP hD hS dX4_requirePosition_26 rfl (Nat.le_of_ble_eq_true rfl) (Nat.le_of_ble_eq_true rfl)
  · have hF := ob_nneg c2 hF
    cases hF
    rw [hQ]
    exact jx_throwEW hst thw_123 hx hb (hml.trans hl.1.symm) hown hts hE htab hlocks 8 rfl hP hD hS dX4_requirePosition_14 dX4_requirePosition_17 dX4_requirePosition_18 dX4_requirePosition_21 dX4_requirePosition_24 ⟨(Nat.le_of_ble_eq_true rfl), (Nat.le_of_ble_eq_true rfl), (Nat.le_of_ble_eq_true rfl), (Nat.le_of_ble_eq_true rfl)⟩ (Nat.le_of_ble_eq_true rfl) (Nat.le_of_ble_eq_true rfl) rfl
def F_X4_requireDenial (x : Xv) : Option ((Unit) ⊕ (String)) := if ¬ (X_deniedNumber x) = 0 then some (.inl ()) else some (.inr ("java/util/NoSuchElementException"))
set_option maxHeartbeats 4000000 in
set_option maxRecDepth 100000 in
theorem c_X4_requireDenial (g : GG) (l : Launch) (hst : l.stackTraces = false) (a a1 a2 a3 a4 a5 a6 a7 : Nat → Nat) (x : Xv) (z : (Unit) ⊕ (String)) (hF : F_X4_requireDenial x = some z) : MX g l yX4_requireDenial cX4_requireDenial 1 none ({ frames := 6, cells := 1, slots := 6, locals := 90 } : Room) [.ref (a 0)] [wX g a a1 a2 a3 a4 a5 a6 a7 x] 1 6 (Sum.elim (fun y => .inl (none, [wX g a a1 a2 a3 a4 a5 a6 a7 x])) (fun y => .inr (y, [wX g a a1 a2 a3 a4 a5 a6 a7 x])) z) := by
  refine MX.bg (by decide) (Nat.le_of_ble_eq_true rfl) ?_
  intro p e s m below meth c A Q hQ hx hb hr hml hown hts hlocks htab hK hE hA hP hD hS ls hl
  rw [F_X4_requireDenial] at hF
  have hl : lv_has ls 1 [(0, .ref (a 0))] := hl
  refine lv_aload_n hx hb dX4_requireDenial_0 rfl (lv_at hl 0 rfl) ?_
  refine va_get (D := g.1) (ci := 8) (v := .int (X_deniedNumber x)) (C := RX4) (T := TX4) (N := 12) hx hb hts inX4 hown hK hP 0 rfl rfl 9 (by decide) (hts _ mw_232) (fun _ h9 => h9) rfl dX4_requireDenial_1 ?_
  refine lv_if_ne (tgt := 18) hx hb dX4_requireDenial_4 (by decide) (fun c1 => ?_) (fun c1 => ?_)
  · have hF := ob_pos c1 hF
    cases hF
    rw [hQ]
    exact jx_vret hx hb hr hlocks hP hD hS dX4_requireDenial_18 rfl (Nat.le_of_ble_eq_true rfl) (Nat.le_of_ble_eq_true rfl)
  · have hF := ob_nneg c1 hF
    cases hF
    rw [hQ]
    exact jx_throwEW hst thw_123 hx hb (hml.trans hl.1.symm) hown hts hE htab hlocks 18 rfl hP hD hS dX4_requireDenial_7 dX4_requireDenial_10 dX4_requireDenial_11 dX4_requireDenial_14 dX4_requireDenial_17 ⟨(Nat.le_of_ble_eq_true rfl), (Nat.le_of_ble_eq_true rfl), (Nat.le_of_ble_eq_true rfl), (Nat.le_of_ble_eq_true rfl)⟩ (Nat.le_of_ble_eq_true rfl) (Nat.le_of_ble_eq_true rfl) rfl
def F_X4_keepDenial (x : Xv) (p0 : Int32) (p1 : Int32) (p2 : Int32) : Option (Xv) := some (mkX (X_snapshotSaved x) (X_faultKept x) p0 p1 p2)
set_option maxHeartbeats 4000000 in
set_option maxRecDepth 100000 in
theorem c_X4_keepDenial (g : GG) (l : Launch) (a a1 a2 a3 a4 a5 a6 a7 : Nat → Nat) (x : Xv) (p0 : Int32) (p1 : Int32) (p2 : Int32) (z : Xv) (hF : F_X4_keepDenial x p0 p1 p2 = some z) : MV g l yX4_keepDenial cX4_keepDenial 4 none ({ frames := 0, cells := 0, slots := 0, locals := 0 } : Room) [.ref (a 0), .int p0, .int p1, .int p2] [wX g a a1 a2 a3 a4 a5 a6 a7 x] 0 0 [wX g a a1 a2 a3 a4 a5 a6 a7 z] := by
  refine MV.bg (by decide) (Nat.le_of_ble_eq_true rfl) ?_
  intro p e s m below meth c A Q hQ hx hb hr hml hown hts hlocks hmn hK hE hA hP hD hS ls hl
  rw [F_X4_keepDenial] at hF
  have hl : lv_has ls 4 [(0, .ref (a 0)), (1, .int p0), (2, .int p1), (3, .int p2)] := hl
  refine lv_aload_n hx hb dX4_keepDenial_0 rfl (lv_at hl 0 rfl) ?_
  refine lv_iload_n hx hb dX4_keepDenial_1 rfl (lv_at hl 1 rfl) ?_
  refine va_put (D := g.1) (ci := 8) (v := .int p0) (ty := .int) (C := RX4) (T := TX4) (N := 12) hx hb hts inX4 tyX4 tyX4_ok nmX4 hown hK hP hD hS 0 rfl rfl 9 (by decide) (hts _ mw_232) (fun _ h9 => h9) rfl (by decide +kernel) rfl rfl (Nat.le_of_ble_eq_true rfl) dX4_keepDenial_2 (fun H locs hP hD hS => ?_)
  have hP : va_P g.1 vwCl ([wXc g a a1 a2 a3 a4 a5 a6 a7 (X_snapshotSaved x) (X_faultKept x) p0 (X_deniedDetail x) (X_deniedCause x)] : List va_W).flatten _ := hP
  have hD : va_D A ([wXc g a a1 a2 a3 a4 a5 a6 a7 (X_snapshotSaved x) (X_faultKept x) p0 (X_deniedDetail x) (X_deniedCause x)] : List va_W).flatten := hD
  refine lv_aload_n hx hb dX4_keepDenial_5 rfl (lv_at hl 0 rfl) ?_
  refine lv_iload_n hx hb dX4_keepDenial_6 rfl (lv_at hl 2 rfl) ?_
  refine va_put (D := g.1) (ci := 8) (v := .int p1) (ty := .int) (C := RX4) (T := TX4) (N := 12) hx hb hts inX4 tyX4 tyX4_ok nmX4 hown hK hP hD hS 0 rfl rfl 10 (by decide) (hts _ mw_233) (fun _ h9 => h9) rfl (by decide +kernel) rfl rfl (Nat.le_of_ble_eq_true rfl) dX4_keepDenial_7 (fun H locs hP hD hS => ?_)
  have hP : va_P g.1 vwCl ([wXc g a a1 a2 a3 a4 a5 a6 a7 (X_snapshotSaved x) (X_faultKept x) p0 p1 (X_deniedCause x)] : List va_W).flatten _ := hP
  have hD : va_D A ([wXc g a a1 a2 a3 a4 a5 a6 a7 (X_snapshotSaved x) (X_faultKept x) p0 p1 (X_deniedCause x)] : List va_W).flatten := hD
  refine lv_aload_n hx hb dX4_keepDenial_10 rfl (lv_at hl 0 rfl) ?_
  refine lv_iload_n hx hb dX4_keepDenial_11 rfl (lv_at hl 3 rfl) ?_
  refine va_put (D := g.1) (ci := 8) (v := .int p2) (ty := .int) (C := RX4) (T := TX4) (N := 12) hx hb hts inX4 tyX4 tyX4_ok nmX4 hown hK hP hD hS 0 rfl rfl 11 (by decide) (hts _ mw_234) (fun _ h9 => h9) rfl (by decide +kernel) rfl rfl (Nat.le_of_ble_eq_true rfl) dX4_keepDenial_12 (fun H locs hP hD hS => ?_)
  have hP : va_P g.1 vwCl ([wXc g a a1 a2 a3 a4 a5 a6 a7 (X_snapshotSaved x) (X_faultKept x) p0 p1 p2] : List va_W).flatten _ := hP
  have hD : va_D A ([wXc g a a1 a2 a3 a4 a5 a6 a7 (X_snapshotSaved x) (X_faultKept x) p0 p1 p2] : List va_W).flatten := hD
  cases hF
  rw [hQ]
  exact jb_vret hx hb hr hlocks hP hD hS dX4_keepDenial_15 (Nat.le_of_ble_eq_true rfl) (Nat.le_of_ble_eq_true rfl)
def F_X4_prepare (x : Xv) (b : Bv) (h : Hv) (j : Jv) (p0 : Int32) (p1 : Int32) (p2 : Int32) : Option ((Xv × Hv × Jv) ⊕ (String × Xv × Hv × Jv)) := (F_X2_allows j b p0 p1 p2).bind (fun z1 => if ¬ (bi z1.1) = 0 then if ¬ (bi z1.1) = 0 then if ¬ (bi z1.1) = 0 then (F_X1_keep h b).bind (fun z2 => some (.inl (x, z2, z1.2))) else (F_X4_keepDenial x (J_reason z1.2) (J_detail z1.2) 0).bind (fun z3 => some (.inr ("java/lang/UnsupportedOperationException", z3, h, z1.2))) else if ¬ (J_reason z1.2) = 9 then if ¬ (bi z1.1) = 0 then (F_X1_keep h b).bind (fun z4 => some (.inl (x, z4, z1.2))) else (F_X4_keepDenial x (J_reason z1.2) (J_detail z1.2) 0).bind (fun z5 => some (.inr ("java/lang/UnsupportedOperationException", z5, h, z1.2))) else some (.inr ("java/lang/IllegalArgumentException", x, h, z1.2)) else if ¬ (J_reason z1.2) = 10 then if ¬ (bi z1.1) = 0 then if ¬ (bi z1.1) = 0 then (F_X1_keep h b).bind (fun z6 => some (.inl (x, z6, z1.2))) else (F_X4_keepDenial x (J_reason z1.2) (J_detail z1.2) 0).bind (fun z7 => some (.inr ("java/lang/UnsupportedOperationException", z7, h, z1.2))) else if ¬ (J_reason z1.2) = 9 then if ¬ (bi z1.1) = 0 then (F_X1_keep h b).bind (fun z8 => some (.inl (x, z8, z1.2))) else (F_X4_keepDenial x (J_reason z1.2) (J_detail z1.2) 0).bind (fun z9 => some (.inr ("java/lang/UnsupportedOperationException", z9, h, z1.2))) else some (.inr ("java/lang/IllegalArgumentException", x, h, z1.2)) else some (.inr ("java/lang/IndexOutOfBoundsException", x, h, z1.2)))
set_option maxHeartbeats 4000000 in
set_option maxRecDepth 100000 in
theorem c_X4_prepare (g : GG) (l : Launch) (hst : l.stackTraces = false) (a a1 a2 a3 a4 a5 a6 a7 : Nat → Nat) (x : Xv) (b : Bv) (h : Hv) (j : Jv) (p0 : Int32) (p1 : Int32) (p2 : Int32) (z : (Xv × Hv × Jv) ⊕ (String × Xv × Hv × Jv)) (hF : F_X4_prepare x b h j p0 p1 p2 = some z) : MX g l yX4_prepare cX4_prepare 5 none ({ frames := 6, cells := 1, slots := 6, locals := 142 } : Room) [.ref (a 0), .int p0, .int p1, .int p2] [wX g a a1 a2 a3 a4 a5 a6 a7 x, wB g a1 b, wH g a4 h, wJ g a5 j] 1 6 (Sum.elim (fun y => .inl (none, [wX g a a1 a2 a3 a4 a5 a6 a7 y.1, wB g a1 b, wH g a4 y.2.1, wJ g a5 y.2.2])) (fun y => .inr (y.1, [wX g a a1 a2 a3 a4 a5 a6 a7 y.2.1, wB g a1 b, wH g a4 y.2.2.1, wJ g a5 y.2.2.2])) z) := by
  refine MX.bg (by decide) (Nat.le_of_ble_eq_true rfl) ?_
  intro p e s m below meth c A Q hQ hx hb hr hml hown hts hlocks htab hK hE hA hP hD hS ls hl
  rw [F_X4_prepare] at hF
  have hl : lv_has ls 5 [(0, .ref (a 0)), (1, .int p0), (2, .int p1), (3, .int p2)] := hl
  refine lv_aload_n hx hb dX4_prepare_0 rfl (lv_at hl 0 rfl) ?_
  refine va_get (D := g.1) (ci := 8) (v := .ref (a5 0)) (C := RX4) (T := TX4) (N := 12) hx hb hts inX4 hown hK hP 0 rfl rfl 4 (by decide) (hts _ mw_227) (fun _ h9 => h9) rfl dX4_prepare_1 ?_
  refine lv_aload_n hx hb dX4_prepare_4 rfl (lv_at hl 0 rfl) ?_
  refine va_get (D := g.1) (ci := 8) (v := .ref (a1 0)) (C := RX4) (T := TX4) (N := 12) hx hb hts inX4 hown hK hP 0 rfl rfl 0 (by decide) (hts _ mw_223) (fun _ h9 => h9) rfl dX4_prepare_5 ?_
  refine lv_iload_n hx hb dX4_prepare_8 rfl (lv_at hl 1 rfl) ?_
  refine lv_iload_n hx hb dX4_prepare_9 rfl (lv_at hl 2 rfl) ?_
  refine lv_iload_n hx hb dX4_prepare_10 rfl (lv_at hl 3 rfl) ?_
  obtain ⟨z1, hz1, hF⟩ := ob_bind hF
  refine cl_i (csR := [wX g a a1 a2 a3 a4 a5 a6 a7 x, wH g a4 h]) (csF := [wX g a a1 a2 a3 a4 a5 a6 a7 x, wB g a1 b, wH g a4 h, wJ g a5 z1.2]) (rest := []) hx hb hml hown hts hK hE hA hl hP hD hS (c_X2_allows g l a5 a1 j b p0 p1 p2 z1 hz1) [3, 1] [0, 2] [0, 3, 1, 2] ⟨rfl, rfl, rfl, rfl, rfl, rfl, rfl⟩ ⟨0, 6, _, _, rfl, rfl, rfl⟩ 4 (jb_giV mw_726 mw_727 mw_728 mw_4 mw_729) ⟨rfl, rfl⟩ (by decide +kernel) ⟨⟨(Nat.le_of_ble_eq_true rfl), (Nat.le_of_ble_eq_true rfl)⟩, (Nat.le_of_ble_eq_true rfl), (Nat.le_of_ble_eq_true rfl)⟩ ⟨rfl, rfl⟩ (Nat.le_of_ble_eq_true rfl) dX4_prepare_11 (fun H locs hP hD hS => ?_)
  refine lv_istore (lv' := [(4, .int (bi z1.1)), (0, .ref (a 0)), (1, .int p0), (2, .int p1), (3, .int p2)]) hx hb dX4_prepare_14 hl (by decide) rfl (fun ls hl => ?_)
  refine lv_iload hx hb dX4_prepare_16 (lv_at hl 0 rfl) ?_
  refine lv_if_ne (tgt := 44) hx hb dX4_prepare_18 (by decide) (fun c2 => ?_) (fun c2 => ?_)
  · have hF := ob_pos c2 hF
    refine lv_iload hx hb dX4_prepare_44 (lv_at hl 0 rfl) ?_
    refine lv_if_ne (tgt := 72) hx hb dX4_prepare_46 (by decide) (fun c3 => ?_) (fun c3 => ?_)
    · have hF := ob_pos c3 hF
      refine lv_iload hx hb dX4_prepare_72 (lv_at hl 0 rfl) ?_
      refine lv_if_ne (tgt := 107) hx hb dX4_prepare_74 (by decide) (fun c4 => ?_) (fun c4 => ?_)
      · have hF := ob_pos c4 hF
        refine lv_aload_n hx hb dX4_prepare_107 rfl (lv_at hl 1 rfl) ?_
        refine va_get (D := g.1) (ci := 8) (v := .ref (a4 0)) (C := RX4) (T := TX4) (N := 12) hx hb hts inX4 hown hK hP 0 rfl rfl 3 (by decide) (hts _ mw_226) (fun _ h9 => h9) rfl dX4_prepare_108 ?_
        refine lv_aload_n hx hb dX4_prepare_111 rfl (lv_at hl 1 rfl) ?_
        refine va_get (D := g.1) (ci := 8) (v := .ref (a1 0)) (C := RX4) (T := TX4) (N := 12) hx hb hts inX4 hown hK hP 0 rfl rfl 0 (by decide) (hts _ mw_223) (fun _ h9 => h9) rfl dX4_prepare_112 ?_
        obtain ⟨z5, hz5, hF⟩ := ob_bind hF
        refine cl_v (csR := [wX g a a1 a2 a3 a4 a5 a6 a7 x, wJ g a5 z1.2]) (csF := [wX g a a1 a2 a3 a4 a5 a6 a7 x, wB g a1 b, wH g a4 z5, wJ g a5 z1.2]) (rest := []) hx hb hml hown hts hK hE hA hl hP hD hS (c_X1_keep g l a4 a1 h b z5 hz5) [2, 1] [0, 3] [0, 3, 2, 1] ⟨rfl, rfl, rfl, rfl, rfl, rfl, rfl⟩ ⟨0, 5, _, _, rfl, rfl, rfl⟩ 1 (jb_giV mw_801 mw_802 mw_803 mw_3 mw_804) ⟨rfl, rfl⟩ (by decide +kernel) ⟨⟨(Nat.le_of_ble_eq_true rfl), (Nat.le_of_ble_eq_true rfl)⟩, (Nat.le_of_ble_eq_true rfl), (Nat.le_of_ble_eq_true rfl)⟩ ⟨rfl, rfl⟩ (Nat.le_of_ble_eq_true rfl) dX4_prepare_115 (fun H locs hP hD hS => ?_)
        cases hF
        rw [hQ]
        exact jx_vret hx hb hr hlocks hP hD hS dX4_prepare_118 rfl (Nat.le_of_ble_eq_true rfl) (Nat.le_of_ble_eq_true rfl)
      · have hF := ob_nneg c4 hF
        refine lv_aload_n hx hb dX4_prepare_77 rfl (lv_at hl 1 rfl) ?_
        refine lv_aload_n hx hb dX4_prepare_78 rfl (lv_at hl 1 rfl) ?_
        refine va_get (D := g.1) (ci := 8) (v := .ref (a5 0)) (C := RX4) (T := TX4) (N := 12) hx hb hts inX4 hown hK hP 0 rfl rfl 4 (by decide) (hts _ mw_227) (fun _ h9 => h9) rfl dX4_prepare_79 ?_
        refine va_getN (D := g.1) (ci := 6) (v := .int (J_reason z1.2)) (C := RX2) (T := TX2) (N := 2) hx hb hts inX2 hown hK hP 84 rfl rfl 0 (by decide) (hE.nf 24 rfl) (fun _ h9 => h9) rfl dX4_prepare_82 ?_
        refine lv_aload_n hx hb dX4_prepare_85 rfl (lv_at hl 1 rfl) ?_
        refine va_get (D := g.1) (ci := 8) (v := .ref (a5 0)) (C := RX4) (T := TX4) (N := 12) hx hb hts inX4 hown hK hP 0 rfl rfl 4 (by decide) (hts _ mw_227) (fun _ h9 => h9) rfl dX4_prepare_86 ?_
        refine va_getN (D := g.1) (ci := 6) (v := .int (J_detail z1.2)) (C := RX2) (T := TX2) (N := 2) hx hb hts inX2 hown hK hP 84 rfl rfl 1 (by decide) (hE.nf 25 rfl) (fun _ h9 => h9) rfl dX4_prepare_89 ?_
        refine lv_iconst (v := 0) hx hb dX4_prepare_92 (by decide) ?_
        obtain ⟨z6, hz6, hF⟩ := ob_bind hF
        refine cl_v (csR := [wB g a1 b, wH g a4 h, wJ g a5 z1.2]) (csF := [wX g a a1 a2 a3 a4 a5 a6 a7 z6, wB g a1 b, wH g a4 h, wJ g a5 z1.2]) (rest := []) hx hb hml hown hts hK hE hA hl hP hD hS (c_X4_keepDenial g l a a1 a2 a3 a4 a5 a6 a7 x (J_reason z1.2) (J_detail z1.2) 0 z6 hz6) [0] [1, 2, 3] [3, 0, 1, 2] ⟨rfl, rfl, rfl, rfl, rfl, rfl, rfl⟩ ⟨0, 8, _, _, rfl, rfl, rfl⟩ 3 (jb_giV mw_781 mw_783 ms_10 mw_1 mw_784) ⟨rfl, rfl⟩ (by decide +kernel) ⟨⟨(Nat.le_of_ble_eq_true rfl), (Nat.le_of_ble_eq_true rfl)⟩, (Nat.le_of_ble_eq_true rfl), (Nat.le_of_ble_eq_true rfl)⟩ ⟨rfl, rfl⟩ (Nat.le_of_ble_eq_true rfl) dX4_prepare_93 (fun H locs hP hD hS => ?_)
        cases hF
        rw [hQ]
        exact jx_throwW hst thw_261 hx hb (hml.trans hl.1.symm) hown hts hE htab hlocks 2 rfl hP hD hS dX4_prepare_96 dX4_prepare_99 dX4_prepare_100 dX4_prepare_103 dX4_prepare_106 ⟨(Nat.le_of_ble_eq_true rfl), (Nat.le_of_ble_eq_true rfl), (Nat.le_of_ble_eq_true rfl), (Nat.le_of_ble_eq_true rfl)⟩ (Nat.le_of_ble_eq_true rfl) (Nat.le_of_ble_eq_true rfl) rfl
    · have hF := ob_nneg c3 hF
      refine lv_aload_n hx hb dX4_prepare_49 rfl (lv_at hl 1 rfl) ?_
      refine va_get (D := g.1) (ci := 8) (v := .ref (a5 0)) (C := RX4) (T := TX4) (N := 12) hx hb hts inX4 hown hK hP 0 rfl rfl 4 (by decide) (hts _ mw_227) (fun _ h9 => h9) rfl dX4_prepare_50 ?_
      refine va_getN (D := g.1) (ci := 6) (v := .int (J_reason z1.2)) (C := RX2) (T := TX2) (N := 2) hx hb hts inX2 hown hK hP 84 rfl rfl 0 (by decide) (hE.nf 24 rfl) (fun _ h9 => h9) rfl dX4_prepare_53 ?_
      refine lv_bipush (v := 9) hx hb dX4_prepare_56 (by decide) ?_
      refine lv_icmp_ne (tgt := 72) hx hb dX4_prepare_58 (by decide) (fun c7 => ?_) (fun c7 => ?_)
      · have hF := ob_pos c7 hF
        refine lv_iload hx hb dX4_prepare_72 (lv_at hl 0 rfl) ?_
        refine lv_if_ne (tgt := 107) hx hb dX4_prepare_74 (by decide) (fun c8 => ?_) (fun c8 => ?_)
        · have hF := ob_pos c8 hF
          refine lv_aload_n hx hb dX4_prepare_107 rfl (lv_at hl 1 rfl) ?_
          refine va_get (D := g.1) (ci := 8) (v := .ref (a4 0)) (C := RX4) (T := TX4) (N := 12) hx hb hts inX4 hown hK hP 0 rfl rfl 3 (by decide) (hts _ mw_226) (fun _ h9 => h9) rfl dX4_prepare_108 ?_
          refine lv_aload_n hx hb dX4_prepare_111 rfl (lv_at hl 1 rfl) ?_
          refine va_get (D := g.1) (ci := 8) (v := .ref (a1 0)) (C := RX4) (T := TX4) (N := 12) hx hb hts inX4 hown hK hP 0 rfl rfl 0 (by decide) (hts _ mw_223) (fun _ h9 => h9) rfl dX4_prepare_112 ?_
          obtain ⟨z9, hz9, hF⟩ := ob_bind hF
          refine cl_v (csR := [wX g a a1 a2 a3 a4 a5 a6 a7 x, wJ g a5 z1.2]) (csF := [wX g a a1 a2 a3 a4 a5 a6 a7 x, wB g a1 b, wH g a4 z9, wJ g a5 z1.2]) (rest := []) hx hb hml hown hts hK hE hA hl hP hD hS (c_X1_keep g l a4 a1 h b z9 hz9) [2, 1] [0, 3] [0, 3, 2, 1] ⟨rfl, rfl, rfl, rfl, rfl, rfl, rfl⟩ ⟨0, 5, _, _, rfl, rfl, rfl⟩ 1 (jb_giV mw_801 mw_802 mw_803 mw_3 mw_804) ⟨rfl, rfl⟩ (by decide +kernel) ⟨⟨(Nat.le_of_ble_eq_true rfl), (Nat.le_of_ble_eq_true rfl)⟩, (Nat.le_of_ble_eq_true rfl), (Nat.le_of_ble_eq_true rfl)⟩ ⟨rfl, rfl⟩ (Nat.le_of_ble_eq_true rfl) dX4_prepare_115 (fun H locs hP hD hS => ?_)
          cases hF
          rw [hQ]
          exact jx_vret hx hb hr hlocks hP hD hS dX4_prepare_118 rfl (Nat.le_of_ble_eq_true rfl) (Nat.le_of_ble_eq_true rfl)
        · have hF := ob_nneg c8 hF
          refine lv_aload_n hx hb dX4_prepare_77 rfl (lv_at hl 1 rfl) ?_
          refine lv_aload_n hx hb dX4_prepare_78 rfl (lv_at hl 1 rfl) ?_
          refine va_get (D := g.1) (ci := 8) (v := .ref (a5 0)) (C := RX4) (T := TX4) (N := 12) hx hb hts inX4 hown hK hP 0 rfl rfl 4 (by decide) (hts _ mw_227) (fun _ h9 => h9) rfl dX4_prepare_79 ?_
          refine va_getN (D := g.1) (ci := 6) (v := .int (J_reason z1.2)) (C := RX2) (T := TX2) (N := 2) hx hb hts inX2 hown hK hP 84 rfl rfl 0 (by decide) (hE.nf 24 rfl) (fun _ h9 => h9) rfl dX4_prepare_82 ?_
          refine lv_aload_n hx hb dX4_prepare_85 rfl (lv_at hl 1 rfl) ?_
          refine va_get (D := g.1) (ci := 8) (v := .ref (a5 0)) (C := RX4) (T := TX4) (N := 12) hx hb hts inX4 hown hK hP 0 rfl rfl 4 (by decide) (hts _ mw_227) (fun _ h9 => h9) rfl dX4_prepare_86 ?_
          refine va_getN (D := g.1) (ci := 6) (v := .int (J_detail z1.2)) (C := RX2) (T := TX2) (N := 2) hx hb hts inX2 hown hK hP 84 rfl rfl 1 (by decide) (hE.nf 25 rfl) (fun _ h9 => h9) rfl dX4_prepare_89 ?_
          refine lv_iconst (v := 0) hx hb dX4_prepare_92 (by decide) ?_
          obtain ⟨z10, hz10, hF⟩ := ob_bind hF
          refine cl_v (csR := [wB g a1 b, wH g a4 h, wJ g a5 z1.2]) (csF := [wX g a a1 a2 a3 a4 a5 a6 a7 z10, wB g a1 b, wH g a4 h, wJ g a5 z1.2]) (rest := []) hx hb hml hown hts hK hE hA hl hP hD hS (c_X4_keepDenial g l a a1 a2 a3 a4 a5 a6 a7 x (J_reason z1.2) (J_detail z1.2) 0 z10 hz10) [0] [1, 2, 3] [3, 0, 1, 2] ⟨rfl, rfl, rfl, rfl, rfl, rfl, rfl⟩ ⟨0, 8, _, _, rfl, rfl, rfl⟩ 3 (jb_giV mw_781 mw_783 ms_10 mw_1 mw_784) ⟨rfl, rfl⟩ (by decide +kernel) ⟨⟨(Nat.le_of_ble_eq_true rfl), (Nat.le_of_ble_eq_true rfl)⟩, (Nat.le_of_ble_eq_true rfl), (Nat.le_of_ble_eq_true rfl)⟩ ⟨rfl, rfl⟩ (Nat.le_of_ble_eq_true rfl) dX4_prepare_93 (fun H locs hP hD hS => ?_)
          cases hF
          rw [hQ]
          exact jx_throwW hst thw_261 hx hb (hml.trans hl.1.symm) hown hts hE htab hlocks 2 rfl hP hD hS dX4_prepare_96 dX4_prepare_99 dX4_prepare_100 dX4_prepare_103 dX4_prepare_106 ⟨(Nat.le_of_ble_eq_true rfl), (Nat.le_of_ble_eq_true rfl), (Nat.le_of_ble_eq_true rfl), (Nat.le_of_ble_eq_true rfl)⟩ (Nat.le_of_ble_eq_true rfl) (Nat.le_of_ble_eq_true rfl) rfl
      · have hF := ob_nneg c7 hF
        cases hF
        rw [hQ]
        exact jx_throwW hst thw_234 hx hb (hml.trans hl.1.symm) hown hts hE htab hlocks 1 rfl hP hD hS dX4_prepare_61 dX4_prepare_64 dX4_prepare_65 dX4_prepare_68 dX4_prepare_71 ⟨(Nat.le_of_ble_eq_true rfl), (Nat.le_of_ble_eq_true rfl), (Nat.le_of_ble_eq_true rfl), (Nat.le_of_ble_eq_true rfl)⟩ (Nat.le_of_ble_eq_true rfl) (Nat.le_of_ble_eq_true rfl) rfl
  · have hF := ob_nneg c2 hF
    refine lv_aload_n hx hb dX4_prepare_21 rfl (lv_at hl 1 rfl) ?_
    refine va_get (D := g.1) (ci := 8) (v := .ref (a5 0)) (C := RX4) (T := TX4) (N := 12) hx hb hts inX4 hown hK hP 0 rfl rfl 4 (by decide) (hts _ mw_227) (fun _ h9 => h9) rfl dX4_prepare_22 ?_
    refine va_getN (D := g.1) (ci := 6) (v := .int (J_reason z1.2)) (C := RX2) (T := TX2) (N := 2) hx hb hts inX2 hown hK hP 84 rfl rfl 0 (by decide) (hE.nf 24 rfl) (fun _ h9 => h9) rfl dX4_prepare_25 ?_
    refine lv_bipush (v := 10) hx hb dX4_prepare_28 (by decide) ?_
    refine lv_icmp_ne (tgt := 44) hx hb dX4_prepare_30 (by decide) (fun c11 => ?_) (fun c11 => ?_)
    · have hF := ob_pos c11 hF
      refine lv_iload hx hb dX4_prepare_44 (lv_at hl 0 rfl) ?_
      refine lv_if_ne (tgt := 72) hx hb dX4_prepare_46 (by decide) (fun c12 => ?_) (fun c12 => ?_)
      · have hF := ob_pos c12 hF
        refine lv_iload hx hb dX4_prepare_72 (lv_at hl 0 rfl) ?_
        refine lv_if_ne (tgt := 107) hx hb dX4_prepare_74 (by decide) (fun c13 => ?_) (fun c13 => ?_)
        · have hF := ob_pos c13 hF
          refine lv_aload_n hx hb dX4_prepare_107 rfl (lv_at hl 1 rfl) ?_
          refine va_get (D := g.1) (ci := 8) (v := .ref (a4 0)) (C := RX4) (T := TX4) (N := 12) hx hb hts inX4 hown hK hP 0 rfl rfl 3 (by decide) (hts _ mw_226) (fun _ h9 => h9) rfl dX4_prepare_108 ?_
          refine lv_aload_n hx hb dX4_prepare_111 rfl (lv_at hl 1 rfl) ?_
          refine va_get (D := g.1) (ci := 8) (v := .ref (a1 0)) (C := RX4) (T := TX4) (N := 12) hx hb hts inX4 hown hK hP 0 rfl rfl 0 (by decide) (hts _ mw_223) (fun _ h9 => h9) rfl dX4_prepare_112 ?_
          obtain ⟨z14, hz14, hF⟩ := ob_bind hF
          refine cl_v (csR := [wX g a a1 a2 a3 a4 a5 a6 a7 x, wJ g a5 z1.2]) (csF := [wX g a a1 a2 a3 a4 a5 a6 a7 x, wB g a1 b, wH g a4 z14, wJ g a5 z1.2]) (rest := []) hx hb hml hown hts hK hE hA hl hP hD hS (c_X1_keep g l a4 a1 h b z14 hz14) [2, 1] [0, 3] [0, 3, 2, 1] ⟨rfl, rfl, rfl, rfl, rfl, rfl, rfl⟩ ⟨0, 5, _, _, rfl, rfl, rfl⟩ 1 (jb_giV mw_801 mw_802 mw_803 mw_3 mw_804) ⟨rfl, rfl⟩ (by decide +kernel) ⟨⟨(Nat.le_of_ble_eq_true rfl), (Nat.le_of_ble_eq_true rfl)⟩, (Nat.le_of_ble_eq_true rfl), (Nat.le_of_ble_eq_true rfl)⟩ ⟨rfl, rfl⟩ (Nat.le_of_ble_eq_true rfl) dX4_prepare_115 (fun H locs hP hD hS => ?_)
          cases hF
          rw [hQ]
          exact jx_vret hx hb hr hlocks hP hD hS dX4_prepare_118 rfl (Nat.le_of_ble_eq_true rfl) (Nat.le_of_ble_eq_true rfl)
        · have hF := ob_nneg c13 hF
          refine lv_aload_n hx hb dX4_prepare_77 rfl (lv_at hl 1 rfl) ?_
          refine lv_aload_n hx hb dX4_prepare_78 rfl (lv_at hl 1 rfl) ?_
          refine va_get (D := g.1) (ci := 8) (v := .ref (a5 0)) (C := RX4) (T := TX4) (N := 12) hx hb hts inX4 hown hK hP 0 rfl rfl 4 (by decide) (hts _ mw_227) (fun _ h9 => h9) rfl dX4_prepare_79 ?_
          refine va_getN (D := g.1) (ci := 6) (v := .int (J_reason z1.2)) (C := RX2) (T := TX2) (N := 2) hx hb hts inX2 hown hK hP 84 rfl rfl 0 (by decide) (hE.nf 24 rfl) (fun _ h9 => h9) rfl dX4_prepare_82 ?_
          refine lv_aload_n hx hb dX4_prepare_85 rfl (lv_at hl 1 rfl) ?_
          refine va_get (D := g.1) (ci := 8) (v := .ref (a5 0)) (C := RX4) (T := TX4) (N := 12) hx hb hts inX4 hown hK hP 0 rfl rfl 4 (by decide) (hts _ mw_227) (fun _ h9 => h9) rfl dX4_prepare_86 ?_
          refine va_getN (D := g.1) (ci := 6) (v := .int (J_detail z1.2)) (C := RX2) (T := TX2) (N := 2) hx hb hts inX2 hown hK hP 84 rfl rfl 1 (by decide) (hE.nf 25 rfl) (fun _ h9 => h9) rfl dX4_prepare_89 ?_
          refine lv_iconst (v := 0) hx hb dX4_prepare_92 (by decide) ?_
          obtain ⟨z15, hz15, hF⟩ := ob_bind hF
          refine cl_v (csR := [wB g a1 b, wH g a4 h, wJ g a5 z1.2]) (csF := [wX g a a1 a2 a3 a4 a5 a6 a7 z15, wB g a1 b, wH g a4 h, wJ g a5 z1.2]) (rest := []) hx hb hml hown hts hK hE hA hl hP hD hS (c_X4_keepDenial g l a a1 a2 a3 a4 a5 a6 a7 x (J_reason z1.2) (J_detail z1.2) 0 z15 hz15) [0] [1, 2, 3] [3, 0, 1, 2] ⟨rfl, rfl, rfl, rfl, rfl, rfl, rfl⟩ ⟨0, 8, _, _, rfl, rfl, rfl⟩ 3 (jb_giV mw_781 mw_783 ms_10 mw_1 mw_784) ⟨rfl, rfl⟩ (by decide +kernel) ⟨⟨(Nat.le_of_ble_eq_true rfl), (Nat.le_of_ble_eq_true rfl)⟩, (Nat.le_of_ble_eq_true rfl), (Nat.le_of_ble_eq_true rfl)⟩ ⟨rfl, rfl⟩ (Nat.le_of_ble_eq_true rfl) dX4_prepare_93 (fun H locs hP hD hS => ?_)
          cases hF
          rw [hQ]
          exact jx_throwW hst thw_261 hx hb (hml.trans hl.1.symm) hown hts hE htab hlocks 2 rfl hP hD hS dX4_prepare_96 dX4_prepare_99 dX4_prepare_100 dX4_prepare_103 dX4_prepare_106 ⟨(Nat.le_of_ble_eq_true rfl), (Nat.le_of_ble_eq_true rfl), (Nat.le_of_ble_eq_true rfl), (Nat.le_of_ble_eq_true rfl)⟩ (Nat.le_of_ble_eq_true rfl) (Nat.le_of_ble_eq_true rfl) rfl
      · have hF := ob_nneg c12 hF
        refine lv_aload_n hx hb dX4_prepare_49 rfl (lv_at hl 1 rfl) ?_
        refine va_get (D := g.1) (ci := 8) (v := .ref (a5 0)) (C := RX4) (T := TX4) (N := 12) hx hb hts inX4 hown hK hP 0 rfl rfl 4 (by decide) (hts _ mw_227) (fun _ h9 => h9) rfl dX4_prepare_50 ?_
        refine va_getN (D := g.1) (ci := 6) (v := .int (J_reason z1.2)) (C := RX2) (T := TX2) (N := 2) hx hb hts inX2 hown hK hP 84 rfl rfl 0 (by decide) (hE.nf 24 rfl) (fun _ h9 => h9) rfl dX4_prepare_53 ?_
        refine lv_bipush (v := 9) hx hb dX4_prepare_56 (by decide) ?_
        refine lv_icmp_ne (tgt := 72) hx hb dX4_prepare_58 (by decide) (fun c16 => ?_) (fun c16 => ?_)
        · have hF := ob_pos c16 hF
          refine lv_iload hx hb dX4_prepare_72 (lv_at hl 0 rfl) ?_
          refine lv_if_ne (tgt := 107) hx hb dX4_prepare_74 (by decide) (fun c17 => ?_) (fun c17 => ?_)
          · have hF := ob_pos c17 hF
            refine lv_aload_n hx hb dX4_prepare_107 rfl (lv_at hl 1 rfl) ?_
            refine va_get (D := g.1) (ci := 8) (v := .ref (a4 0)) (C := RX4) (T := TX4) (N := 12) hx hb hts inX4 hown hK hP 0 rfl rfl 3 (by decide) (hts _ mw_226) (fun _ h9 => h9) rfl dX4_prepare_108 ?_
            refine lv_aload_n hx hb dX4_prepare_111 rfl (lv_at hl 1 rfl) ?_
            refine va_get (D := g.1) (ci := 8) (v := .ref (a1 0)) (C := RX4) (T := TX4) (N := 12) hx hb hts inX4 hown hK hP 0 rfl rfl 0 (by decide) (hts _ mw_223) (fun _ h9 => h9) rfl dX4_prepare_112 ?_
            obtain ⟨z18, hz18, hF⟩ := ob_bind hF
            refine cl_v (csR := [wX g a a1 a2 a3 a4 a5 a6 a7 x, wJ g a5 z1.2]) (csF := [wX g a a1 a2 a3 a4 a5 a6 a7 x, wB g a1 b, wH g a4 z18, wJ g a5 z1.2]) (rest := []) hx hb hml hown hts hK hE hA hl hP hD hS (c_X1_keep g l a4 a1 h b z18 hz18) [2, 1] [0, 3] [0, 3, 2, 1] ⟨rfl, rfl, rfl, rfl, rfl, rfl, rfl⟩ ⟨0, 5, _, _, rfl, rfl, rfl⟩ 1 (jb_giV mw_801 mw_802 mw_803 mw_3 mw_804) ⟨rfl, rfl⟩ (by decide +kernel) ⟨⟨(Nat.le_of_ble_eq_true rfl), (Nat.le_of_ble_eq_true rfl)⟩, (Nat.le_of_ble_eq_true rfl), (Nat.le_of_ble_eq_true rfl)⟩ ⟨rfl, rfl⟩ (Nat.le_of_ble_eq_true rfl) dX4_prepare_115 (fun H locs hP hD hS => ?_)
            cases hF
            rw [hQ]
            exact jx_vret hx hb hr hlocks hP hD hS dX4_prepare_118 rfl (Nat.le_of_ble_eq_true rfl) (Nat.le_of_ble_eq_true rfl)
          · have hF := ob_nneg c17 hF
            refine lv_aload_n hx hb dX4_prepare_77 rfl (lv_at hl 1 rfl) ?_
            refine lv_aload_n hx hb dX4_prepare_78 rfl (lv_at hl 1 rfl) ?_
            refine va_get (D := g.1) (ci := 8) (v := .ref (a5 0)) (C := RX4) (T := TX4) (N := 12) hx hb hts inX4 hown hK hP 0 rfl rfl 4 (by decide) (hts _ mw_227) (fun _ h9 => h9) rfl dX4_prepare_79 ?_
            refine va_getN (D := g.1) (ci := 6) (v := .int (J_reason z1.2)) (C := RX2) (T := TX2) (N := 2) hx hb hts inX2 hown hK hP 84 rfl rfl 0 (by decide) (hE.nf 24 rfl) (fun _ h9 => h9) rfl dX4_prepare_82 ?_
            refine lv_aload_n hx hb dX4_prepare_85 rfl (lv_at hl 1 rfl) ?_
            refine va_get (D := g.1) (ci := 8) (v := .ref (a5 0)) (C := RX4) (T := TX4) (N := 12) hx hb hts inX4 hown hK hP 0 rfl rfl 4 (by decide) (hts _ mw_227) (fun _ h9 => h9) rfl dX4_prepare_86 ?_
            refine va_getN (D := g.1) (ci := 6) (v := .int (J_detail z1.2)) (C := RX2) (T := TX2) (N := 2) hx hb hts inX2 hown hK hP 84 rfl rfl 1 (by decide) (hE.nf 25 rfl) (fun _ h9 => h9) rfl dX4_prepare_89 ?_
            refine lv_iconst (v := 0) hx hb dX4_prepare_92 (by decide) ?_
            obtain ⟨z19, hz19, hF⟩ := ob_bind hF
            refine cl_v (csR := [wB g a1 b, wH g a4 h, wJ g a5 z1.2]) (csF := [wX g a a1 a2 a3 a4 a5 a6 a7 z19, wB g a1 b, wH g a4 h, wJ g a5 z1.2]) (rest := []) hx hb hml hown hts hK hE hA hl hP hD hS (c_X4_keepDenial g l a a1 a2 a3 a4 a5 a6 a7 x (J_reason z1.2) (J_detail z1.2) 0 z19 hz19) [0] [1, 2, 3] [3, 0, 1, 2] ⟨rfl, rfl, rfl, rfl, rfl, rfl, rfl⟩ ⟨0, 8, _, _, rfl, rfl, rfl⟩ 3 (jb_giV mw_781 mw_783 ms_10 mw_1 mw_784) ⟨rfl, rfl⟩ (by decide +kernel) ⟨⟨(Nat.le_of_ble_eq_true rfl), (Nat.le_of_ble_eq_true rfl)⟩, (Nat.le_of_ble_eq_true rfl), (Nat.le_of_ble_eq_true rfl)⟩ ⟨rfl, rfl⟩ (Nat.le_of_ble_eq_true rfl) dX4_prepare_93 (fun H locs hP hD hS => ?_)
            cases hF
            rw [hQ]
            exact jx_throwW hst thw_261 hx hb (hml.trans hl.1.symm) hown hts hE htab hlocks 2 rfl hP hD hS dX4_prepare_96 dX4_prepare_99 dX4_prepare_100 dX4_prepare_103 dX4_prepare_106 ⟨(Nat.le_of_ble_eq_true rfl), (Nat.le_of_ble_eq_true rfl), (Nat.le_of_ble_eq_true rfl), (Nat.le_of_ble_eq_true rfl)⟩ (Nat.le_of_ble_eq_true rfl) (Nat.le_of_ble_eq_true rfl) rfl
        · have hF := ob_nneg c16 hF
          cases hF
          rw [hQ]
          exact jx_throwW hst thw_234 hx hb (hml.trans hl.1.symm) hown hts hE htab hlocks 1 rfl hP hD hS dX4_prepare_61 dX4_prepare_64 dX4_prepare_65 dX4_prepare_68 dX4_prepare_71 ⟨(Nat.le_of_ble_eq_true rfl), (Nat.le_of_ble_eq_true rfl), (Nat.le_of_ble_eq_true rfl), (Nat.le_of_ble_eq_true rfl)⟩ (Nat.le_of_ble_eq_true rfl) (Nat.le_of_ble_eq_true rfl) rfl
    · have hF := ob_nneg c11 hF
      cases hF
      rw [hQ]
      exact jx_throwW hst thw_157 hx hb (hml.trans hl.1.symm) hown hts hE htab hlocks 0 rfl hP hD hS dX4_prepare_33 dX4_prepare_36 dX4_prepare_37 dX4_prepare_40 dX4_prepare_43 ⟨(Nat.le_of_ble_eq_true rfl), (Nat.le_of_ble_eq_true rfl), (Nat.le_of_ble_eq_true rfl), (Nat.le_of_ble_eq_true rfl)⟩ (Nat.le_of_ble_eq_true rfl) (Nat.le_of_ble_eq_true rfl) rfl
def F_X4_addSpan (x : Xv) (b : Bv) (h : Hv) (j : Jv) (p0 : Int32) : Option ((Int32 × Xv × Bv × Hv × Jv) ⊕ (String × Xv × Bv × Hv × Jv)) := obx (F_X4_prepare x b h j 0 p0 0) (fun z1 => (F_X0_appendSpan b p0).bind (fun z2 => some (.inl (z2.1, z1.1, z2.2, z1.2.1, z1.2.2)))) (fun z1 => some (.inr (z1.1, z1.2.1, b, z1.2.2.1, z1.2.2.2)))
set_option maxHeartbeats 4000000 in
set_option maxRecDepth 100000 in
theorem c_X4_addSpan (g : GG) (l : Launch) (hst : l.stackTraces = false) (a a1 a2 a3 a4 a5 a6 a7 : Nat → Nat) (x : Xv) (b : Bv) (h : Hv) (j : Jv) (p0 : Int32) (z : (Int32 × Xv × Bv × Hv × Jv) ⊕ (String × Xv × Bv × Hv × Jv)) (hF : F_X4_addSpan x b h j p0 = some z) : MX g l yX4_addSpan cX4_addSpan 2 (some .int) ({ frames := 7, cells := 1, slots := 6, locals := 166 } : Room) [.ref (a 0), .int p0] [wX g a a1 a2 a3 a4 a5 a6 a7 x, wB g a1 b, wH g a4 h, wJ g a5 j] 1 6 (Sum.elim (fun y => .inl (some (.int y.1), [wX g a a1 a2 a3 a4 a5 a6 a7 y.2.1, wB g a1 y.2.2.1, wH g a4 y.2.2.2.1, wJ g a5 y.2.2.2.2])) (fun y => .inr (y.1, [wX g a a1 a2 a3 a4 a5 a6 a7 y.2.1, wB g a1 y.2.2.1, wH g a4 y.2.2.2.1, wJ g a5 y.2.2.2.2])) z) := by
  refine MX.bg (by decide) (Nat.le_of_ble_eq_true rfl) ?_
  intro p e s m below meth c A Q hQ hx hb hr hml hown hts hlocks htab hK hE hA hP hD hS ls hl
  rw [F_X4_addSpan] at hF
  have hl : lv_has ls 2 [(0, .ref (a 0)), (1, .int p0)] := hl
  refine lv_aload_n hx hb dX4_addSpan_0 rfl (lv_at hl 0 rfl) ?_
  refine lv_iconst (v := 0) hx hb dX4_addSpan_1 (by decide) ?_
  refine lv_iload_n hx hb dX4_addSpan_2 rfl (lv_at hl 1 rfl) ?_
  refine lv_iconst (v := 0) hx hb dX4_addSpan_3 (by decide) ?_
  rcases ob_bx hF with ⟨z1, hz1, hF⟩ | ⟨z1, hz1, hF⟩
  rotate_left
  · refine cx_x (csR := []) (csF := [wX g a a1 a2 a3 a4 a5 a6 a7 z1.2.1, wB g a1 b, wH g a4 z1.2.2.1, wJ g a5 z1.2.2.2]) (rest := []) hx hb hml hown hts hK hE hA hl hP hD hS (c_X4_prepare g l hst a a1 a2 a3 a4 a5 a6 a7 x b h j 0 p0 0 (.inr z1) hz1) [0, 1, 2, 3] [] [0, 1, 2, 3] ⟨rfl, rfl, rfl, rfl, rfl, rfl, rfl⟩ ⟨0, 8, _, _, rfl, rfl, rfl⟩ 3 (jb_giV mw_722 mw_724 ms_1 mw_1 mw_725) ⟨rfl, rfl⟩ (by decide +kernel) ⟨⟨(Nat.le_of_ble_eq_true rfl), (Nat.le_of_ble_eq_true rfl)⟩, (Nat.le_of_ble_eq_true rfl), (Nat.le_of_ble_eq_true rfl)⟩ ⟨rfl, rfl⟩ (Nat.le_of_ble_eq_true rfl) dX4_addSpan_4 (fun H locs q9 ce hP hD hS h1 h2 h3 => ?_)
    cases hF
    rw [hQ]
    exact jx_out htab hlocks hP hD hS h1 h2 h3 rfl (Nat.le_of_ble_eq_true rfl) (Nat.le_of_ble_eq_true rfl)
  refine cx_n (csR := []) (csF := [wX g a a1 a2 a3 a4 a5 a6 a7 z1.1, wB g a1 b, wH g a4 z1.2.1, wJ g a5 z1.2.2]) (rest := []) hx hb hml hown hts hK hE hA hl hP hD hS (c_X4_prepare g l hst a a1 a2 a3 a4 a5 a6 a7 x b h j 0 p0 0 (.inl z1) hz1) [0, 1, 2, 3] [] [0, 1, 2, 3] ⟨rfl, rfl, rfl, rfl, rfl, rfl, rfl⟩ ⟨0, 8, _, _, rfl, rfl, rfl⟩ 3 (jb_giV mw_722 mw_724 ms_1 mw_1 mw_725) ⟨rfl, rfl⟩ (by decide +kernel) ⟨⟨(Nat.le_of_ble_eq_true rfl), (Nat.le_of_ble_eq_true rfl)⟩, (Nat.le_of_ble_eq_true rfl), (Nat.le_of_ble_eq_true rfl)⟩ ⟨rfl, rfl⟩ (Nat.le_of_ble_eq_true rfl) dX4_addSpan_4 (fun H locs hP hD hS => ?_)
  refine W.eq (g2 := F0 m 7 ls []) rfl ?_
  refine lv_aload_n hx hb dX4_addSpan_7 rfl (lv_at hl 0 rfl) ?_
  refine va_get (D := g.1) (ci := 8) (v := .ref (a1 0)) (C := RX4) (T := TX4) (N := 12) hx hb hts inX4 hown hK hP 0 rfl rfl 0 (by decide) (hts _ mw_223) (fun _ h9 => h9) rfl dX4_addSpan_8 ?_
  refine lv_iload_n hx hb dX4_addSpan_11 rfl (lv_at hl 1 rfl) ?_
  obtain ⟨z2, hz2, hF⟩ := ob_bind hF
  refine cl_i (csR := [wX g a a1 a2 a3 a4 a5 a6 a7 z1.1, wH g a4 z1.2.1, wJ g a5 z1.2.2]) (csF := [wX g a a1 a2 a3 a4 a5 a6 a7 z1.1, wB g a1 z2.2, wH g a4 z1.2.1, wJ g a5 z1.2.2]) (rest := []) hx hb hml hown hts hK hE hA hl hP hD hS (c_X0_appendSpan g l a1 b p0 z2 hz2) [1] [0, 2, 3] [0, 3, 1, 2] ⟨rfl, rfl, rfl, rfl, rfl, rfl, rfl⟩ ⟨0, 4, _, _, rfl, rfl, rfl⟩ 1 (jb_giV mw_807 mw_808 mw_809 mw_2 mw_810) ⟨rfl, rfl⟩ (by decide +kernel) ⟨⟨(Nat.le_of_ble_eq_true rfl), (Nat.le_of_ble_eq_true rfl)⟩, (Nat.le_of_ble_eq_true rfl), (Nat.le_of_ble_eq_true rfl)⟩ ⟨rfl, rfl⟩ (Nat.le_of_ble_eq_true rfl) dX4_addSpan_12 (fun H locs hP hD hS => ?_)
  cases hF
  rw [hQ]
  exact jx_iret hx hb hr rfl hlocks hP hD hS dX4_addSpan_15 rfl (Nat.le_of_ble_eq_true rfl) (Nat.le_of_ble_eq_true rfl)
def F_X4_removeLastSpan (x : Xv) (b : Bv) (h : Hv) (j : Jv) : Option ((Int32 × Xv × Bv × Hv × Jv) ⊕ (String × Xv × Bv × Hv × Jv)) := obx (F_X4_prepare x b h j 6 0 0) (fun z1 => (F_X0_dropLastSpan b).bind (fun z2 => some (.inl (z2.1, z1.1, z2.2, z1.2.1, z1.2.2)))) (fun z1 => some (.inr (z1.1, z1.2.1, b, z1.2.2.1, z1.2.2.2)))
set_option maxHeartbeats 4000000 in
set_option maxRecDepth 100000 in
theorem c_X4_removeLastSpan (g : GG) (l : Launch) (hst : l.stackTraces = false) (a a1 a2 a3 a4 a5 a6 a7 : Nat → Nat) (x : Xv) (b : Bv) (h : Hv) (j : Jv) (z : (Int32 × Xv × Bv × Hv × Jv) ⊕ (String × Xv × Bv × Hv × Jv)) (hF : F_X4_removeLastSpan x b h j = some z) : MX g l yX4_removeLastSpan cX4_removeLastSpan 1 (some .int) ({ frames := 7, cells := 1, slots := 6, locals := 166 } : Room) [.ref (a 0)] [wX g a a1 a2 a3 a4 a5 a6 a7 x, wB g a1 b, wH g a4 h, wJ g a5 j] 1 6 (Sum.elim (fun y => .inl (some (.int y.1), [wX g a a1 a2 a3 a4 a5 a6 a7 y.2.1, wB g a1 y.2.2.1, wH g a4 y.2.2.2.1, wJ g a5 y.2.2.2.2])) (fun y => .inr (y.1, [wX g a a1 a2 a3 a4 a5 a6 a7 y.2.1, wB g a1 y.2.2.1, wH g a4 y.2.2.2.1, wJ g a5 y.2.2.2.2])) z) := by
  refine MX.bg (by decide) (Nat.le_of_ble_eq_true rfl) ?_
  intro p e s m below meth c A Q hQ hx hb hr hml hown hts hlocks htab hK hE hA hP hD hS ls hl
  rw [F_X4_removeLastSpan] at hF
  have hl : lv_has ls 1 [(0, .ref (a 0))] := hl
  refine lv_aload_n hx hb dX4_removeLastSpan_0 rfl (lv_at hl 0 rfl) ?_
  refine lv_bipush (v := 6) hx hb dX4_removeLastSpan_1 (by decide) ?_
  refine lv_iconst (v := 0) hx hb dX4_removeLastSpan_3 (by decide) ?_
  refine lv_iconst (v := 0) hx hb dX4_removeLastSpan_4 (by decide) ?_
  rcases ob_bx hF with ⟨z1, hz1, hF⟩ | ⟨z1, hz1, hF⟩
  rotate_left
  · refine cx_x (csR := []) (csF := [wX g a a1 a2 a3 a4 a5 a6 a7 z1.2.1, wB g a1 b, wH g a4 z1.2.2.1, wJ g a5 z1.2.2.2]) (rest := []) hx hb hml hown hts hK hE hA hl hP hD hS (c_X4_prepare g l hst a a1 a2 a3 a4 a5 a6 a7 x b h j 6 0 0 (.inr z1) hz1) [0, 1, 2, 3] [] [0, 1, 2, 3] ⟨rfl, rfl, rfl, rfl, rfl, rfl, rfl⟩ ⟨0, 8, _, _, rfl, rfl, rfl⟩ 3 (jb_giV mw_722 mw_724 ms_1 mw_1 mw_725) ⟨rfl, rfl⟩ (by decide +kernel) ⟨⟨(Nat.le_of_ble_eq_true rfl), (Nat.le_of_ble_eq_true rfl)⟩, (Nat.le_of_ble_eq_true rfl), (Nat.le_of_ble_eq_true rfl)⟩ ⟨rfl, rfl⟩ (Nat.le_of_ble_eq_true rfl) dX4_removeLastSpan_5 (fun H locs q9 ce hP hD hS h1 h2 h3 => ?_)
    cases hF
    rw [hQ]
    exact jx_out htab hlocks hP hD hS h1 h2 h3 rfl (Nat.le_of_ble_eq_true rfl) (Nat.le_of_ble_eq_true rfl)
  refine cx_n (csR := []) (csF := [wX g a a1 a2 a3 a4 a5 a6 a7 z1.1, wB g a1 b, wH g a4 z1.2.1, wJ g a5 z1.2.2]) (rest := []) hx hb hml hown hts hK hE hA hl hP hD hS (c_X4_prepare g l hst a a1 a2 a3 a4 a5 a6 a7 x b h j 6 0 0 (.inl z1) hz1) [0, 1, 2, 3] [] [0, 1, 2, 3] ⟨rfl, rfl, rfl, rfl, rfl, rfl, rfl⟩ ⟨0, 8, _, _, rfl, rfl, rfl⟩ 3 (jb_giV mw_722 mw_724 ms_1 mw_1 mw_725) ⟨rfl, rfl⟩ (by decide +kernel) ⟨⟨(Nat.le_of_ble_eq_true rfl), (Nat.le_of_ble_eq_true rfl)⟩, (Nat.le_of_ble_eq_true rfl), (Nat.le_of_ble_eq_true rfl)⟩ ⟨rfl, rfl⟩ (Nat.le_of_ble_eq_true rfl) dX4_removeLastSpan_5 (fun H locs hP hD hS => ?_)
  refine W.eq (g2 := F0 m 8 ls []) rfl ?_
  refine lv_aload_n hx hb dX4_removeLastSpan_8 rfl (lv_at hl 0 rfl) ?_
  refine va_get (D := g.1) (ci := 8) (v := .ref (a1 0)) (C := RX4) (T := TX4) (N := 12) hx hb hts inX4 hown hK hP 0 rfl rfl 0 (by decide) (hts _ mw_223) (fun _ h9 => h9) rfl dX4_removeLastSpan_9 ?_
  obtain ⟨z2, hz2, hF⟩ := ob_bind hF
  refine cl_i (csR := [wX g a a1 a2 a3 a4 a5 a6 a7 z1.1, wH g a4 z1.2.1, wJ g a5 z1.2.2]) (csF := [wX g a a1 a2 a3 a4 a5 a6 a7 z1.1, wB g a1 z2.2, wH g a4 z1.2.1, wJ g a5 z1.2.2]) (rest := []) hx hb hml hown hts hK hE hA hl hP hD hS (c_X0_dropLastSpan g l a1 b z2 hz2) [1] [0, 2, 3] [0, 3, 1, 2] ⟨rfl, rfl, rfl, rfl, rfl, rfl, rfl⟩ ⟨0, 4, _, _, rfl, rfl, rfl⟩ 0 (jb_giV mw_818 mw_819 mw_820 mw_2 mw_821) ⟨rfl, rfl⟩ (by decide +kernel) ⟨⟨(Nat.le_of_ble_eq_true rfl), (Nat.le_of_ble_eq_true rfl)⟩, (Nat.le_of_ble_eq_true rfl), (Nat.le_of_ble_eq_true rfl)⟩ ⟨rfl, rfl⟩ (Nat.le_of_ble_eq_true rfl) dX4_removeLastSpan_12 (fun H locs hP hD hS => ?_)
  cases hF
  rw [hQ]
  exact jx_iret hx hb hr rfl hlocks hP hD hS dX4_removeLastSpan_15 rfl (Nat.le_of_ble_eq_true rfl) (Nat.le_of_ble_eq_true rfl)
def F_X4_pour (x : Xv) (b : Bv) (h : Hv) (j : Jv) (p0 : Int32) (p1 : Int32) : Option ((Int32 × Xv × Bv × Hv × Jv) ⊕ (String × Xv × Bv × Hv × Jv)) := obx (F_X4_prepare x b h j 1 p0 p1) (fun z1 => (F_X0_addJars b p0 p1).bind (fun z2 => some (.inl (z2.1, z1.1, z2.2, z1.2.1, z1.2.2)))) (fun z1 => some (.inr (z1.1, z1.2.1, b, z1.2.2.1, z1.2.2.2)))
set_option maxHeartbeats 4000000 in
set_option maxRecDepth 100000 in
theorem c_X4_pour (g : GG) (l : Launch) (hst : l.stackTraces = false) (a a1 a2 a3 a4 a5 a6 a7 : Nat → Nat) (x : Xv) (b : Bv) (h : Hv) (j : Jv) (p0 : Int32) (p1 : Int32) (z : (Int32 × Xv × Bv × Hv × Jv) ⊕ (String × Xv × Bv × Hv × Jv)) (hF : F_X4_pour x b h j p0 p1 = some z) : MX g l yX4_pour cX4_pour 3 (some .int) ({ frames := 7, cells := 1, slots := 6, locals := 166 } : Room) [.ref (a 0), .int p0, .int p1] [wX g a a1 a2 a3 a4 a5 a6 a7 x, wB g a1 b, wH g a4 h, wJ g a5 j] 1 6 (Sum.elim (fun y => .inl (some (.int y.1), [wX g a a1 a2 a3 a4 a5 a6 a7 y.2.1, wB g a1 y.2.2.1, wH g a4 y.2.2.2.1, wJ g a5 y.2.2.2.2])) (fun y => .inr (y.1, [wX g a a1 a2 a3 a4 a5 a6 a7 y.2.1, wB g a1 y.2.2.1, wH g a4 y.2.2.2.1, wJ g a5 y.2.2.2.2])) z) := by
  refine MX.bg (by decide) (Nat.le_of_ble_eq_true rfl) ?_
  intro p e s m below meth c A Q hQ hx hb hr hml hown hts hlocks htab hK hE hA hP hD hS ls hl
  rw [F_X4_pour] at hF
  have hl : lv_has ls 3 [(0, .ref (a 0)), (1, .int p0), (2, .int p1)] := hl
  refine lv_aload_n hx hb dX4_pour_0 rfl (lv_at hl 0 rfl) ?_
  refine lv_iconst (v := 1) hx hb dX4_pour_1 (by decide) ?_
  refine lv_iload_n hx hb dX4_pour_2 rfl (lv_at hl 1 rfl) ?_
  refine lv_iload_n hx hb dX4_pour_3 rfl (lv_at hl 2 rfl) ?_
  rcases ob_bx hF with ⟨z1, hz1, hF⟩ | ⟨z1, hz1, hF⟩
  rotate_left
  · refine cx_x (csR := []) (csF := [wX g a a1 a2 a3 a4 a5 a6 a7 z1.2.1, wB g a1 b, wH g a4 z1.2.2.1, wJ g a5 z1.2.2.2]) (rest := []) hx hb hml hown hts hK hE hA hl hP hD hS (c_X4_prepare g l hst a a1 a2 a3 a4 a5 a6 a7 x b h j 1 p0 p1 (.inr z1) hz1) [0, 1, 2, 3] [] [0, 1, 2, 3] ⟨rfl, rfl, rfl, rfl, rfl, rfl, rfl⟩ ⟨0, 8, _, _, rfl, rfl, rfl⟩ 3 (jb_giV mw_722 mw_724 ms_1 mw_1 mw_725) ⟨rfl, rfl⟩ (by decide +kernel) ⟨⟨(Nat.le_of_ble_eq_true rfl), (Nat.le_of_ble_eq_true rfl)⟩, (Nat.le_of_ble_eq_true rfl), (Nat.le_of_ble_eq_true rfl)⟩ ⟨rfl, rfl⟩ (Nat.le_of_ble_eq_true rfl) dX4_pour_4 (fun H locs q9 ce hP hD hS h1 h2 h3 => ?_)
    cases hF
    rw [hQ]
    exact jx_out htab hlocks hP hD hS h1 h2 h3 rfl (Nat.le_of_ble_eq_true rfl) (Nat.le_of_ble_eq_true rfl)
  refine cx_n (csR := []) (csF := [wX g a a1 a2 a3 a4 a5 a6 a7 z1.1, wB g a1 b, wH g a4 z1.2.1, wJ g a5 z1.2.2]) (rest := []) hx hb hml hown hts hK hE hA hl hP hD hS (c_X4_prepare g l hst a a1 a2 a3 a4 a5 a6 a7 x b h j 1 p0 p1 (.inl z1) hz1) [0, 1, 2, 3] [] [0, 1, 2, 3] ⟨rfl, rfl, rfl, rfl, rfl, rfl, rfl⟩ ⟨0, 8, _, _, rfl, rfl, rfl⟩ 3 (jb_giV mw_722 mw_724 ms_1 mw_1 mw_725) ⟨rfl, rfl⟩ (by decide +kernel) ⟨⟨(Nat.le_of_ble_eq_true rfl), (Nat.le_of_ble_eq_true rfl)⟩, (Nat.le_of_ble_eq_true rfl), (Nat.le_of_ble_eq_true rfl)⟩ ⟨rfl, rfl⟩ (Nat.le_of_ble_eq_true rfl) dX4_pour_4 (fun H locs hP hD hS => ?_)
  refine W.eq (g2 := F0 m 7 ls []) rfl ?_
  refine lv_aload_n hx hb dX4_pour_7 rfl (lv_at hl 0 rfl) ?_
  refine va_get (D := g.1) (ci := 8) (v := .ref (a1 0)) (C := RX4) (T := TX4) (N := 12) hx hb hts inX4 hown hK hP 0 rfl rfl 0 (by decide) (hts _ mw_223) (fun _ h9 => h9) rfl dX4_pour_8 ?_
  refine lv_iload_n hx hb dX4_pour_11 rfl (lv_at hl 1 rfl) ?_
  refine lv_iload_n hx hb dX4_pour_12 rfl (lv_at hl 2 rfl) ?_
  obtain ⟨z2, hz2, hF⟩ := ob_bind hF
  refine cl_i (csR := [wX g a a1 a2 a3 a4 a5 a6 a7 z1.1, wH g a4 z1.2.1, wJ g a5 z1.2.2]) (csF := [wX g a a1 a2 a3 a4 a5 a6 a7 z1.1, wB g a1 z2.2, wH g a4 z1.2.1, wJ g a5 z1.2.2]) (rest := []) hx hb hml hown hts hK hE hA hl hP hD hS (c_X0_addJars g l a1 b p0 p1 z2 hz2) [1] [0, 2, 3] [0, 3, 1, 2] ⟨rfl, rfl, rfl, rfl, rfl, rfl, rfl⟩ ⟨0, 4, _, _, rfl, rfl, rfl⟩ 2 (jb_giV mw_832 mw_833 mw_834 mw_2 mw_835) ⟨rfl, rfl⟩ (by decide +kernel) ⟨⟨(Nat.le_of_ble_eq_true rfl), (Nat.le_of_ble_eq_true rfl)⟩, (Nat.le_of_ble_eq_true rfl), (Nat.le_of_ble_eq_true rfl)⟩ ⟨rfl, rfl⟩ (Nat.le_of_ble_eq_true rfl) dX4_pour_13 (fun H locs hP hD hS => ?_)
  cases hF
  rw [hQ]
  exact jx_iret hx hb hr rfl hlocks hP hD hS dX4_pour_16 rfl (Nat.le_of_ble_eq_true rfl) (Nat.le_of_ble_eq_true rfl)
def F_X4_mend (x : Xv) (b : Bv) (h : Hv) (j : Jv) (p0 : Int32) (p1 : Int32) : Option ((Int32 × Xv × Bv × Hv × Jv) ⊕ (String × Xv × Bv × Hv × Jv)) := obx (F_X4_prepare x b h j 3 p0 p1) (fun z1 => (F_X0_repair b p0 p1).bind (fun z2 => some (.inl (z2.1, z1.1, z2.2, z1.2.1, z1.2.2)))) (fun z1 => some (.inr (z1.1, z1.2.1, b, z1.2.2.1, z1.2.2.2)))
set_option maxHeartbeats 4000000 in
set_option maxRecDepth 100000 in
theorem c_X4_mend (g : GG) (l : Launch) (hst : l.stackTraces = false) (a a1 a2 a3 a4 a5 a6 a7 : Nat → Nat) (x : Xv) (b : Bv) (h : Hv) (j : Jv) (p0 : Int32) (p1 : Int32) (z : (Int32 × Xv × Bv × Hv × Jv) ⊕ (String × Xv × Bv × Hv × Jv)) (hF : F_X4_mend x b h j p0 p1 = some z) : MX g l yX4_mend cX4_mend 3 (some .int) ({ frames := 7, cells := 1, slots := 6, locals := 166 } : Room) [.ref (a 0), .int p0, .int p1] [wX g a a1 a2 a3 a4 a5 a6 a7 x, wB g a1 b, wH g a4 h, wJ g a5 j] 1 6 (Sum.elim (fun y => .inl (some (.int y.1), [wX g a a1 a2 a3 a4 a5 a6 a7 y.2.1, wB g a1 y.2.2.1, wH g a4 y.2.2.2.1, wJ g a5 y.2.2.2.2])) (fun y => .inr (y.1, [wX g a a1 a2 a3 a4 a5 a6 a7 y.2.1, wB g a1 y.2.2.1, wH g a4 y.2.2.2.1, wJ g a5 y.2.2.2.2])) z) := by
  refine MX.bg (by decide) (Nat.le_of_ble_eq_true rfl) ?_
  intro p e s m below meth c A Q hQ hx hb hr hml hown hts hlocks htab hK hE hA hP hD hS ls hl
  rw [F_X4_mend] at hF
  have hl : lv_has ls 3 [(0, .ref (a 0)), (1, .int p0), (2, .int p1)] := hl
  refine lv_aload_n hx hb dX4_mend_0 rfl (lv_at hl 0 rfl) ?_
  refine lv_iconst (v := 3) hx hb dX4_mend_1 (by decide) ?_
  refine lv_iload_n hx hb dX4_mend_2 rfl (lv_at hl 1 rfl) ?_
  refine lv_iload_n hx hb dX4_mend_3 rfl (lv_at hl 2 rfl) ?_
  rcases ob_bx hF with ⟨z1, hz1, hF⟩ | ⟨z1, hz1, hF⟩
  rotate_left
  · refine cx_x (csR := []) (csF := [wX g a a1 a2 a3 a4 a5 a6 a7 z1.2.1, wB g a1 b, wH g a4 z1.2.2.1, wJ g a5 z1.2.2.2]) (rest := []) hx hb hml hown hts hK hE hA hl hP hD hS (c_X4_prepare g l hst a a1 a2 a3 a4 a5 a6 a7 x b h j 3 p0 p1 (.inr z1) hz1) [0, 1, 2, 3] [] [0, 1, 2, 3] ⟨rfl, rfl, rfl, rfl, rfl, rfl, rfl⟩ ⟨0, 8, _, _, rfl, rfl, rfl⟩ 3 (jb_giV mw_722 mw_724 ms_1 mw_1 mw_725) ⟨rfl, rfl⟩ (by decide +kernel) ⟨⟨(Nat.le_of_ble_eq_true rfl), (Nat.le_of_ble_eq_true rfl)⟩, (Nat.le_of_ble_eq_true rfl), (Nat.le_of_ble_eq_true rfl)⟩ ⟨rfl, rfl⟩ (Nat.le_of_ble_eq_true rfl) dX4_mend_4 (fun H locs q9 ce hP hD hS h1 h2 h3 => ?_)
    cases hF
    rw [hQ]
    exact jx_out htab hlocks hP hD hS h1 h2 h3 rfl (Nat.le_of_ble_eq_true rfl) (Nat.le_of_ble_eq_true rfl)
  refine cx_n (csR := []) (csF := [wX g a a1 a2 a3 a4 a5 a6 a7 z1.1, wB g a1 b, wH g a4 z1.2.1, wJ g a5 z1.2.2]) (rest := []) hx hb hml hown hts hK hE hA hl hP hD hS (c_X4_prepare g l hst a a1 a2 a3 a4 a5 a6 a7 x b h j 3 p0 p1 (.inl z1) hz1) [0, 1, 2, 3] [] [0, 1, 2, 3] ⟨rfl, rfl, rfl, rfl, rfl, rfl, rfl⟩ ⟨0, 8, _, _, rfl, rfl, rfl⟩ 3 (jb_giV mw_722 mw_724 ms_1 mw_1 mw_725) ⟨rfl, rfl⟩ (by decide +kernel) ⟨⟨(Nat.le_of_ble_eq_true rfl), (Nat.le_of_ble_eq_true rfl)⟩, (Nat.le_of_ble_eq_true rfl), (Nat.le_of_ble_eq_true rfl)⟩ ⟨rfl, rfl⟩ (Nat.le_of_ble_eq_true rfl) dX4_mend_4 (fun H locs hP hD hS => ?_)
  refine W.eq (g2 := F0 m 7 ls []) rfl ?_
  refine lv_aload_n hx hb dX4_mend_7 rfl (lv_at hl 0 rfl) ?_
  refine va_get (D := g.1) (ci := 8) (v := .ref (a1 0)) (C := RX4) (T := TX4) (N := 12) hx hb hts inX4 hown hK hP 0 rfl rfl 0 (by decide) (hts _ mw_223) (fun _ h9 => h9) rfl dX4_mend_8 ?_
  refine lv_iload_n hx hb dX4_mend_11 rfl (lv_at hl 1 rfl) ?_
  refine lv_iload_n hx hb dX4_mend_12 rfl (lv_at hl 2 rfl) ?_
  obtain ⟨z2, hz2, hF⟩ := ob_bind hF
  refine cl_i (csR := [wX g a a1 a2 a3 a4 a5 a6 a7 z1.1, wH g a4 z1.2.1, wJ g a5 z1.2.2]) (csF := [wX g a a1 a2 a3 a4 a5 a6 a7 z1.1, wB g a1 z2.2, wH g a4 z1.2.1, wJ g a5 z1.2.2]) (rest := []) hx hb hml hown hts hK hE hA hl hP hD hS (c_X0_repair g l a1 b p0 p1 z2 hz2) [1] [0, 2, 3] [0, 3, 1, 2] ⟨rfl, rfl, rfl, rfl, rfl, rfl, rfl⟩ ⟨0, 4, _, _, rfl, rfl, rfl⟩ 2 (jb_giV mw_843 mw_844 mw_845 mw_2 mw_846) ⟨rfl, rfl⟩ (by decide +kernel) ⟨⟨(Nat.le_of_ble_eq_true rfl), (Nat.le_of_ble_eq_true rfl)⟩, (Nat.le_of_ble_eq_true rfl), (Nat.le_of_ble_eq_true rfl)⟩ ⟨rfl, rfl⟩ (Nat.le_of_ble_eq_true rfl) dX4_mend_13 (fun H locs hP hD hS => ?_)
  cases hF
  rw [hQ]
  exact jx_iret hx hb hr rfl hlocks hP hD hS dX4_mend_16 rfl (Nat.le_of_ble_eq_true rfl) (Nat.le_of_ble_eq_true rfl)
def F_X4_enter (x : Xv) (b : Bv) (h : Hv) (j : Jv) (p0 : Int32) : Option ((Int32 × Xv × Bv × Hv × Jv) ⊕ (String × Xv × Bv × Hv × Jv)) := obx (F_X4_prepare x b h j 2 p0 0) (fun z1 => (F_X0_appendVehicle b p0).bind (fun z2 => some (.inl (z2.1, z1.1, z2.2, z1.2.1, z1.2.2)))) (fun z1 => some (.inr (z1.1, z1.2.1, b, z1.2.2.1, z1.2.2.2)))
set_option maxHeartbeats 4000000 in
set_option maxRecDepth 100000 in
theorem c_X4_enter (g : GG) (l : Launch) (hst : l.stackTraces = false) (a a1 a2 a3 a4 a5 a6 a7 : Nat → Nat) (x : Xv) (b : Bv) (h : Hv) (j : Jv) (p0 : Int32) (z : (Int32 × Xv × Bv × Hv × Jv) ⊕ (String × Xv × Bv × Hv × Jv)) (hF : F_X4_enter x b h j p0 = some z) : MX g l yX4_enter cX4_enter 2 (some .int) ({ frames := 7, cells := 1, slots := 6, locals := 166 } : Room) [.ref (a 0), .int p0] [wX g a a1 a2 a3 a4 a5 a6 a7 x, wB g a1 b, wH g a4 h, wJ g a5 j] 1 6 (Sum.elim (fun y => .inl (some (.int y.1), [wX g a a1 a2 a3 a4 a5 a6 a7 y.2.1, wB g a1 y.2.2.1, wH g a4 y.2.2.2.1, wJ g a5 y.2.2.2.2])) (fun y => .inr (y.1, [wX g a a1 a2 a3 a4 a5 a6 a7 y.2.1, wB g a1 y.2.2.1, wH g a4 y.2.2.2.1, wJ g a5 y.2.2.2.2])) z) := by
  refine MX.bg (by decide) (Nat.le_of_ble_eq_true rfl) ?_
  intro p e s m below meth c A Q hQ hx hb hr hml hown hts hlocks htab hK hE hA hP hD hS ls hl
  rw [F_X4_enter] at hF
  have hl : lv_has ls 2 [(0, .ref (a 0)), (1, .int p0)] := hl
  refine lv_aload_n hx hb dX4_enter_0 rfl (lv_at hl 0 rfl) ?_
  refine lv_iconst (v := 2) hx hb dX4_enter_1 (by decide) ?_
  refine lv_iload_n hx hb dX4_enter_2 rfl (lv_at hl 1 rfl) ?_
  refine lv_iconst (v := 0) hx hb dX4_enter_3 (by decide) ?_
  rcases ob_bx hF with ⟨z1, hz1, hF⟩ | ⟨z1, hz1, hF⟩
  rotate_left
  · refine cx_x (csR := []) (csF := [wX g a a1 a2 a3 a4 a5 a6 a7 z1.2.1, wB g a1 b, wH g a4 z1.2.2.1, wJ g a5 z1.2.2.2]) (rest := []) hx hb hml hown hts hK hE hA hl hP hD hS (c_X4_prepare g l hst a a1 a2 a3 a4 a5 a6 a7 x b h j 2 p0 0 (.inr z1) hz1) [0, 1, 2, 3] [] [0, 1, 2, 3] ⟨rfl, rfl, rfl, rfl, rfl, rfl, rfl⟩ ⟨0, 8, _, _, rfl, rfl, rfl⟩ 3 (jb_giV mw_722 mw_724 ms_1 mw_1 mw_725) ⟨rfl, rfl⟩ (by decide +kernel) ⟨⟨(Nat.le_of_ble_eq_true rfl), (Nat.le_of_ble_eq_true rfl)⟩, (Nat.le_of_ble_eq_true rfl), (Nat.le_of_ble_eq_true rfl)⟩ ⟨rfl, rfl⟩ (Nat.le_of_ble_eq_true rfl) dX4_enter_4 (fun H locs q9 ce hP hD hS h1 h2 h3 => ?_)
    cases hF
    rw [hQ]
    exact jx_out htab hlocks hP hD hS h1 h2 h3 rfl (Nat.le_of_ble_eq_true rfl) (Nat.le_of_ble_eq_true rfl)
  refine cx_n (csR := []) (csF := [wX g a a1 a2 a3 a4 a5 a6 a7 z1.1, wB g a1 b, wH g a4 z1.2.1, wJ g a5 z1.2.2]) (rest := []) hx hb hml hown hts hK hE hA hl hP hD hS (c_X4_prepare g l hst a a1 a2 a3 a4 a5 a6 a7 x b h j 2 p0 0 (.inl z1) hz1) [0, 1, 2, 3] [] [0, 1, 2, 3] ⟨rfl, rfl, rfl, rfl, rfl, rfl, rfl⟩ ⟨0, 8, _, _, rfl, rfl, rfl⟩ 3 (jb_giV mw_722 mw_724 ms_1 mw_1 mw_725) ⟨rfl, rfl⟩ (by decide +kernel) ⟨⟨(Nat.le_of_ble_eq_true rfl), (Nat.le_of_ble_eq_true rfl)⟩, (Nat.le_of_ble_eq_true rfl), (Nat.le_of_ble_eq_true rfl)⟩ ⟨rfl, rfl⟩ (Nat.le_of_ble_eq_true rfl) dX4_enter_4 (fun H locs hP hD hS => ?_)
  refine W.eq (g2 := F0 m 7 ls []) rfl ?_
  refine lv_aload_n hx hb dX4_enter_7 rfl (lv_at hl 0 rfl) ?_
  refine va_get (D := g.1) (ci := 8) (v := .ref (a1 0)) (C := RX4) (T := TX4) (N := 12) hx hb hts inX4 hown hK hP 0 rfl rfl 0 (by decide) (hts _ mw_223) (fun _ h9 => h9) rfl dX4_enter_8 ?_
  refine lv_iload_n hx hb dX4_enter_11 rfl (lv_at hl 1 rfl) ?_
  obtain ⟨z2, hz2, hF⟩ := ob_bind hF
  refine cl_i (csR := [wX g a a1 a2 a3 a4 a5 a6 a7 z1.1, wH g a4 z1.2.1, wJ g a5 z1.2.2]) (csF := [wX g a a1 a2 a3 a4 a5 a6 a7 z1.1, wB g a1 z2.2, wH g a4 z1.2.1, wJ g a5 z1.2.2]) (rest := []) hx hb hml hown hts hK hE hA hl hP hD hS (c_X0_appendVehicle g l a1 b p0 z2 hz2) [1] [0, 2, 3] [0, 3, 1, 2] ⟨rfl, rfl, rfl, rfl, rfl, rfl, rfl⟩ ⟨0, 4, _, _, rfl, rfl, rfl⟩ 1 (jb_giV mw_961 mw_962 mw_963 mw_2 mw_964) ⟨rfl, rfl⟩ (by decide +kernel) ⟨⟨(Nat.le_of_ble_eq_true rfl), (Nat.le_of_ble_eq_true rfl)⟩, (Nat.le_of_ble_eq_true rfl), (Nat.le_of_ble_eq_true rfl)⟩ ⟨rfl, rfl⟩ (Nat.le_of_ble_eq_true rfl) dX4_enter_12 (fun H locs hP hD hS => ?_)
  cases hF
  rw [hQ]
  exact jx_iret hx hb hr rfl hlocks hP hD hS dX4_enter_15 rfl (Nat.le_of_ble_eq_true rfl) (Nat.le_of_ble_eq_true rfl)
def F_X4_pass (x : Xv) (b : Bv) (h : Hv) (j : Jv) (p0 : Int32) : Option ((Int32 × Xv × Bv × Hv × Jv) ⊕ (String × Xv × Bv × Hv × Jv)) := obx (F_X4_prepare x b h j 5 p0 0) (fun z1 => (F_X0_letHoursPass b p0).bind (fun z2 => some (.inl (z2.1, z1.1, z2.2, z1.2.1, z1.2.2)))) (fun z1 => some (.inr (z1.1, z1.2.1, b, z1.2.2.1, z1.2.2.2)))
set_option maxHeartbeats 4000000 in
set_option maxRecDepth 100000 in
theorem c_X4_pass (g : GG) (l : Launch) (hst : l.stackTraces = false) (a a1 a2 a3 a4 a5 a6 a7 : Nat → Nat) (x : Xv) (b : Bv) (h : Hv) (j : Jv) (p0 : Int32) (z : (Int32 × Xv × Bv × Hv × Jv) ⊕ (String × Xv × Bv × Hv × Jv)) (hF : F_X4_pass x b h j p0 = some z) : MX g l yX4_pass cX4_pass 2 (some .int) ({ frames := 7, cells := 1, slots := 6, locals := 166 } : Room) [.ref (a 0), .int p0] [wX g a a1 a2 a3 a4 a5 a6 a7 x, wB g a1 b, wH g a4 h, wJ g a5 j] 1 6 (Sum.elim (fun y => .inl (some (.int y.1), [wX g a a1 a2 a3 a4 a5 a6 a7 y.2.1, wB g a1 y.2.2.1, wH g a4 y.2.2.2.1, wJ g a5 y.2.2.2.2])) (fun y => .inr (y.1, [wX g a a1 a2 a3 a4 a5 a6 a7 y.2.1, wB g a1 y.2.2.1, wH g a4 y.2.2.2.1, wJ g a5 y.2.2.2.2])) z) := by
  refine MX.bg (by decide) (Nat.le_of_ble_eq_true rfl) ?_
  intro p e s m below meth c A Q hQ hx hb hr hml hown hts hlocks htab hK hE hA hP hD hS ls hl
  rw [F_X4_pass] at hF
  have hl : lv_has ls 2 [(0, .ref (a 0)), (1, .int p0)] := hl
  refine lv_aload_n hx hb dX4_pass_0 rfl (lv_at hl 0 rfl) ?_
  refine lv_iconst (v := 5) hx hb dX4_pass_1 (by decide) ?_
  refine lv_iload_n hx hb dX4_pass_2 rfl (lv_at hl 1 rfl) ?_
  refine lv_iconst (v := 0) hx hb dX4_pass_3 (by decide) ?_
  rcases ob_bx hF with ⟨z1, hz1, hF⟩ | ⟨z1, hz1, hF⟩
  rotate_left
  · refine cx_x (csR := []) (csF := [wX g a a1 a2 a3 a4 a5 a6 a7 z1.2.1, wB g a1 b, wH g a4 z1.2.2.1, wJ g a5 z1.2.2.2]) (rest := []) hx hb hml hown hts hK hE hA hl hP hD hS (c_X4_prepare g l hst a a1 a2 a3 a4 a5 a6 a7 x b h j 5 p0 0 (.inr z1) hz1) [0, 1, 2, 3] [] [0, 1, 2, 3] ⟨rfl, rfl, rfl, rfl, rfl, rfl, rfl⟩ ⟨0, 8, _, _, rfl, rfl, rfl⟩ 3 (jb_giV mw_722 mw_724 ms_1 mw_1 mw_725) ⟨rfl, rfl⟩ (by decide +kernel) ⟨⟨(Nat.le_of_ble_eq_true rfl), (Nat.le_of_ble_eq_true rfl)⟩, (Nat.le_of_ble_eq_true rfl), (Nat.le_of_ble_eq_true rfl)⟩ ⟨rfl, rfl⟩ (Nat.le_of_ble_eq_true rfl) dX4_pass_4 (fun H locs q9 ce hP hD hS h1 h2 h3 => ?_)
    cases hF
    rw [hQ]
    exact jx_out htab hlocks hP hD hS h1 h2 h3 rfl (Nat.le_of_ble_eq_true rfl) (Nat.le_of_ble_eq_true rfl)
  refine cx_n (csR := []) (csF := [wX g a a1 a2 a3 a4 a5 a6 a7 z1.1, wB g a1 b, wH g a4 z1.2.1, wJ g a5 z1.2.2]) (rest := []) hx hb hml hown hts hK hE hA hl hP hD hS (c_X4_prepare g l hst a a1 a2 a3 a4 a5 a6 a7 x b h j 5 p0 0 (.inl z1) hz1) [0, 1, 2, 3] [] [0, 1, 2, 3] ⟨rfl, rfl, rfl, rfl, rfl, rfl, rfl⟩ ⟨0, 8, _, _, rfl, rfl, rfl⟩ 3 (jb_giV mw_722 mw_724 ms_1 mw_1 mw_725) ⟨rfl, rfl⟩ (by decide +kernel) ⟨⟨(Nat.le_of_ble_eq_true rfl), (Nat.le_of_ble_eq_true rfl)⟩, (Nat.le_of_ble_eq_true rfl), (Nat.le_of_ble_eq_true rfl)⟩ ⟨rfl, rfl⟩ (Nat.le_of_ble_eq_true rfl) dX4_pass_4 (fun H locs hP hD hS => ?_)
  refine W.eq (g2 := F0 m 7 ls []) rfl ?_
  refine lv_aload_n hx hb dX4_pass_7 rfl (lv_at hl 0 rfl) ?_
  refine va_get (D := g.1) (ci := 8) (v := .ref (a1 0)) (C := RX4) (T := TX4) (N := 12) hx hb hts inX4 hown hK hP 0 rfl rfl 0 (by decide) (hts _ mw_223) (fun _ h9 => h9) rfl dX4_pass_8 ?_
  refine lv_iload_n hx hb dX4_pass_11 rfl (lv_at hl 1 rfl) ?_
  obtain ⟨z2, hz2, hF⟩ := ob_bind hF
  refine cl_i (csR := [wX g a a1 a2 a3 a4 a5 a6 a7 z1.1, wH g a4 z1.2.1, wJ g a5 z1.2.2]) (csF := [wX g a a1 a2 a3 a4 a5 a6 a7 z1.1, wB g a1 z2.2, wH g a4 z1.2.1, wJ g a5 z1.2.2]) (rest := []) hx hb hml hown hts hK hE hA hl hP hD hS (c_X0_letHoursPass g l a1 b p0 z2 hz2) [1] [0, 2, 3] [0, 3, 1, 2] ⟨rfl, rfl, rfl, rfl, rfl, rfl, rfl⟩ ⟨0, 4, _, _, rfl, rfl, rfl⟩ 1 (jb_giV mw_972 mw_973 mw_974 mw_2 mw_975) ⟨rfl, rfl⟩ (by decide +kernel) ⟨⟨(Nat.le_of_ble_eq_true rfl), (Nat.le_of_ble_eq_true rfl)⟩, (Nat.le_of_ble_eq_true rfl), (Nat.le_of_ble_eq_true rfl)⟩ ⟨rfl, rfl⟩ (Nat.le_of_ble_eq_true rfl) dX4_pass_12 (fun H locs hP hD hS => ?_)
  cases hF
  rw [hQ]
  exact jx_iret hx hb hr rfl hlocks hP hD hS dX4_pass_15 rfl (Nat.le_of_ble_eq_true rfl) (Nat.le_of_ble_eq_true rfl)
def F_X4_setRate (x : Xv) (b : Bv) (h : Hv) (j : Jv) (p0 : Int32) : Option ((Int32 × Xv × Bv × Hv × Jv) ⊕ (String × Xv × Bv × Hv × Jv)) := obx (F_X4_prepare x b h j 4 p0 0) (fun z1 => (F_X0_replaceRate b p0).bind (fun z2 => some (.inl (z2.1, z1.1, z2.2, z1.2.1, z1.2.2)))) (fun z1 => some (.inr (z1.1, z1.2.1, b, z1.2.2.1, z1.2.2.2)))
set_option maxHeartbeats 4000000 in
set_option maxRecDepth 100000 in
theorem c_X4_setRate (g : GG) (l : Launch) (hst : l.stackTraces = false) (a a1 a2 a3 a4 a5 a6 a7 : Nat → Nat) (x : Xv) (b : Bv) (h : Hv) (j : Jv) (p0 : Int32) (z : (Int32 × Xv × Bv × Hv × Jv) ⊕ (String × Xv × Bv × Hv × Jv)) (hF : F_X4_setRate x b h j p0 = some z) : MX g l yX4_setRate cX4_setRate 2 (some .int) ({ frames := 7, cells := 1, slots := 6, locals := 166 } : Room) [.ref (a 0), .int p0] [wX g a a1 a2 a3 a4 a5 a6 a7 x, wB g a1 b, wH g a4 h, wJ g a5 j] 1 6 (Sum.elim (fun y => .inl (some (.int y.1), [wX g a a1 a2 a3 a4 a5 a6 a7 y.2.1, wB g a1 y.2.2.1, wH g a4 y.2.2.2.1, wJ g a5 y.2.2.2.2])) (fun y => .inr (y.1, [wX g a a1 a2 a3 a4 a5 a6 a7 y.2.1, wB g a1 y.2.2.1, wH g a4 y.2.2.2.1, wJ g a5 y.2.2.2.2])) z) := by
  refine MX.bg (by decide) (Nat.le_of_ble_eq_true rfl) ?_
  intro p e s m below meth c A Q hQ hx hb hr hml hown hts hlocks htab hK hE hA hP hD hS ls hl
  rw [F_X4_setRate] at hF
  have hl : lv_has ls 2 [(0, .ref (a 0)), (1, .int p0)] := hl
  refine lv_aload_n hx hb dX4_setRate_0 rfl (lv_at hl 0 rfl) ?_
  refine lv_iconst (v := 4) hx hb dX4_setRate_1 (by decide) ?_
  refine lv_iload_n hx hb dX4_setRate_2 rfl (lv_at hl 1 rfl) ?_
  refine lv_iconst (v := 0) hx hb dX4_setRate_3 (by decide) ?_
  rcases ob_bx hF with ⟨z1, hz1, hF⟩ | ⟨z1, hz1, hF⟩
  rotate_left
  · refine cx_x (csR := []) (csF := [wX g a a1 a2 a3 a4 a5 a6 a7 z1.2.1, wB g a1 b, wH g a4 z1.2.2.1, wJ g a5 z1.2.2.2]) (rest := []) hx hb hml hown hts hK hE hA hl hP hD hS (c_X4_prepare g l hst a a1 a2 a3 a4 a5 a6 a7 x b h j 4 p0 0 (.inr z1) hz1) [0, 1, 2, 3] [] [0, 1, 2, 3] ⟨rfl, rfl, rfl, rfl, rfl, rfl, rfl⟩ ⟨0, 8, _, _, rfl, rfl, rfl⟩ 3 (jb_giV mw_722 mw_724 ms_1 mw_1 mw_725) ⟨rfl, rfl⟩ (by decide +kernel) ⟨⟨(Nat.le_of_ble_eq_true rfl), (Nat.le_of_ble_eq_true rfl)⟩, (Nat.le_of_ble_eq_true rfl), (Nat.le_of_ble_eq_true rfl)⟩ ⟨rfl, rfl⟩ (Nat.le_of_ble_eq_true rfl) dX4_setRate_4 (fun H locs q9 ce hP hD hS h1 h2 h3 => ?_)
    cases hF
    rw [hQ]
    exact jx_out htab hlocks hP hD hS h1 h2 h3 rfl (Nat.le_of_ble_eq_true rfl) (Nat.le_of_ble_eq_true rfl)
  refine cx_n (csR := []) (csF := [wX g a a1 a2 a3 a4 a5 a6 a7 z1.1, wB g a1 b, wH g a4 z1.2.1, wJ g a5 z1.2.2]) (rest := []) hx hb hml hown hts hK hE hA hl hP hD hS (c_X4_prepare g l hst a a1 a2 a3 a4 a5 a6 a7 x b h j 4 p0 0 (.inl z1) hz1) [0, 1, 2, 3] [] [0, 1, 2, 3] ⟨rfl, rfl, rfl, rfl, rfl, rfl, rfl⟩ ⟨0, 8, _, _, rfl, rfl, rfl⟩ 3 (jb_giV mw_722 mw_724 ms_1 mw_1 mw_725) ⟨rfl, rfl⟩ (by decide +kernel) ⟨⟨(Nat.le_of_ble_eq_true rfl), (Nat.le_of_ble_eq_true rfl)⟩, (Nat.le_of_ble_eq_true rfl), (Nat.le_of_ble_eq_true rfl)⟩ ⟨rfl, rfl⟩ (Nat.le_of_ble_eq_true rfl) dX4_setRate_4 (fun H locs hP hD hS => ?_)
  refine W.eq (g2 := F0 m 7 ls []) rfl ?_
  refine lv_aload_n hx hb dX4_setRate_7 rfl (lv_at hl 0 rfl) ?_
  refine va_get (D := g.1) (ci := 8) (v := .ref (a1 0)) (C := RX4) (T := TX4) (N := 12) hx hb hts inX4 hown hK hP 0 rfl rfl 0 (by decide) (hts _ mw_223) (fun _ h9 => h9) rfl dX4_setRate_8 ?_
  refine lv_iload_n hx hb dX4_setRate_11 rfl (lv_at hl 1 rfl) ?_
  obtain ⟨z2, hz2, hF⟩ := ob_bind hF
  refine cl_i (csR := [wX g a a1 a2 a3 a4 a5 a6 a7 z1.1, wH g a4 z1.2.1, wJ g a5 z1.2.2]) (csF := [wX g a a1 a2 a3 a4 a5 a6 a7 z1.1, wB g a1 z2.2, wH g a4 z1.2.1, wJ g a5 z1.2.2]) (rest := []) hx hb hml hown hts hK hE hA hl hP hD hS (c_X0_replaceRate g l a1 b p0 z2 hz2) [1] [0, 2, 3] [0, 3, 1, 2] ⟨rfl, rfl, rfl, rfl, rfl, rfl, rfl⟩ ⟨0, 4, _, _, rfl, rfl, rfl⟩ 1 (jb_giV mw_1033 mw_1034 mw_1035 mw_2 mw_1036) ⟨rfl, rfl⟩ (by decide +kernel) ⟨⟨(Nat.le_of_ble_eq_true rfl), (Nat.le_of_ble_eq_true rfl)⟩, (Nat.le_of_ble_eq_true rfl), (Nat.le_of_ble_eq_true rfl)⟩ ⟨rfl, rfl⟩ (Nat.le_of_ble_eq_true rfl) dX4_setRate_12 (fun H locs hP hD hS => ?_)
  cases hF
  rw [hQ]
  exact jx_iret hx hb hr rfl hlocks hP hD hS dX4_setRate_15 rfl (Nat.le_of_ble_eq_true rfl) (Nat.le_of_ble_eq_true rfl)
def F_X4_spanCount (x : Xv) (b : Bv) : Option (Int32) := some (B_spans b)
set_option maxHeartbeats 4000000 in
set_option maxRecDepth 100000 in
theorem c_X4_spanCount (g : GG) (l : Launch) (a a1 a2 a3 a4 a5 a6 a7 : Nat → Nat) (x : Xv) (b : Bv) (z : Int32) (hF : F_X4_spanCount x b = some z) : MI g l yX4_spanCount cX4_spanCount 1 (some .int) ({ frames := 0, cells := 0, slots := 0, locals := 0 } : Room) [.ref (a 0)] [wX g a a1 a2 a3 a4 a5 a6 a7 x, wB g a1 b] 0 0 z [wX g a a1 a2 a3 a4 a5 a6 a7 x, wB g a1 b] := by
  refine MI.bg (by decide) (Nat.le_of_ble_eq_true rfl) ?_
  intro p e s m below meth c A Q hQ hx hb hr hml hown hts hlocks hmn hK hE hA hP hD hS ls hl
  rw [F_X4_spanCount] at hF
  have hl : lv_has ls 1 [(0, .ref (a 0))] := hl
  refine lv_aload_n hx hb dX4_spanCount_0 rfl (lv_at hl 0 rfl) ?_
  refine va_get (D := g.1) (ci := 8) (v := .ref (a1 0)) (C := RX4) (T := TX4) (N := 12) hx hb hts inX4 hown hK hP 0 rfl rfl 0 (by decide) (hts _ mw_223) (fun _ h9 => h9) rfl dX4_spanCount_1 ?_
  refine va_getN (D := g.1) (ci := 4) (v := .int (B_spans b)) (C := RX0) (T := TX0) (N := 17) hx hb hts inX0 hown hK hP 1 rfl rfl 0 (by decide) (hE.nf 1 rfl) (fun _ h9 => h9) rfl dX4_spanCount_4 ?_
  cases hF
  rw [hQ]
  exact jb_iret hx hb hr hlocks hP hD hS dX4_spanCount_7 rfl (Nat.le_of_ble_eq_true rfl) (Nat.le_of_ble_eq_true rfl)
def F_X4_vehicleCount (x : Xv) (b : Bv) : Option (Int32) := some (B_vehicles b)
set_option maxHeartbeats 4000000 in
set_option maxRecDepth 100000 in
theorem c_X4_vehicleCount (g : GG) (l : Launch) (a a1 a2 a3 a4 a5 a6 a7 : Nat → Nat) (x : Xv) (b : Bv) (z : Int32) (hF : F_X4_vehicleCount x b = some z) : MI g l yX4_vehicleCount cX4_vehicleCount 1 (some .int) ({ frames := 0, cells := 0, slots := 0, locals := 0 } : Room) [.ref (a 0)] [wX g a a1 a2 a3 a4 a5 a6 a7 x, wB g a1 b] 0 0 z [wX g a a1 a2 a3 a4 a5 a6 a7 x, wB g a1 b] := by
  refine MI.bg (by decide) (Nat.le_of_ble_eq_true rfl) ?_
  intro p e s m below meth c A Q hQ hx hb hr hml hown hts hlocks hmn hK hE hA hP hD hS ls hl
  rw [F_X4_vehicleCount] at hF
  have hl : lv_has ls 1 [(0, .ref (a 0))] := hl
  refine lv_aload_n hx hb dX4_vehicleCount_0 rfl (lv_at hl 0 rfl) ?_
  refine va_get (D := g.1) (ci := 8) (v := .ref (a1 0)) (C := RX4) (T := TX4) (N := 12) hx hb hts inX4 hown hK hP 0 rfl rfl 0 (by decide) (hts _ mw_223) (fun _ h9 => h9) rfl dX4_vehicleCount_1 ?_
  refine va_getN (D := g.1) (ci := 4) (v := .int (B_vehicles b)) (C := RX0) (T := TX0) (N := 17) hx hb hts inX0 hown hK hP 1 rfl rfl 6 (by decide) (hE.nf 10 rfl) (fun _ h9 => h9) rfl dX4_vehicleCount_4 ?_
  cases hF
  rw [hQ]
  exact jb_iret hx hb hr hlocks hP hD hS dX4_vehicleCount_7 rfl (Nat.le_of_ble_eq_true rfl) (Nat.le_of_ble_eq_true rfl)
def F_X4_hour (x : Xv) (b : Bv) : Option (Int32) := some (B_hour b)
set_option maxHeartbeats 4000000 in
set_option maxRecDepth 100000 in
theorem c_X4_hour (g : GG) (l : Launch) (a a1 a2 a3 a4 a5 a6 a7 : Nat → Nat) (x : Xv) (b : Bv) (z : Int32) (hF : F_X4_hour x b = some z) : MI g l yX4_hour cX4_hour 1 (some .int) ({ frames := 0, cells := 0, slots := 0, locals := 0 } : Room) [.ref (a 0)] [wX g a a1 a2 a3 a4 a5 a6 a7 x, wB g a1 b] 0 0 z [wX g a a1 a2 a3 a4 a5 a6 a7 x, wB g a1 b] := by
  refine MI.bg (by decide) (Nat.le_of_ble_eq_true rfl) ?_
  intro p e s m below meth c A Q hQ hx hb hr hml hown hts hlocks hmn hK hE hA hP hD hS ls hl
  rw [F_X4_hour] at hF
  have hl : lv_has ls 1 [(0, .ref (a 0))] := hl
  refine lv_aload_n hx hb dX4_hour_0 rfl (lv_at hl 0 rfl) ?_
  refine va_get (D := g.1) (ci := 8) (v := .ref (a1 0)) (C := RX4) (T := TX4) (N := 12) hx hb hts inX4 hown hK hP 0 rfl rfl 0 (by decide) (hts _ mw_223) (fun _ h9 => h9) rfl dX4_hour_1 ?_
  refine va_getN (D := g.1) (ci := 4) (v := .int (B_hour b)) (C := RX0) (T := TX0) (N := 17) hx hb hts inX0 hown hK hP 1 rfl rfl 11 (by decide) (hE.nf 15 rfl) (fun _ h9 => h9) rfl dX4_hour_4 ?_
  cases hF
  rw [hQ]
  exact jb_iret hx hb hr hlocks hP hD hS dX4_hour_7 rfl (Nat.le_of_ble_eq_true rfl) (Nat.le_of_ble_eq_true rfl)
def F_X4_rate (x : Xv) (b : Bv) : Option (Int32) := some (B_rate b)
set_option maxHeartbeats 4000000 in
set_option maxRecDepth 100000 in
theorem c_X4_rate (g : GG) (l : Launch) (a a1 a2 a3 a4 a5 a6 a7 : Nat → Nat) (x : Xv) (b : Bv) (z : Int32) (hF : F_X4_rate x b = some z) : MI g l yX4_rate cX4_rate 1 (some .int) ({ frames := 0, cells := 0, slots := 0, locals := 0 } : Room) [.ref (a 0)] [wX g a a1 a2 a3 a4 a5 a6 a7 x, wB g a1 b] 0 0 z [wX g a a1 a2 a3 a4 a5 a6 a7 x, wB g a1 b] := by
  refine MI.bg (by decide) (Nat.le_of_ble_eq_true rfl) ?_
  intro p e s m below meth c A Q hQ hx hb hr hml hown hts hlocks hmn hK hE hA hP hD hS ls hl
  rw [F_X4_rate] at hF
  have hl : lv_has ls 1 [(0, .ref (a 0))] := hl
  refine lv_aload_n hx hb dX4_rate_0 rfl (lv_at hl 0 rfl) ?_
  refine va_get (D := g.1) (ci := 8) (v := .ref (a1 0)) (C := RX4) (T := TX4) (N := 12) hx hb hts inX4 hown hK hP 0 rfl rfl 0 (by decide) (hts _ mw_223) (fun _ h9 => h9) rfl dX4_rate_1 ?_
  refine va_getN (D := g.1) (ci := 4) (v := .int (B_rate b)) (C := RX0) (T := TX0) (N := 17) hx hb hts inX0 hown hK hP 1 rfl rfl 12 (by decide) (hE.nf 17 rfl) (fun _ h9 => h9) rfl dX4_rate_4 ?_
  cases hF
  rw [hQ]
  exact jb_iret hx hb hr hlocks hP hD hS dX4_rate_7 rfl (Nat.le_of_ble_eq_true rfl) (Nat.le_of_ble_eq_true rfl)
def F_X4_till (x : Xv) (b : Bv) : Option (Int32) := some (B_till b)
set_option maxHeartbeats 4000000 in
set_option maxRecDepth 100000 in
theorem c_X4_till (g : GG) (l : Launch) (a a1 a2 a3 a4 a5 a6 a7 : Nat → Nat) (x : Xv) (b : Bv) (z : Int32) (hF : F_X4_till x b = some z) : MI g l yX4_till cX4_till 1 (some .int) ({ frames := 0, cells := 0, slots := 0, locals := 0 } : Room) [.ref (a 0)] [wX g a a1 a2 a3 a4 a5 a6 a7 x, wB g a1 b] 0 0 z [wX g a a1 a2 a3 a4 a5 a6 a7 x, wB g a1 b] := by
  refine MI.bg (by decide) (Nat.le_of_ble_eq_true rfl) ?_
  intro p e s m below meth c A Q hQ hx hb hr hml hown hts hlocks hmn hK hE hA hP hD hS ls hl
  rw [F_X4_till] at hF
  have hl : lv_has ls 1 [(0, .ref (a 0))] := hl
  refine lv_aload_n hx hb dX4_till_0 rfl (lv_at hl 0 rfl) ?_
  refine va_get (D := g.1) (ci := 8) (v := .ref (a1 0)) (C := RX4) (T := TX4) (N := 12) hx hb hts inX4 hown hK hP 0 rfl rfl 0 (by decide) (hts _ mw_223) (fun _ h9 => h9) rfl dX4_till_1 ?_
  refine va_getN (D := g.1) (ci := 4) (v := .int (B_till b)) (C := RX0) (T := TX0) (N := 17) hx hb hts inX0 hown hK hP 1 rfl rfl 13 (by decide) (hE.nf 19 rfl) (fun _ h9 => h9) rfl dX4_till_4 ?_
  cases hF
  rw [hQ]
  exact jb_iret hx hb hr hlocks hP hD hS dX4_till_7 rfl (Nat.le_of_ble_eq_true rfl) (Nat.le_of_ble_eq_true rfl)
def F_X4_paidTolls (x : Xv) (b : Bv) : Option (Int32) := some (B_paid b)
set_option maxHeartbeats 4000000 in
set_option maxRecDepth 100000 in
theorem c_X4_paidTolls (g : GG) (l : Launch) (a a1 a2 a3 a4 a5 a6 a7 : Nat → Nat) (x : Xv) (b : Bv) (z : Int32) (hF : F_X4_paidTolls x b = some z) : MI g l yX4_paidTolls cX4_paidTolls 1 (some .int) ({ frames := 0, cells := 0, slots := 0, locals := 0 } : Room) [.ref (a 0)] [wX g a a1 a2 a3 a4 a5 a6 a7 x, wB g a1 b] 0 0 z [wX g a a1 a2 a3 a4 a5 a6 a7 x, wB g a1 b] := by
  refine MI.bg (by decide) (Nat.le_of_ble_eq_true rfl) ?_
  intro p e s m below meth c A Q hQ hx hb hr hml hown hts hlocks hmn hK hE hA hP hD hS ls hl
  rw [F_X4_paidTolls] at hF
  have hl : lv_has ls 1 [(0, .ref (a 0))] := hl
  refine lv_aload_n hx hb dX4_paidTolls_0 rfl (lv_at hl 0 rfl) ?_
  refine va_get (D := g.1) (ci := 8) (v := .ref (a1 0)) (C := RX4) (T := TX4) (N := 12) hx hb hts inX4 hown hK hP 0 rfl rfl 0 (by decide) (hts _ mw_223) (fun _ h9 => h9) rfl dX4_paidTolls_1 ?_
  refine va_getN (D := g.1) (ci := 4) (v := .int (B_paid b)) (C := RX0) (T := TX0) (N := 17) hx hb hts inX0 hown hK hP 1 rfl rfl 14 (by decide) (hE.nf 20 rfl) (fun _ h9 => h9) rfl dX4_paidTolls_4 ?_
  cases hF
  rw [hQ]
  exact jb_iret hx hb hr hlocks hP hD hS dX4_paidTolls_7 rfl (Nat.le_of_ble_eq_true rfl) (Nat.le_of_ble_eq_true rfl)
def F_X4_crossed (x : Xv) (b : Bv) : Option (Int32) := some (B_crossed b)
set_option maxHeartbeats 4000000 in
set_option maxRecDepth 100000 in
theorem c_X4_crossed (g : GG) (l : Launch) (a a1 a2 a3 a4 a5 a6 a7 : Nat → Nat) (x : Xv) (b : Bv) (z : Int32) (hF : F_X4_crossed x b = some z) : MI g l yX4_crossed cX4_crossed 1 (some .int) ({ frames := 0, cells := 0, slots := 0, locals := 0 } : Room) [.ref (a 0)] [wX g a a1 a2 a3 a4 a5 a6 a7 x, wB g a1 b] 0 0 z [wX g a a1 a2 a3 a4 a5 a6 a7 x, wB g a1 b] := by
  refine MI.bg (by decide) (Nat.le_of_ble_eq_true rfl) ?_
  intro p e s m below meth c A Q hQ hx hb hr hml hown hts hlocks hmn hK hE hA hP hD hS ls hl
  rw [F_X4_crossed] at hF
  have hl : lv_has ls 1 [(0, .ref (a 0))] := hl
  refine lv_aload_n hx hb dX4_crossed_0 rfl (lv_at hl 0 rfl) ?_
  refine va_get (D := g.1) (ci := 8) (v := .ref (a1 0)) (C := RX4) (T := TX4) (N := 12) hx hb hts inX4 hown hK hP 0 rfl rfl 0 (by decide) (hts _ mw_223) (fun _ h9 => h9) rfl dX4_crossed_1 ?_
  refine va_getN (D := g.1) (ci := 4) (v := .int (B_crossed b)) (C := RX0) (T := TX0) (N := 17) hx hb hts inX0 hown hK hP 1 rfl rfl 15 (by decide) (hE.nf 21 rfl) (fun _ h9 => h9) rfl dX4_crossed_4 ?_
  cases hF
  rw [hQ]
  exact jb_iret hx hb hr hlocks hP hD hS dX4_crossed_7 rfl (Nat.le_of_ble_eq_true rfl) (Nat.le_of_ble_eq_true rfl)
def F_X4_sunk (x : Xv) (b : Bv) : Option (Int32) := some (B_sunk b)
set_option maxHeartbeats 4000000 in
set_option maxRecDepth 100000 in
theorem c_X4_sunk (g : GG) (l : Launch) (a a1 a2 a3 a4 a5 a6 a7 : Nat → Nat) (x : Xv) (b : Bv) (z : Int32) (hF : F_X4_sunk x b = some z) : MI g l yX4_sunk cX4_sunk 1 (some .int) ({ frames := 0, cells := 0, slots := 0, locals := 0 } : Room) [.ref (a 0)] [wX g a a1 a2 a3 a4 a5 a6 a7 x, wB g a1 b] 0 0 z [wX g a a1 a2 a3 a4 a5 a6 a7 x, wB g a1 b] := by
  refine MI.bg (by decide) (Nat.le_of_ble_eq_true rfl) ?_
  intro p e s m below meth c A Q hQ hx hb hr hml hown hts hlocks hmn hK hE hA hP hD hS ls hl
  rw [F_X4_sunk] at hF
  have hl : lv_has ls 1 [(0, .ref (a 0))] := hl
  refine lv_aload_n hx hb dX4_sunk_0 rfl (lv_at hl 0 rfl) ?_
  refine va_get (D := g.1) (ci := 8) (v := .ref (a1 0)) (C := RX4) (T := TX4) (N := 12) hx hb hts inX4 hown hK hP 0 rfl rfl 0 (by decide) (hts _ mw_223) (fun _ h9 => h9) rfl dX4_sunk_1 ?_
  refine va_getN (D := g.1) (ci := 4) (v := .int (B_sunk b)) (C := RX0) (T := TX0) (N := 17) hx hb hts inX0 hown hK hP 1 rfl rfl 16 (by decide) (hE.nf 22 rfl) (fun _ h9 => h9) rfl dX4_sunk_4 ?_
  cases hF
  rw [hQ]
  exact jb_iret hx hb hr hlocks hP hD hS dX4_sunk_7 rfl (Nat.le_of_ble_eq_true rfl) (Nat.le_of_ble_eq_true rfl)
def F_X4_totalLoad_L4 (x : Xv) (b : Bv) (k : Int32 → Int32 → Option (Int32)) : Nat → Int32 → Int32 → Option (Int32)
  | 0, _, _ => none
  | n + 1, x1, x2 => if (B_spans b) ≤ x2 then k x1 x2 else (F_X0_loadOf b x2).bind (fun z1 => F_X4_totalLoad_L4 x b k n (x1 + z1) (x2 + 1))
def F_X4_totalLoad (x : Xv) (b : Bv) : Option (Int32) := F_X4_totalLoad_L4 x b (fun x2 x3 => some x2) 1000 0 0
set_option maxHeartbeats 4000000 in
set_option maxRecDepth 100000 in
theorem c_X4_totalLoad (g : GG) (l : Launch) (a a1 a2 a3 a4 a5 a6 a7 : Nat → Nat) (x : Xv) (b : Bv) (z : Int32) (hF : F_X4_totalLoad x b = some z) : MI g l yX4_totalLoad cX4_totalLoad 3 (some .int) ({ frames := 1, cells := 0, slots := 0, locals := 23 } : Room) [.ref (a 0)] [wX g a a1 a2 a3 a4 a5 a6 a7 x, wB g a1 b] 0 0 z [wX g a a1 a2 a3 a4 a5 a6 a7 x, wB g a1 b] := by
  refine MI.bg (by decide) (Nat.le_of_ble_eq_true rfl) ?_
  intro p e s m below meth c A Q hQ hx hb hr hml hown hts hlocks hmn hK hE hA hP hD hS ls hl
  rw [F_X4_totalLoad] at hF
  have hl : lv_has ls 3 [(0, .ref (a 0))] := hl
  refine lv_iconst (v := 0) hx hb dX4_totalLoad_0 (by decide) ?_
  refine lv_istore_n (lv' := [(1, .int 0), (0, .ref (a 0))]) hx hb dX4_totalLoad_1 rfl hl (by decide) rfl (fun ls hl => ?_)
  refine lv_iconst (v := 0) hx hb dX4_totalLoad_2 (by decide) ?_
  refine lv_istore_n (lv' := [(2, .int 0), (1, .int 0), (0, .ref (a 0))]) hx hb dX4_totalLoad_3 rfl hl (by decide) rfl (fun ls hl => ?_)
  obtain ⟨k2, ek2, hF⟩ := ob_k (F := fun k9 => F_X4_totalLoad_L4 x b k9 1000 0 0) hF
  have loop2 : ∀ (n9 : Nat) (x1 : Int32) (x2 : Int32), F_X4_totalLoad_L4 x b k2 n9 x1 x2 = some z → ∀ (H : Heap) (locs : List Loc), va_P g.1 vwCl ([wX g a a1 a2 a3 a4 a5 a6 a7 x, wB g a1 b] : List va_W).flatten H → va_D A ([wX g a a1 a2 a3 a4 a5 a6 a7 x, wB g a1 b] : List va_W).flatten → va_S A s.heap H locs → ∀ ls : Array Slot, lv_has ls 3 [(0, .ref (a 0)), (1, .int x1), (2, .int x2)] → W p l e ({ frames := 1, cells := 0, slots := 0, locals := 23 } : Room) s m ([.ref (a 0)] : List Value).toArray below meth c H locs 0 0 Q (F0 m 4 ls []) := by
    intro n9
    induction n9 with
    | zero => intro x1 x2 hF; rw [F_X4_totalLoad_L4] at hF; cases hF
    | succ n9 ih2 =>
      intro x1 x2 hF H locs hP hD hS ls hl
      rw [F_X4_totalLoad_L4] at hF
      refine lv_iload_n hx hb dX4_totalLoad_4 rfl (lv_at hl 2 rfl) ?_
      refine lv_aload_n hx hb dX4_totalLoad_5 rfl (lv_at hl 0 rfl) ?_
      refine va_get (D := g.1) (ci := 8) (v := .ref (a1 0)) (C := RX4) (T := TX4) (N := 12) hx hb hts inX4 hown hK hP 0 rfl rfl 0 (by decide) (hts _ mw_223) (fun _ h9 => h9) rfl dX4_totalLoad_6 ?_
      refine va_getN (D := g.1) (ci := 4) (v := .int (B_spans b)) (C := RX0) (T := TX0) (N := 17) hx hb hts inX0 hown hK hP 1 rfl rfl 0 (by decide) (hE.nf 1 rfl) (fun _ h9 => h9) rfl dX4_totalLoad_9 ?_
      refine lv_icmp_ge (tgt := 32) hx hb dX4_totalLoad_12 (by decide) (fun c3 => ?_) (fun c3 => ?_)
      · have hF := ob_pos c3 hF
        rw [ek2] at hF
        refine lv_iload_n hx hb dX4_totalLoad_32 rfl (lv_at hl 1 rfl) ?_
        cases hF
        rw [hQ]
        exact jb_iret hx hb hr hlocks hP hD hS dX4_totalLoad_33 rfl (Nat.le_of_ble_eq_true rfl) (Nat.le_of_ble_eq_true rfl)
      · have hF := ob_neg c3 hF
        refine lv_iload_n hx hb dX4_totalLoad_15 rfl (lv_at hl 1 rfl) ?_
        refine lv_aload_n hx hb dX4_totalLoad_16 rfl (lv_at hl 0 rfl) ?_
        refine va_get (D := g.1) (ci := 8) (v := .ref (a1 0)) (C := RX4) (T := TX4) (N := 12) hx hb hts inX4 hown hK hP 0 rfl rfl 0 (by decide) (hts _ mw_223) (fun _ h9 => h9) rfl dX4_totalLoad_17 ?_
        refine lv_iload_n hx hb dX4_totalLoad_20 rfl (lv_at hl 2 rfl) ?_
        obtain ⟨z4, hz4, hF⟩ := ob_bind hF
        refine cl_i (csR := [wX g a a1 a2 a3 a4 a5 a6 a7 x]) (csF := [wX g a a1 a2 a3 a4 a5 a6 a7 x, wB g a1 b]) (rest := [.int x1]) hx hb hml hown hts hK hE hA hl hP hD hS (c_X0_loadOf g l a1 b x2 z4 hz4) [1] [0] [0, 1] ⟨rfl, rfl, rfl, rfl, rfl, rfl, rfl⟩ ⟨0, 4, _, _, rfl, rfl, rfl⟩ 1 (jb_giV mw_272 mw_273 mw_274 mw_2 mw_275) ⟨rfl, rfl⟩ (by decide +kernel) ⟨⟨(Nat.le_of_ble_eq_true rfl), (Nat.le_of_ble_eq_true rfl)⟩, (Nat.le_of_ble_eq_true rfl), (Nat.le_of_ble_eq_true rfl)⟩ ⟨rfl, rfl⟩ (Nat.le_of_ble_eq_true rfl) dX4_totalLoad_21 (fun H locs hP hD hS => ?_)
        refine lv_iadd hx hb dX4_totalLoad_24 ?_
        refine lv_istore_n (lv' := [(1, .int (x1 + z4)), (0, .ref (a 0)), (2, .int x2)]) hx hb dX4_totalLoad_25 rfl hl (by decide) rfl (fun ls hl => ?_)
        refine lv_iinc (v := x2 + 1) (lv' := [(2, .int (x2 + 1)), (1, .int (x1 + z4)), (0, .ref (a 0))]) hx hb dX4_totalLoad_26 hl (k := 2) rfl (by rfl) (by decide) rfl (fun ls hl => ?_)
        refine lv_goto (tgt := 4) hx hb dX4_totalLoad_29 (by decide) ?_
        exact ih2 _ _ hF _ _ hP hD hS ls (lv_sub hl [2, 1, 0] rfl)
  exact loop2 1000 _ _ hF _ _ hP hD hS ls (lv_sub hl [2, 1, 0] rfl)
def F_X4_totalLoadByVehicles_L4 (x : Xv) (b : Bv) (k : Int32 → Int32 → Option (Int32)) : Nat → Int32 → Int32 → Option (Int32)
  | 0, _, _ => none
  | n + 1, x1, x2 => if (B_vehicles b) ≤ x2 then k x1 x2 else ck (inb x2 8) (F_X4_totalLoadByVehicles_L4 x b k n (x1 + ((B_weights b) x2.toNatClampNeg)) (x2 + 1))
def F_X4_totalLoadByVehicles (x : Xv) (b : Bv) : Option (Int32) := F_X4_totalLoadByVehicles_L4 x b (fun x1 x2 => some x1) 1000 0 0
set_option maxHeartbeats 4000000 in
set_option maxRecDepth 100000 in
theorem c_X4_totalLoadByVehicles (g : GG) (l : Launch) (a a1 a2 a3 a4 a5 a6 a7 : Nat → Nat) (x : Xv) (b : Bv) (z : Int32) (hF : F_X4_totalLoadByVehicles x b = some z) : MI g l yX4_totalLoadByVehicles cX4_totalLoadByVehicles 3 (some .int) ({ frames := 0, cells := 0, slots := 0, locals := 0 } : Room) [.ref (a 0)] [wX g a a1 a2 a3 a4 a5 a6 a7 x, wB g a1 b] 0 0 z [wX g a a1 a2 a3 a4 a5 a6 a7 x, wB g a1 b] := by
  refine MI.bg (by decide) (Nat.le_of_ble_eq_true rfl) ?_
  intro p e s m below meth c A Q hQ hx hb hr hml hown hts hlocks hmn hK hE hA hP hD hS ls hl
  rw [F_X4_totalLoadByVehicles] at hF
  have hl : lv_has ls 3 [(0, .ref (a 0))] := hl
  refine lv_iconst (v := 0) hx hb dX4_totalLoadByVehicles_0 (by decide) ?_
  refine lv_istore_n (lv' := [(1, .int 0), (0, .ref (a 0))]) hx hb dX4_totalLoadByVehicles_1 rfl hl (by decide) rfl (fun ls hl => ?_)
  refine lv_iconst (v := 0) hx hb dX4_totalLoadByVehicles_2 (by decide) ?_
  refine lv_istore_n (lv' := [(2, .int 0), (1, .int 0), (0, .ref (a 0))]) hx hb dX4_totalLoadByVehicles_3 rfl hl (by decide) rfl (fun ls hl => ?_)
  obtain ⟨k2, ek2, hF⟩ := ob_k (F := fun k9 => F_X4_totalLoadByVehicles_L4 x b k9 1000 0 0) hF
  have loop2 : ∀ (n9 : Nat) (x1 : Int32) (x2 : Int32), F_X4_totalLoadByVehicles_L4 x b k2 n9 x1 x2 = some z → ∀ (H : Heap) (locs : List Loc), va_P g.1 vwCl ([wX g a a1 a2 a3 a4 a5 a6 a7 x, wB g a1 b] : List va_W).flatten H → va_D A ([wX g a a1 a2 a3 a4 a5 a6 a7 x, wB g a1 b] : List va_W).flatten → va_S A s.heap H locs → ∀ ls : Array Slot, lv_has ls 3 [(0, .ref (a 0)), (1, .int x1), (2, .int x2)] → W p l e ({ frames := 0, cells := 0, slots := 0, locals := 0 } : Room) s m ([.ref (a 0)] : List Value).toArray below meth c H locs 0 0 Q (F0 m 4 ls []) := by
    intro n9
    induction n9 with
    | zero => intro x1 x2 hF; rw [F_X4_totalLoadByVehicles_L4] at hF; cases hF
    | succ n9 ih2 =>
      intro x1 x2 hF H locs hP hD hS ls hl
      rw [F_X4_totalLoadByVehicles_L4] at hF
      refine lv_iload_n hx hb dX4_totalLoadByVehicles_4 rfl (lv_at hl 2 rfl) ?_
      refine lv_aload_n hx hb dX4_totalLoadByVehicles_5 rfl (lv_at hl 0 rfl) ?_
      refine va_get (D := g.1) (ci := 8) (v := .ref (a1 0)) (C := RX4) (T := TX4) (N := 12) hx hb hts inX4 hown hK hP 0 rfl rfl 0 (by decide) (hts _ mw_223) (fun _ h9 => h9) rfl dX4_totalLoadByVehicles_6 ?_
      refine va_getN (D := g.1) (ci := 4) (v := .int (B_vehicles b)) (C := RX0) (T := TX0) (N := 17) hx hb hts inX0 hown hK hP 1 rfl rfl 6 (by decide) (hE.nf 10 rfl) (fun _ h9 => h9) rfl dX4_totalLoadByVehicles_9 ?_
      refine lv_icmp_ge (tgt := 33) hx hb dX4_totalLoadByVehicles_12 (by decide) (fun c3 => ?_) (fun c3 => ?_)
      · have hF := ob_pos c3 hF
        rw [ek2] at hF
        refine lv_iload_n hx hb dX4_totalLoadByVehicles_33 rfl (lv_at hl 1 rfl) ?_
        cases hF
        rw [hQ]
        exact jb_iret hx hb hr hlocks hP hD hS dX4_totalLoadByVehicles_34 rfl (Nat.le_of_ble_eq_true rfl) (Nat.le_of_ble_eq_true rfl)
      · have hF := ob_neg c3 hF
        refine lv_iload_n hx hb dX4_totalLoadByVehicles_15 rfl (lv_at hl 1 rfl) ?_
        refine lv_aload_n hx hb dX4_totalLoadByVehicles_16 rfl (lv_at hl 0 rfl) ?_
        refine va_get (D := g.1) (ci := 8) (v := .ref (a1 0)) (C := RX4) (T := TX4) (N := 12) hx hb hts inX4 hown hK hP 0 rfl rfl 0 (by decide) (hts _ mw_223) (fun _ h9 => h9) rfl dX4_totalLoadByVehicles_17 ?_
        refine va_getN (D := g.1) (ci := 4) (v := .ref (a1 7)) (C := RX0) (T := TX0) (N := 17) hx hb hts inX0 hown hK hP 1 rfl rfl 8 (by decide) (hE.nf 12 rfl) (fun _ h9 => h9) rfl dX4_totalLoadByVehicles_20 ?_
        refine lv_iload_n hx hb dX4_totalLoadByVehicles_23 rfl (lv_at hl 2 rfl) ?_
        have h4 := inb_in (ck_t hF)
        have hF := ck_s hF
        refine va_iald hx hb hK hP 8 0 rfl rfl h4 dX4_totalLoadByVehicles_24 ?_
        refine lv_iadd hx hb dX4_totalLoadByVehicles_25 ?_
        refine lv_istore_n (lv' := [(1, .int (x1 + ((B_weights b) x2.toNatClampNeg))), (0, .ref (a 0)), (2, .int x2)]) hx hb dX4_totalLoadByVehicles_26 rfl hl (by decide) rfl (fun ls hl => ?_)
        refine lv_iinc (v := x2 + 1) (lv' := [(2, .int (x2 + 1)), (1, .int (x1 + ((B_weights b) x2.toNatClampNeg))), (0, .ref (a 0))]) hx hb dX4_totalLoadByVehicles_27 hl (k := 2) rfl (by rfl) (by decide) rfl (fun ls hl => ?_)
        refine lv_goto (tgt := 4) hx hb dX4_totalLoadByVehicles_30 (by decide) ?_
        exact ih2 _ _ hF _ _ hP hD hS ls (lv_sub hl [2, 1, 0] rfl)
  exact loop2 1000 _ _ hF _ _ hP hD hS ls (lv_sub hl [2, 1, 0] rfl)
def F_X4_greatestWeight (x : Xv) (b : Bv) : Option (Int32) := if (B_spans b) = 0 then some 0 else if (B_vehicles b) < 8 then (F_X0_strengthOf b 0).bind (fun z1 => (F_X0_loadOf b 0).bind (fun z2 => some (imax 0 (imin 99 (z1 - z2))))) else some 0
set_option maxHeartbeats 4000000 in
set_option maxRecDepth 100000 in
theorem c_X4_greatestWeight (g : GG) (l : Launch) (a a1 a2 a3 a4 a5 a6 a7 : Nat → Nat) (x : Xv) (b : Bv) (z : Int32) (hF : F_X4_greatestWeight x b = some z) : MI g l yX4_greatestWeight cX4_greatestWeight 1 (some .int) ({ frames := 2, cells := 0, slots := 0, locals := 43 } : Room) [.ref (a 0)] [wX g a a1 a2 a3 a4 a5 a6 a7 x, wB g a1 b] 0 0 z [wX g a a1 a2 a3 a4 a5 a6 a7 x, wB g a1 b] := by
  refine MI.bg (by decide) (Nat.le_of_ble_eq_true rfl) ?_
  intro p e s m below meth c A Q hQ hx hb hr hml hown hts hlocks hmn hK hE hA hP hD hS ls hl
  rw [F_X4_greatestWeight] at hF
  have hl : lv_has ls 1 [(0, .ref (a 0))] := hl
  refine lv_aload_n hx hb dX4_greatestWeight_0 rfl (lv_at hl 0 rfl) ?_
  refine va_get (D := g.1) (ci := 8) (v := .ref (a1 0)) (C := RX4) (T := TX4) (N := 12) hx hb hts inX4 hown hK hP 0 rfl rfl 0 (by decide) (hts _ mw_223) (fun _ h9 => h9) rfl dX4_greatestWeight_1 ?_
  refine va_getN (D := g.1) (ci := 4) (v := .int (B_spans b)) (C := RX0) (T := TX0) (N := 17) hx hb hts inX0 hown hK hP 1 rfl rfl 0 (by decide) (hE.nf 1 rfl) (fun _ h9 => h9) rfl dX4_greatestWeight_4 ?_
  refine lv_if_eq (tgt := 22) hx hb dX4_greatestWeight_7 (by decide) (fun c1 => ?_) (fun c1 => ?_)
  · have hF := ob_pos c1 hF
    refine lv_iconst (v := 0) hx hb dX4_greatestWeight_22 (by decide) ?_
    cases hF
    rw [hQ]
    exact jb_iret hx hb hr hlocks hP hD hS dX4_greatestWeight_23 rfl (Nat.le_of_ble_eq_true rfl) (Nat.le_of_ble_eq_true rfl)
  · have hF := ob_neg c1 hF
    refine lv_aload_n hx hb dX4_greatestWeight_10 rfl (lv_at hl 0 rfl) ?_
    refine va_get (D := g.1) (ci := 8) (v := .ref (a1 0)) (C := RX4) (T := TX4) (N := 12) hx hb hts inX4 hown hK hP 0 rfl rfl 0 (by decide) (hts _ mw_223) (fun _ h9 => h9) rfl dX4_greatestWeight_11 ?_
    refine va_getN (D := g.1) (ci := 4) (v := .int (B_vehicles b)) (C := RX0) (T := TX0) (N := 17) hx hb hts inX0 hown hK hP 1 rfl rfl 6 (by decide) (hE.nf 10 rfl) (fun _ h9 => h9) rfl dX4_greatestWeight_14 ?_
    refine lv_bipush (v := 8) hx hb dX4_greatestWeight_17 (by decide) ?_
    refine lv_icmp_lt (tgt := 24) hx hb dX4_greatestWeight_19 (by decide) (fun c2 => ?_) (fun c2 => ?_)
    · have hF := ob_pos c2 hF
      refine lv_iconst (v := 0) hx hb dX4_greatestWeight_24 (by decide) ?_
      refine lv_bipush (v := 99) hx hb dX4_greatestWeight_25 (by decide) ?_
      refine lv_aload_n hx hb dX4_greatestWeight_27 rfl (lv_at hl 0 rfl) ?_
      refine va_get (D := g.1) (ci := 8) (v := .ref (a1 0)) (C := RX4) (T := TX4) (N := 12) hx hb hts inX4 hown hK hP 0 rfl rfl 0 (by decide) (hts _ mw_223) (fun _ h9 => h9) rfl dX4_greatestWeight_28 ?_
      refine lv_iconst (v := 0) hx hb dX4_greatestWeight_31 (by decide) ?_
      obtain ⟨z3, hz3, hF⟩ := ob_bind hF
      refine cl_i (csR := [wX g a a1 a2 a3 a4 a5 a6 a7 x]) (csF := [wX g a a1 a2 a3 a4 a5 a6 a7 x, wB g a1 b]) (rest := [.int 99, .int 0]) hx hb hml hown hts hK hE hA hl hP hD hS (c_X0_strengthOf g l a1 b 0 z3 hz3) [1] [0] [0, 1] ⟨rfl, rfl, rfl, rfl, rfl, rfl, rfl⟩ ⟨0, 4, _, _, rfl, rfl, rfl⟩ 1 (jb_giV mw_284 mw_285 mw_286 mw_2 mw_287) ⟨rfl, rfl⟩ (by decide +kernel) ⟨⟨(Nat.le_of_ble_eq_true rfl), (Nat.le_of_ble_eq_true rfl)⟩, (Nat.le_of_ble_eq_true rfl), (Nat.le_of_ble_eq_true rfl)⟩ ⟨rfl, rfl⟩ (Nat.le_of_ble_eq_true rfl) dX4_greatestWeight_32 (fun H locs hP hD hS => ?_)
      refine lv_aload_n hx hb dX4_greatestWeight_35 rfl (lv_at hl 0 rfl) ?_
      refine va_get (D := g.1) (ci := 8) (v := .ref (a1 0)) (C := RX4) (T := TX4) (N := 12) hx hb hts inX4 hown hK hP 0 rfl rfl 0 (by decide) (hts _ mw_223) (fun _ h9 => h9) rfl dX4_greatestWeight_36 ?_
      refine lv_iconst (v := 0) hx hb dX4_greatestWeight_39 (by decide) ?_
      obtain ⟨z4, hz4, hF⟩ := ob_bind hF
      refine cl_i (csR := [wX g a a1 a2 a3 a4 a5 a6 a7 x]) (csF := [wX g a a1 a2 a3 a4 a5 a6 a7 x, wB g a1 b]) (rest := [.int z3, .int 99, .int 0]) hx hb hml hown hts hK hE hA hl hP hD hS (c_X0_loadOf g l a1 b 0 z4 hz4) [1] [0] [0, 1] ⟨rfl, rfl, rfl, rfl, rfl, rfl, rfl⟩ ⟨0, 4, _, _, rfl, rfl, rfl⟩ 1 (jb_giV mw_272 mw_273 mw_274 mw_2 mw_275) ⟨rfl, rfl⟩ (by decide +kernel) ⟨⟨(Nat.le_of_ble_eq_true rfl), (Nat.le_of_ble_eq_true rfl)⟩, (Nat.le_of_ble_eq_true rfl), (Nat.le_of_ble_eq_true rfl)⟩ ⟨rfl, rfl⟩ (Nat.le_of_ble_eq_true rfl) dX4_greatestWeight_40 (fun H locs hP hD hS => ?_)
      refine lv_isub hx hb dX4_greatestWeight_43 ?_
      refine va_mmin hx hb (hml.trans hl.1.symm) hown (hts _ mw_295) (hts _ mw_293) (hts _ mw_11) (hts _ mw_294) (Nat.le_of_ble_eq_true rfl) (Nat.le_of_ble_eq_true rfl) (Nat.le_of_ble_eq_true rfl) (Nat.le_of_ble_eq_true rfl) dX4_greatestWeight_44 ?_
      refine va_mmax hx hb (hml.trans hl.1.symm) hown (hts _ mw_296) (hts _ mw_297) (hts _ mw_11) (hts _ mw_298) (Nat.le_of_ble_eq_true rfl) (Nat.le_of_ble_eq_true rfl) (Nat.le_of_ble_eq_true rfl) (Nat.le_of_ble_eq_true rfl) dX4_greatestWeight_47 ?_
      cases hF
      rw [hQ]
      exact jb_iret hx hb hr hlocks hP hD hS dX4_greatestWeight_50 rfl (Nat.le_of_ble_eq_true rfl) (Nat.le_of_ble_eq_true rfl)
    · have hF := ob_neg c2 hF
      refine lv_iconst (v := 0) hx hb dX4_greatestWeight_22 (by decide) ?_
      cases hF
      rw [hQ]
      exact jb_iret hx hb hr hlocks hP hD hS dX4_greatestWeight_23 rfl (Nat.le_of_ble_eq_true rfl) (Nat.le_of_ble_eq_true rfl)
def F_X4_jars (x : Xv) (b : Bv) (p0 : Int32) : Option ((Int32) ⊕ (String)) := obx (F_X4_requireSpan x b p0) (fun z1 => ck (inb p0 10) (some (.inl ((B_jars b) p0.toNatClampNeg)))) (fun z1 => some (.inr z1))
set_option maxHeartbeats 4000000 in
set_option maxRecDepth 100000 in
theorem c_X4_jars (g : GG) (l : Launch) (hst : l.stackTraces = false) (a a1 a2 a3 a4 a5 a6 a7 : Nat → Nat) (x : Xv) (b : Bv) (p0 : Int32) (z : (Int32) ⊕ (String)) (hF : F_X4_jars x b p0 = some z) : MX g l yX4_jars cX4_jars 2 (some .int) ({ frames := 7, cells := 1, slots := 6, locals := 111 } : Room) [.ref (a 0), .int p0] [wX g a a1 a2 a3 a4 a5 a6 a7 x, wB g a1 b] 1 6 (Sum.elim (fun y => .inl (some (.int y), [wX g a a1 a2 a3 a4 a5 a6 a7 x, wB g a1 b])) (fun y => .inr (y, [wX g a a1 a2 a3 a4 a5 a6 a7 x, wB g a1 b])) z) := by
  refine MX.bg (by decide) (Nat.le_of_ble_eq_true rfl) ?_
  intro p e s m below meth c A Q hQ hx hb hr hml hown hts hlocks htab hK hE hA hP hD hS ls hl
  rw [F_X4_jars] at hF
  have hl : lv_has ls 2 [(0, .ref (a 0)), (1, .int p0)] := hl
  refine lv_aload_n hx hb dX4_jars_0 rfl (lv_at hl 0 rfl) ?_
  refine lv_iload_n hx hb dX4_jars_1 rfl (lv_at hl 1 rfl) ?_
  rcases ob_bx hF with ⟨z1, hz1, hF⟩ | ⟨z1, hz1, hF⟩
  rotate_left
  · refine cx_x (csR := []) (csF := [wX g a a1 a2 a3 a4 a5 a6 a7 x, wB g a1 b]) (rest := []) hx hb hml hown hts hK hE hA hl hP hD hS (c_X4_requireSpan g l hst a a1 a2 a3 a4 a5 a6 a7 x b p0 (.inr z1) hz1) [0, 1] [] [0, 1] ⟨rfl, rfl, rfl, rfl, rfl, rfl, rfl⟩ ⟨0, 8, _, _, rfl, rfl, rfl⟩ 1 (jb_giV mw_854 mw_856 ms_11 mw_1 mw_857) ⟨rfl, rfl⟩ (by decide +kernel) ⟨⟨(Nat.le_of_ble_eq_true rfl), (Nat.le_of_ble_eq_true rfl)⟩, (Nat.le_of_ble_eq_true rfl), (Nat.le_of_ble_eq_true rfl)⟩ ⟨rfl, rfl⟩ (Nat.le_of_ble_eq_true rfl) dX4_jars_2 (fun H locs q9 ce hP hD hS h1 h2 h3 => ?_)
    cases hF
    rw [hQ]
    exact jx_out htab hlocks hP hD hS h1 h2 h3 rfl (Nat.le_of_ble_eq_true rfl) (Nat.le_of_ble_eq_true rfl)
  refine cx_n (csR := []) (csF := [wX g a a1 a2 a3 a4 a5 a6 a7 x, wB g a1 b]) (rest := []) hx hb hml hown hts hK hE hA hl hP hD hS (c_X4_requireSpan g l hst a a1 a2 a3 a4 a5 a6 a7 x b p0 (.inl z1) hz1) [0, 1] [] [0, 1] ⟨rfl, rfl, rfl, rfl, rfl, rfl, rfl⟩ ⟨0, 8, _, _, rfl, rfl, rfl⟩ 1 (jb_giV mw_854 mw_856 ms_11 mw_1 mw_857) ⟨rfl, rfl⟩ (by decide +kernel) ⟨⟨(Nat.le_of_ble_eq_true rfl), (Nat.le_of_ble_eq_true rfl)⟩, (Nat.le_of_ble_eq_true rfl), (Nat.le_of_ble_eq_true rfl)⟩ ⟨rfl, rfl⟩ (Nat.le_of_ble_eq_true rfl) dX4_jars_2 (fun H locs hP hD hS => ?_)
  refine W.eq (g2 := F0 m 5 ls []) rfl ?_
  refine lv_aload_n hx hb dX4_jars_5 rfl (lv_at hl 0 rfl) ?_
  refine va_get (D := g.1) (ci := 8) (v := .ref (a1 0)) (C := RX4) (T := TX4) (N := 12) hx hb hts inX4 hown hK hP 0 rfl rfl 0 (by decide) (hts _ mw_223) (fun _ h9 => h9) rfl dX4_jars_6 ?_
  refine va_getN (D := g.1) (ci := 4) (v := .ref (a1 2)) (C := RX0) (T := TX0) (N := 17) hx hb hts inX0 hown hK hP 1 rfl rfl 2 (by decide) (hE.nf 4 rfl) (fun _ h9 => h9) rfl dX4_jars_9 ?_
  refine lv_iload_n hx hb dX4_jars_12 rfl (lv_at hl 1 rfl) ?_
  have h2 := inb_in (ck_t hF)
  have hF := ck_s hF
  refine va_iald hx hb hK hP 3 0 rfl rfl h2 dX4_jars_13 ?_
  cases hF
  rw [hQ]
  exact jx_iret hx hb hr rfl hlocks hP hD hS dX4_jars_14 rfl (Nat.le_of_ble_eq_true rfl) (Nat.le_of_ble_eq_true rfl)
def F_X4_age (x : Xv) (b : Bv) (p0 : Int32) : Option ((Int32) ⊕ (String)) := obx (F_X4_requireSpan x b p0) (fun z1 => ck (inb p0 10) (some (.inl ((B_ages b) p0.toNatClampNeg)))) (fun z1 => some (.inr z1))
set_option maxHeartbeats 4000000 in
set_option maxRecDepth 100000 in
theorem c_X4_age (g : GG) (l : Launch) (hst : l.stackTraces = false) (a a1 a2 a3 a4 a5 a6 a7 : Nat → Nat) (x : Xv) (b : Bv) (p0 : Int32) (z : (Int32) ⊕ (String)) (hF : F_X4_age x b p0 = some z) : MX g l yX4_age cX4_age 2 (some .int) ({ frames := 7, cells := 1, slots := 6, locals := 111 } : Room) [.ref (a 0), .int p0] [wX g a a1 a2 a3 a4 a5 a6 a7 x, wB g a1 b] 1 6 (Sum.elim (fun y => .inl (some (.int y), [wX g a a1 a2 a3 a4 a5 a6 a7 x, wB g a1 b])) (fun y => .inr (y, [wX g a a1 a2 a3 a4 a5 a6 a7 x, wB g a1 b])) z) := by
  refine MX.bg (by decide) (Nat.le_of_ble_eq_true rfl) ?_
  intro p e s m below meth c A Q hQ hx hb hr hml hown hts hlocks htab hK hE hA hP hD hS ls hl
  rw [F_X4_age] at hF
  have hl : lv_has ls 2 [(0, .ref (a 0)), (1, .int p0)] := hl
  refine lv_aload_n hx hb dX4_age_0 rfl (lv_at hl 0 rfl) ?_
  refine lv_iload_n hx hb dX4_age_1 rfl (lv_at hl 1 rfl) ?_
  rcases ob_bx hF with ⟨z1, hz1, hF⟩ | ⟨z1, hz1, hF⟩
  rotate_left
  · refine cx_x (csR := []) (csF := [wX g a a1 a2 a3 a4 a5 a6 a7 x, wB g a1 b]) (rest := []) hx hb hml hown hts hK hE hA hl hP hD hS (c_X4_requireSpan g l hst a a1 a2 a3 a4 a5 a6 a7 x b p0 (.inr z1) hz1) [0, 1] [] [0, 1] ⟨rfl, rfl, rfl, rfl, rfl, rfl, rfl⟩ ⟨0, 8, _, _, rfl, rfl, rfl⟩ 1 (jb_giV mw_854 mw_856 ms_11 mw_1 mw_857) ⟨rfl, rfl⟩ (by decide +kernel) ⟨⟨(Nat.le_of_ble_eq_true rfl), (Nat.le_of_ble_eq_true rfl)⟩, (Nat.le_of_ble_eq_true rfl), (Nat.le_of_ble_eq_true rfl)⟩ ⟨rfl, rfl⟩ (Nat.le_of_ble_eq_true rfl) dX4_age_2 (fun H locs q9 ce hP hD hS h1 h2 h3 => ?_)
    cases hF
    rw [hQ]
    exact jx_out htab hlocks hP hD hS h1 h2 h3 rfl (Nat.le_of_ble_eq_true rfl) (Nat.le_of_ble_eq_true rfl)
  refine cx_n (csR := []) (csF := [wX g a a1 a2 a3 a4 a5 a6 a7 x, wB g a1 b]) (rest := []) hx hb hml hown hts hK hE hA hl hP hD hS (c_X4_requireSpan g l hst a a1 a2 a3 a4 a5 a6 a7 x b p0 (.inl z1) hz1) [0, 1] [] [0, 1] ⟨rfl, rfl, rfl, rfl, rfl, rfl, rfl⟩ ⟨0, 8, _, _, rfl, rfl, rfl⟩ 1 (jb_giV mw_854 mw_856 ms_11 mw_1 mw_857) ⟨rfl, rfl⟩ (by decide +kernel) ⟨⟨(Nat.le_of_ble_eq_true rfl), (Nat.le_of_ble_eq_true rfl)⟩, (Nat.le_of_ble_eq_true rfl), (Nat.le_of_ble_eq_true rfl)⟩ ⟨rfl, rfl⟩ (Nat.le_of_ble_eq_true rfl) dX4_age_2 (fun H locs hP hD hS => ?_)
  refine W.eq (g2 := F0 m 5 ls []) rfl ?_
  refine lv_aload_n hx hb dX4_age_5 rfl (lv_at hl 0 rfl) ?_
  refine va_get (D := g.1) (ci := 8) (v := .ref (a1 0)) (C := RX4) (T := TX4) (N := 12) hx hb hts inX4 hown hK hP 0 rfl rfl 0 (by decide) (hts _ mw_223) (fun _ h9 => h9) rfl dX4_age_6 ?_
  refine va_getN (D := g.1) (ci := 4) (v := .ref (a1 3)) (C := RX0) (T := TX0) (N := 17) hx hb hts inX0 hown hK hP 1 rfl rfl 3 (by decide) (hE.nf 5 rfl) (fun _ h9 => h9) rfl dX4_age_9 ?_
  refine lv_iload_n hx hb dX4_age_12 rfl (lv_at hl 1 rfl) ?_
  have h2 := inb_in (ck_t hF)
  have hF := ck_s hF
  refine va_iald hx hb hK hP 4 0 rfl rfl h2 dX4_age_13 ?_
  cases hF
  rw [hQ]
  exact jx_iret hx hb hr rfl hlocks hP hD hS dX4_age_14 rfl (Nat.le_of_ble_eq_true rfl) (Nat.le_of_ble_eq_true rfl)
def F_X4_cracks (x : Xv) (b : Bv) (p0 : Int32) : Option ((Int32) ⊕ (String)) := obx (F_X4_requireSpan x b p0) (fun z1 => ck (inb p0 10) (some (.inl ((B_cracks b) p0.toNatClampNeg)))) (fun z1 => some (.inr z1))
set_option maxHeartbeats 4000000 in
set_option maxRecDepth 100000 in
theorem c_X4_cracks (g : GG) (l : Launch) (hst : l.stackTraces = false) (a a1 a2 a3 a4 a5 a6 a7 : Nat → Nat) (x : Xv) (b : Bv) (p0 : Int32) (z : (Int32) ⊕ (String)) (hF : F_X4_cracks x b p0 = some z) : MX g l yX4_cracks cX4_cracks 2 (some .int) ({ frames := 7, cells := 1, slots := 6, locals := 111 } : Room) [.ref (a 0), .int p0] [wX g a a1 a2 a3 a4 a5 a6 a7 x, wB g a1 b] 1 6 (Sum.elim (fun y => .inl (some (.int y), [wX g a a1 a2 a3 a4 a5 a6 a7 x, wB g a1 b])) (fun y => .inr (y, [wX g a a1 a2 a3 a4 a5 a6 a7 x, wB g a1 b])) z) := by
  refine MX.bg (by decide) (Nat.le_of_ble_eq_true rfl) ?_
  intro p e s m below meth c A Q hQ hx hb hr hml hown hts hlocks htab hK hE hA hP hD hS ls hl
  rw [F_X4_cracks] at hF
  have hl : lv_has ls 2 [(0, .ref (a 0)), (1, .int p0)] := hl
  refine lv_aload_n hx hb dX4_cracks_0 rfl (lv_at hl 0 rfl) ?_
  refine lv_iload_n hx hb dX4_cracks_1 rfl (lv_at hl 1 rfl) ?_
  rcases ob_bx hF with ⟨z1, hz1, hF⟩ | ⟨z1, hz1, hF⟩
  rotate_left
  · refine cx_x (csR := []) (csF := [wX g a a1 a2 a3 a4 a5 a6 a7 x, wB g a1 b]) (rest := []) hx hb hml hown hts hK hE hA hl hP hD hS (c_X4_requireSpan g l hst a a1 a2 a3 a4 a5 a6 a7 x b p0 (.inr z1) hz1) [0, 1] [] [0, 1] ⟨rfl, rfl, rfl, rfl, rfl, rfl, rfl⟩ ⟨0, 8, _, _, rfl, rfl, rfl⟩ 1 (jb_giV mw_854 mw_856 ms_11 mw_1 mw_857) ⟨rfl, rfl⟩ (by decide +kernel) ⟨⟨(Nat.le_of_ble_eq_true rfl), (Nat.le_of_ble_eq_true rfl)⟩, (Nat.le_of_ble_eq_true rfl), (Nat.le_of_ble_eq_true rfl)⟩ ⟨rfl, rfl⟩ (Nat.le_of_ble_eq_true rfl) dX4_cracks_2 (fun H locs q9 ce hP hD hS h1 h2 h3 => ?_)
    cases hF
    rw [hQ]
    exact jx_out htab hlocks hP hD hS h1 h2 h3 rfl (Nat.le_of_ble_eq_true rfl) (Nat.le_of_ble_eq_true rfl)
  refine cx_n (csR := []) (csF := [wX g a a1 a2 a3 a4 a5 a6 a7 x, wB g a1 b]) (rest := []) hx hb hml hown hts hK hE hA hl hP hD hS (c_X4_requireSpan g l hst a a1 a2 a3 a4 a5 a6 a7 x b p0 (.inl z1) hz1) [0, 1] [] [0, 1] ⟨rfl, rfl, rfl, rfl, rfl, rfl, rfl⟩ ⟨0, 8, _, _, rfl, rfl, rfl⟩ 1 (jb_giV mw_854 mw_856 ms_11 mw_1 mw_857) ⟨rfl, rfl⟩ (by decide +kernel) ⟨⟨(Nat.le_of_ble_eq_true rfl), (Nat.le_of_ble_eq_true rfl)⟩, (Nat.le_of_ble_eq_true rfl), (Nat.le_of_ble_eq_true rfl)⟩ ⟨rfl, rfl⟩ (Nat.le_of_ble_eq_true rfl) dX4_cracks_2 (fun H locs hP hD hS => ?_)
  refine W.eq (g2 := F0 m 5 ls []) rfl ?_
  refine lv_aload_n hx hb dX4_cracks_5 rfl (lv_at hl 0 rfl) ?_
  refine va_get (D := g.1) (ci := 8) (v := .ref (a1 0)) (C := RX4) (T := TX4) (N := 12) hx hb hts inX4 hown hK hP 0 rfl rfl 0 (by decide) (hts _ mw_223) (fun _ h9 => h9) rfl dX4_cracks_6 ?_
  refine va_getN (D := g.1) (ci := 4) (v := .ref (a1 4)) (C := RX0) (T := TX0) (N := 17) hx hb hts inX0 hown hK hP 1 rfl rfl 4 (by decide) (hE.nf 7 rfl) (fun _ h9 => h9) rfl dX4_cracks_9 ?_
  refine lv_iload_n hx hb dX4_cracks_12 rfl (lv_at hl 1 rfl) ?_
  have h2 := inb_in (ck_t hF)
  have hF := ck_s hF
  refine va_iald hx hb hK hP 5 0 rfl rfl h2 dX4_cracks_13 ?_
  cases hF
  rw [hQ]
  exact jx_iret hx hb hr rfl hlocks hP hD hS dX4_cracks_14 rfl (Nat.le_of_ble_eq_true rfl) (Nat.le_of_ble_eq_true rfl)
def F_X4_stress (x : Xv) (b : Bv) (p0 : Int32) : Option ((Int32) ⊕ (String)) := obx (F_X4_requireSpan x b p0) (fun z1 => ck (inb p0 10) (some (.inl ((B_stresses b) p0.toNatClampNeg)))) (fun z1 => some (.inr z1))
set_option maxHeartbeats 4000000 in
set_option maxRecDepth 100000 in
theorem c_X4_stress (g : GG) (l : Launch) (hst : l.stackTraces = false) (a a1 a2 a3 a4 a5 a6 a7 : Nat → Nat) (x : Xv) (b : Bv) (p0 : Int32) (z : (Int32) ⊕ (String)) (hF : F_X4_stress x b p0 = some z) : MX g l yX4_stress cX4_stress 2 (some .int) ({ frames := 7, cells := 1, slots := 6, locals := 111 } : Room) [.ref (a 0), .int p0] [wX g a a1 a2 a3 a4 a5 a6 a7 x, wB g a1 b] 1 6 (Sum.elim (fun y => .inl (some (.int y), [wX g a a1 a2 a3 a4 a5 a6 a7 x, wB g a1 b])) (fun y => .inr (y, [wX g a a1 a2 a3 a4 a5 a6 a7 x, wB g a1 b])) z) := by
  refine MX.bg (by decide) (Nat.le_of_ble_eq_true rfl) ?_
  intro p e s m below meth c A Q hQ hx hb hr hml hown hts hlocks htab hK hE hA hP hD hS ls hl
  rw [F_X4_stress] at hF
  have hl : lv_has ls 2 [(0, .ref (a 0)), (1, .int p0)] := hl
  refine lv_aload_n hx hb dX4_stress_0 rfl (lv_at hl 0 rfl) ?_
  refine lv_iload_n hx hb dX4_stress_1 rfl (lv_at hl 1 rfl) ?_
  rcases ob_bx hF with ⟨z1, hz1, hF⟩ | ⟨z1, hz1, hF⟩
  rotate_left
  · refine cx_x (csR := []) (csF := [wX g a a1 a2 a3 a4 a5 a6 a7 x, wB g a1 b]) (rest := []) hx hb hml hown hts hK hE hA hl hP hD hS (c_X4_requireSpan g l hst a a1 a2 a3 a4 a5 a6 a7 x b p0 (.inr z1) hz1) [0, 1] [] [0, 1] ⟨rfl, rfl, rfl, rfl, rfl, rfl, rfl⟩ ⟨0, 8, _, _, rfl, rfl, rfl⟩ 1 (jb_giV mw_854 mw_856 ms_11 mw_1 mw_857) ⟨rfl, rfl⟩ (by decide +kernel) ⟨⟨(Nat.le_of_ble_eq_true rfl), (Nat.le_of_ble_eq_true rfl)⟩, (Nat.le_of_ble_eq_true rfl), (Nat.le_of_ble_eq_true rfl)⟩ ⟨rfl, rfl⟩ (Nat.le_of_ble_eq_true rfl) dX4_stress_2 (fun H locs q9 ce hP hD hS h1 h2 h3 => ?_)
    cases hF
    rw [hQ]
    exact jx_out htab hlocks hP hD hS h1 h2 h3 rfl (Nat.le_of_ble_eq_true rfl) (Nat.le_of_ble_eq_true rfl)
  refine cx_n (csR := []) (csF := [wX g a a1 a2 a3 a4 a5 a6 a7 x, wB g a1 b]) (rest := []) hx hb hml hown hts hK hE hA hl hP hD hS (c_X4_requireSpan g l hst a a1 a2 a3 a4 a5 a6 a7 x b p0 (.inl z1) hz1) [0, 1] [] [0, 1] ⟨rfl, rfl, rfl, rfl, rfl, rfl, rfl⟩ ⟨0, 8, _, _, rfl, rfl, rfl⟩ 1 (jb_giV mw_854 mw_856 ms_11 mw_1 mw_857) ⟨rfl, rfl⟩ (by decide +kernel) ⟨⟨(Nat.le_of_ble_eq_true rfl), (Nat.le_of_ble_eq_true rfl)⟩, (Nat.le_of_ble_eq_true rfl), (Nat.le_of_ble_eq_true rfl)⟩ ⟨rfl, rfl⟩ (Nat.le_of_ble_eq_true rfl) dX4_stress_2 (fun H locs hP hD hS => ?_)
  refine W.eq (g2 := F0 m 5 ls []) rfl ?_
  refine lv_aload_n hx hb dX4_stress_5 rfl (lv_at hl 0 rfl) ?_
  refine va_get (D := g.1) (ci := 8) (v := .ref (a1 0)) (C := RX4) (T := TX4) (N := 12) hx hb hts inX4 hown hK hP 0 rfl rfl 0 (by decide) (hts _ mw_223) (fun _ h9 => h9) rfl dX4_stress_6 ?_
  refine va_getN (D := g.1) (ci := 4) (v := .ref (a1 5)) (C := RX0) (T := TX0) (N := 17) hx hb hts inX0 hown hK hP 1 rfl rfl 5 (by decide) (hE.nf 8 rfl) (fun _ h9 => h9) rfl dX4_stress_9 ?_
  refine lv_iload_n hx hb dX4_stress_12 rfl (lv_at hl 1 rfl) ?_
  have h2 := inb_in (ck_t hF)
  have hF := ck_s hF
  refine va_iald hx hb hK hP 6 0 rfl rfl h2 dX4_stress_13 ?_
  cases hF
  rw [hQ]
  exact jx_iret hx hb hr rfl hlocks hP hD hS dX4_stress_14 rfl (Nat.le_of_ble_eq_true rfl) (Nat.le_of_ble_eq_true rfl)
def F_X4_strength (x : Xv) (b : Bv) (p0 : Int32) : Option ((Int32) ⊕ (String)) := obx (F_X4_requireSpan x b p0) (fun z1 => (F_X0_strengthOf b p0).bind (fun z2 => some (.inl z2))) (fun z1 => some (.inr z1))
set_option maxHeartbeats 4000000 in
set_option maxRecDepth 100000 in
theorem c_X4_strength (g : GG) (l : Launch) (hst : l.stackTraces = false) (a a1 a2 a3 a4 a5 a6 a7 : Nat → Nat) (x : Xv) (b : Bv) (p0 : Int32) (z : (Int32) ⊕ (String)) (hF : F_X4_strength x b p0 = some z) : MX g l yX4_strength cX4_strength 2 (some .int) ({ frames := 7, cells := 1, slots := 6, locals := 111 } : Room) [.ref (a 0), .int p0] [wX g a a1 a2 a3 a4 a5 a6 a7 x, wB g a1 b] 1 6 (Sum.elim (fun y => .inl (some (.int y), [wX g a a1 a2 a3 a4 a5 a6 a7 x, wB g a1 b])) (fun y => .inr (y, [wX g a a1 a2 a3 a4 a5 a6 a7 x, wB g a1 b])) z) := by
  refine MX.bg (by decide) (Nat.le_of_ble_eq_true rfl) ?_
  intro p e s m below meth c A Q hQ hx hb hr hml hown hts hlocks htab hK hE hA hP hD hS ls hl
  rw [F_X4_strength] at hF
  have hl : lv_has ls 2 [(0, .ref (a 0)), (1, .int p0)] := hl
  refine lv_aload_n hx hb dX4_strength_0 rfl (lv_at hl 0 rfl) ?_
  refine lv_iload_n hx hb dX4_strength_1 rfl (lv_at hl 1 rfl) ?_
  rcases ob_bx hF with ⟨z1, hz1, hF⟩ | ⟨z1, hz1, hF⟩
  rotate_left
  · refine cx_x (csR := []) (csF := [wX g a a1 a2 a3 a4 a5 a6 a7 x, wB g a1 b]) (rest := []) hx hb hml hown hts hK hE hA hl hP hD hS (c_X4_requireSpan g l hst a a1 a2 a3 a4 a5 a6 a7 x b p0 (.inr z1) hz1) [0, 1] [] [0, 1] ⟨rfl, rfl, rfl, rfl, rfl, rfl, rfl⟩ ⟨0, 8, _, _, rfl, rfl, rfl⟩ 1 (jb_giV mw_854 mw_856 ms_11 mw_1 mw_857) ⟨rfl, rfl⟩ (by decide +kernel) ⟨⟨(Nat.le_of_ble_eq_true rfl), (Nat.le_of_ble_eq_true rfl)⟩, (Nat.le_of_ble_eq_true rfl), (Nat.le_of_ble_eq_true rfl)⟩ ⟨rfl, rfl⟩ (Nat.le_of_ble_eq_true rfl) dX4_strength_2 (fun H locs q9 ce hP hD hS h1 h2 h3 => ?_)
    cases hF
    rw [hQ]
    exact jx_out htab hlocks hP hD hS h1 h2 h3 rfl (Nat.le_of_ble_eq_true rfl) (Nat.le_of_ble_eq_true rfl)
  refine cx_n (csR := []) (csF := [wX g a a1 a2 a3 a4 a5 a6 a7 x, wB g a1 b]) (rest := []) hx hb hml hown hts hK hE hA hl hP hD hS (c_X4_requireSpan g l hst a a1 a2 a3 a4 a5 a6 a7 x b p0 (.inl z1) hz1) [0, 1] [] [0, 1] ⟨rfl, rfl, rfl, rfl, rfl, rfl, rfl⟩ ⟨0, 8, _, _, rfl, rfl, rfl⟩ 1 (jb_giV mw_854 mw_856 ms_11 mw_1 mw_857) ⟨rfl, rfl⟩ (by decide +kernel) ⟨⟨(Nat.le_of_ble_eq_true rfl), (Nat.le_of_ble_eq_true rfl)⟩, (Nat.le_of_ble_eq_true rfl), (Nat.le_of_ble_eq_true rfl)⟩ ⟨rfl, rfl⟩ (Nat.le_of_ble_eq_true rfl) dX4_strength_2 (fun H locs hP hD hS => ?_)
  refine W.eq (g2 := F0 m 5 ls []) rfl ?_
  refine lv_aload_n hx hb dX4_strength_5 rfl (lv_at hl 0 rfl) ?_
  refine va_get (D := g.1) (ci := 8) (v := .ref (a1 0)) (C := RX4) (T := TX4) (N := 12) hx hb hts inX4 hown hK hP 0 rfl rfl 0 (by decide) (hts _ mw_223) (fun _ h9 => h9) rfl dX4_strength_6 ?_
  refine lv_iload_n hx hb dX4_strength_9 rfl (lv_at hl 1 rfl) ?_
  obtain ⟨z2, hz2, hF⟩ := ob_bind hF
  refine cl_i (csR := [wX g a a1 a2 a3 a4 a5 a6 a7 x]) (csF := [wX g a a1 a2 a3 a4 a5 a6 a7 x, wB g a1 b]) (rest := []) hx hb hml hown hts hK hE hA hl hP hD hS (c_X0_strengthOf g l a1 b p0 z2 hz2) [1] [0] [0, 1] ⟨rfl, rfl, rfl, rfl, rfl, rfl, rfl⟩ ⟨0, 4, _, _, rfl, rfl, rfl⟩ 1 (jb_giV mw_284 mw_285 mw_286 mw_2 mw_287) ⟨rfl, rfl⟩ (by decide +kernel) ⟨⟨(Nat.le_of_ble_eq_true rfl), (Nat.le_of_ble_eq_true rfl)⟩, (Nat.le_of_ble_eq_true rfl), (Nat.le_of_ble_eq_true rfl)⟩ ⟨rfl, rfl⟩ (Nat.le_of_ble_eq_true rfl) dX4_strength_10 (fun H locs hP hD hS => ?_)
  cases hF
  rw [hQ]
  exact jx_iret hx hb hr rfl hlocks hP hD hS dX4_strength_13 rfl (Nat.le_of_ble_eq_true rfl) (Nat.le_of_ble_eq_true rfl)
def F_X4_load (x : Xv) (b : Bv) (p0 : Int32) : Option ((Int32) ⊕ (String)) := obx (F_X4_requireSpan x b p0) (fun z1 => (F_X0_loadOf b p0).bind (fun z2 => some (.inl z2))) (fun z1 => some (.inr z1))
set_option maxHeartbeats 4000000 in
set_option maxRecDepth 100000 in
theorem c_X4_load (g : GG) (l : Launch) (hst : l.stackTraces = false) (a a1 a2 a3 a4 a5 a6 a7 : Nat → Nat) (x : Xv) (b : Bv) (p0 : Int32) (z : (Int32) ⊕ (String)) (hF : F_X4_load x b p0 = some z) : MX g l yX4_load cX4_load 2 (some .int) ({ frames := 7, cells := 1, slots := 6, locals := 111 } : Room) [.ref (a 0), .int p0] [wX g a a1 a2 a3 a4 a5 a6 a7 x, wB g a1 b] 1 6 (Sum.elim (fun y => .inl (some (.int y), [wX g a a1 a2 a3 a4 a5 a6 a7 x, wB g a1 b])) (fun y => .inr (y, [wX g a a1 a2 a3 a4 a5 a6 a7 x, wB g a1 b])) z) := by
  refine MX.bg (by decide) (Nat.le_of_ble_eq_true rfl) ?_
  intro p e s m below meth c A Q hQ hx hb hr hml hown hts hlocks htab hK hE hA hP hD hS ls hl
  rw [F_X4_load] at hF
  have hl : lv_has ls 2 [(0, .ref (a 0)), (1, .int p0)] := hl
  refine lv_aload_n hx hb dX4_load_0 rfl (lv_at hl 0 rfl) ?_
  refine lv_iload_n hx hb dX4_load_1 rfl (lv_at hl 1 rfl) ?_
  rcases ob_bx hF with ⟨z1, hz1, hF⟩ | ⟨z1, hz1, hF⟩
  rotate_left
  · refine cx_x (csR := []) (csF := [wX g a a1 a2 a3 a4 a5 a6 a7 x, wB g a1 b]) (rest := []) hx hb hml hown hts hK hE hA hl hP hD hS (c_X4_requireSpan g l hst a a1 a2 a3 a4 a5 a6 a7 x b p0 (.inr z1) hz1) [0, 1] [] [0, 1] ⟨rfl, rfl, rfl, rfl, rfl, rfl, rfl⟩ ⟨0, 8, _, _, rfl, rfl, rfl⟩ 1 (jb_giV mw_854 mw_856 ms_11 mw_1 mw_857) ⟨rfl, rfl⟩ (by decide +kernel) ⟨⟨(Nat.le_of_ble_eq_true rfl), (Nat.le_of_ble_eq_true rfl)⟩, (Nat.le_of_ble_eq_true rfl), (Nat.le_of_ble_eq_true rfl)⟩ ⟨rfl, rfl⟩ (Nat.le_of_ble_eq_true rfl) dX4_load_2 (fun H locs q9 ce hP hD hS h1 h2 h3 => ?_)
    cases hF
    rw [hQ]
    exact jx_out htab hlocks hP hD hS h1 h2 h3 rfl (Nat.le_of_ble_eq_true rfl) (Nat.le_of_ble_eq_true rfl)
  refine cx_n (csR := []) (csF := [wX g a a1 a2 a3 a4 a5 a6 a7 x, wB g a1 b]) (rest := []) hx hb hml hown hts hK hE hA hl hP hD hS (c_X4_requireSpan g l hst a a1 a2 a3 a4 a5 a6 a7 x b p0 (.inl z1) hz1) [0, 1] [] [0, 1] ⟨rfl, rfl, rfl, rfl, rfl, rfl, rfl⟩ ⟨0, 8, _, _, rfl, rfl, rfl⟩ 1 (jb_giV mw_854 mw_856 ms_11 mw_1 mw_857) ⟨rfl, rfl⟩ (by decide +kernel) ⟨⟨(Nat.le_of_ble_eq_true rfl), (Nat.le_of_ble_eq_true rfl)⟩, (Nat.le_of_ble_eq_true rfl), (Nat.le_of_ble_eq_true rfl)⟩ ⟨rfl, rfl⟩ (Nat.le_of_ble_eq_true rfl) dX4_load_2 (fun H locs hP hD hS => ?_)
  refine W.eq (g2 := F0 m 5 ls []) rfl ?_
  refine lv_aload_n hx hb dX4_load_5 rfl (lv_at hl 0 rfl) ?_
  refine va_get (D := g.1) (ci := 8) (v := .ref (a1 0)) (C := RX4) (T := TX4) (N := 12) hx hb hts inX4 hown hK hP 0 rfl rfl 0 (by decide) (hts _ mw_223) (fun _ h9 => h9) rfl dX4_load_6 ?_
  refine lv_iload_n hx hb dX4_load_9 rfl (lv_at hl 1 rfl) ?_
  obtain ⟨z2, hz2, hF⟩ := ob_bind hF
  refine cl_i (csR := [wX g a a1 a2 a3 a4 a5 a6 a7 x]) (csF := [wX g a a1 a2 a3 a4 a5 a6 a7 x, wB g a1 b]) (rest := []) hx hb hml hown hts hK hE hA hl hP hD hS (c_X0_loadOf g l a1 b p0 z2 hz2) [1] [0] [0, 1] ⟨rfl, rfl, rfl, rfl, rfl, rfl, rfl⟩ ⟨0, 4, _, _, rfl, rfl, rfl⟩ 1 (jb_giV mw_272 mw_273 mw_274 mw_2 mw_275) ⟨rfl, rfl⟩ (by decide +kernel) ⟨⟨(Nat.le_of_ble_eq_true rfl), (Nat.le_of_ble_eq_true rfl)⟩, (Nat.le_of_ble_eq_true rfl), (Nat.le_of_ble_eq_true rfl)⟩ ⟨rfl, rfl⟩ (Nat.le_of_ble_eq_true rfl) dX4_load_10 (fun H locs hP hD hS => ?_)
  cases hF
  rw [hQ]
  exact jx_iret hx hb hr rfl hlocks hP hD hS dX4_load_13 rfl (Nat.le_of_ble_eq_true rfl) (Nat.le_of_ble_eq_true rfl)
def F_X4_vehicleAt (x : Xv) (b : Bv) (p0 : Int32) : Option ((Int32) ⊕ (String)) := if p0 < 0 then some (.inr ("java/lang/IndexOutOfBoundsException")) else if p0 < (B_vehicles b) then ck (inb p0 8) (some (.inl ((B_numbers b) p0.toNatClampNeg))) else some (.inr ("java/lang/IndexOutOfBoundsException"))
set_option maxHeartbeats 4000000 in
set_option maxRecDepth 100000 in
theorem c_X4_vehicleAt (g : GG) (l : Launch) (hst : l.stackTraces = false) (a a1 a2 a3 a4 a5 a6 a7 : Nat → Nat) (x : Xv) (b : Bv) (p0 : Int32) (z : (Int32) ⊕ (String)) (hF : F_X4_vehicleAt x b p0 = some z) : MX g l yX4_vehicleAt cX4_vehicleAt 2 (some .int) ({ frames := 6, cells := 1, slots := 6, locals := 90 } : Room) [.ref (a 0), .int p0] [wX g a a1 a2 a3 a4 a5 a6 a7 x, wB g a1 b] 1 6 (Sum.elim (fun y => .inl (some (.int y), [wX g a a1 a2 a3 a4 a5 a6 a7 x, wB g a1 b])) (fun y => .inr (y, [wX g a a1 a2 a3 a4 a5 a6 a7 x, wB g a1 b])) z) := by
  refine MX.bg (by decide) (Nat.le_of_ble_eq_true rfl) ?_
  intro p e s m below meth c A Q hQ hx hb hr hml hown hts hlocks htab hK hE hA hP hD hS ls hl
  rw [F_X4_vehicleAt] at hF
  have hl : lv_has ls 2 [(0, .ref (a 0)), (1, .int p0)] := hl
  refine lv_iload_n hx hb dX4_vehicleAt_0 rfl (lv_at hl 1 rfl) ?_
  refine lv_if_lt (tgt := 15) hx hb dX4_vehicleAt_1 (by decide) (fun c1 => ?_) (fun c1 => ?_)
  · have hF := ob_pos c1 hF
    cases hF
    rw [hQ]
    exact jx_throwN hst thw_157 hx hb (hml.trans hl.1.symm) hown hts hE htab hlocks 7 rfl hP hD hS dX4_vehicleAt_15 dX4_vehicleAt_18 dX4_vehicleAt_19 dX4_vehicleAt_21 dX4_vehicleAt_24 ⟨(Nat.le_of_ble_eq_true rfl), (Nat.le_of_ble_eq_true rfl), (Nat.le_of_ble_eq_true rfl), (Nat.le_of_ble_eq_true rfl)⟩ (Nat.le_of_ble_eq_true rfl) (Nat.le_of_ble_eq_true rfl) rfl
  · have hF := ob_neg c1 hF
    refine lv_iload_n hx hb dX4_vehicleAt_4 rfl (lv_at hl 1 rfl) ?_
    refine lv_aload_n hx hb dX4_vehicleAt_5 rfl (lv_at hl 0 rfl) ?_
    refine va_get (D := g.1) (ci := 8) (v := .ref (a1 0)) (C := RX4) (T := TX4) (N := 12) hx hb hts inX4 hown hK hP 0 rfl rfl 0 (by decide) (hts _ mw_223) (fun _ h9 => h9) rfl dX4_vehicleAt_6 ?_
    refine va_getN (D := g.1) (ci := 4) (v := .int (B_vehicles b)) (C := RX0) (T := TX0) (N := 17) hx hb hts inX0 hown hK hP 1 rfl rfl 6 (by decide) (hE.nf 10 rfl) (fun _ h9 => h9) rfl dX4_vehicleAt_9 ?_
    refine lv_icmp_lt (tgt := 25) hx hb dX4_vehicleAt_12 (by decide) (fun c2 => ?_) (fun c2 => ?_)
    · have hF := ob_pos c2 hF
      refine lv_aload_n hx hb dX4_vehicleAt_25 rfl (lv_at hl 0 rfl) ?_
      refine va_get (D := g.1) (ci := 8) (v := .ref (a1 0)) (C := RX4) (T := TX4) (N := 12) hx hb hts inX4 hown hK hP 0 rfl rfl 0 (by decide) (hts _ mw_223) (fun _ h9 => h9) rfl dX4_vehicleAt_26 ?_
      refine va_getN (D := g.1) (ci := 4) (v := .ref (a1 6)) (C := RX0) (T := TX0) (N := 17) hx hb hts inX0 hown hK hP 1 rfl rfl 7 (by decide) (hE.nf 11 rfl) (fun _ h9 => h9) rfl dX4_vehicleAt_29 ?_
      refine lv_iload_n hx hb dX4_vehicleAt_32 rfl (lv_at hl 1 rfl) ?_
      have h3 := inb_in (ck_t hF)
      have hF := ck_s hF
      refine va_iald hx hb hK hP 7 0 rfl rfl h3 dX4_vehicleAt_33 ?_
      cases hF
      rw [hQ]
      exact jx_iret hx hb hr rfl hlocks hP hD hS dX4_vehicleAt_34 rfl (Nat.le_of_ble_eq_true rfl) (Nat.le_of_ble_eq_true rfl)
    · have hF := ob_neg c2 hF
      cases hF
      rw [hQ]
      exact jx_throwN hst thw_157 hx hb (hml.trans hl.1.symm) hown hts hE htab hlocks 7 rfl hP hD hS dX4_vehicleAt_15 dX4_vehicleAt_18 dX4_vehicleAt_19 dX4_vehicleAt_21 dX4_vehicleAt_24 ⟨(Nat.le_of_ble_eq_true rfl), (Nat.le_of_ble_eq_true rfl), (Nat.le_of_ble_eq_true rfl), (Nat.le_of_ble_eq_true rfl)⟩ (Nat.le_of_ble_eq_true rfl) (Nat.le_of_ble_eq_true rfl) rfl
def F_X4_weightOf (x : Xv) (b : Bv) (p0 : Int32) : Option ((Int32) ⊕ (String)) := obx (F_X4_requirePosition x b p0) (fun z1 => ck (inb z1 8) (some (.inl ((B_weights b) z1.toNatClampNeg)))) (fun z1 => some (.inr z1))
set_option maxHeartbeats 4000000 in
set_option maxRecDepth 100000 in
theorem c_X4_weightOf (g : GG) (l : Launch) (hst : l.stackTraces = false) (a a1 a2 a3 a4 a5 a6 a7 : Nat → Nat) (x : Xv) (b : Bv) (p0 : Int32) (z : (Int32) ⊕ (String)) (hF : F_X4_weightOf x b p0 = some z) : MX g l yX4_weightOf cX4_weightOf 2 (some .int) ({ frames := 7, cells := 1, slots := 6, locals := 112 } : Room) [.ref (a 0), .int p0] [wX g a a1 a2 a3 a4 a5 a6 a7 x, wB g a1 b] 1 6 (Sum.elim (fun y => .inl (some (.int y), [wX g a a1 a2 a3 a4 a5 a6 a7 x, wB g a1 b])) (fun y => .inr (y, [wX g a a1 a2 a3 a4 a5 a6 a7 x, wB g a1 b])) z) := by
  refine MX.bg (by decide) (Nat.le_of_ble_eq_true rfl) ?_
  intro p e s m below meth c A Q hQ hx hb hr hml hown hts hlocks htab hK hE hA hP hD hS ls hl
  rw [F_X4_weightOf] at hF
  have hl : lv_has ls 2 [(0, .ref (a 0)), (1, .int p0)] := hl
  refine lv_aload_n hx hb dX4_weightOf_0 rfl (lv_at hl 0 rfl) ?_
  refine va_get (D := g.1) (ci := 8) (v := .ref (a1 0)) (C := RX4) (T := TX4) (N := 12) hx hb hts inX4 hown hK hP 0 rfl rfl 0 (by decide) (hts _ mw_223) (fun _ h9 => h9) rfl dX4_weightOf_1 ?_
  refine va_getN (D := g.1) (ci := 4) (v := .ref (a1 7)) (C := RX0) (T := TX0) (N := 17) hx hb hts inX0 hown hK hP 1 rfl rfl 8 (by decide) (hE.nf 12 rfl) (fun _ h9 => h9) rfl dX4_weightOf_4 ?_
  refine lv_aload_n hx hb dX4_weightOf_7 rfl (lv_at hl 0 rfl) ?_
  refine lv_iload_n hx hb dX4_weightOf_8 rfl (lv_at hl 1 rfl) ?_
  rcases ob_bx hF with ⟨z1, hz1, hF⟩ | ⟨z1, hz1, hF⟩
  rotate_left
  · refine cx_x (csR := []) (csF := [wX g a a1 a2 a3 a4 a5 a6 a7 x, wB g a1 b]) (rest := [.ref (a1 7)]) hx hb hml hown hts hK hE hA hl hP hD hS (c_X4_requirePosition g l hst a a1 a2 a3 a4 a5 a6 a7 x b p0 (.inr z1) hz1) [0, 1] [] [0, 1] ⟨rfl, rfl, rfl, rfl, rfl, rfl, rfl⟩ ⟨0, 8, _, _, rfl, rfl, rfl⟩ 1 (jb_giV mw_1052 mw_1054 ms_23 mw_1 mw_1055) ⟨rfl, rfl⟩ (by decide +kernel) ⟨⟨(Nat.le_of_ble_eq_true rfl), (Nat.le_of_ble_eq_true rfl)⟩, (Nat.le_of_ble_eq_true rfl), (Nat.le_of_ble_eq_true rfl)⟩ ⟨rfl, rfl⟩ (Nat.le_of_ble_eq_true rfl) dX4_weightOf_9 (fun H locs q9 ce hP hD hS h1 h2 h3 => ?_)
    cases hF
    rw [hQ]
    exact jx_out htab hlocks hP hD hS h1 h2 h3 rfl (Nat.le_of_ble_eq_true rfl) (Nat.le_of_ble_eq_true rfl)
  refine cx_n (csR := []) (csF := [wX g a a1 a2 a3 a4 a5 a6 a7 x, wB g a1 b]) (rest := [.ref (a1 7)]) hx hb hml hown hts hK hE hA hl hP hD hS (c_X4_requirePosition g l hst a a1 a2 a3 a4 a5 a6 a7 x b p0 (.inl z1) hz1) [0, 1] [] [0, 1] ⟨rfl, rfl, rfl, rfl, rfl, rfl, rfl⟩ ⟨0, 8, _, _, rfl, rfl, rfl⟩ 1 (jb_giV mw_1052 mw_1054 ms_23 mw_1 mw_1055) ⟨rfl, rfl⟩ (by decide +kernel) ⟨⟨(Nat.le_of_ble_eq_true rfl), (Nat.le_of_ble_eq_true rfl)⟩, (Nat.le_of_ble_eq_true rfl), (Nat.le_of_ble_eq_true rfl)⟩ ⟨rfl, rfl⟩ (Nat.le_of_ble_eq_true rfl) dX4_weightOf_9 (fun H locs hP hD hS => ?_)
  refine W.eq (g2 := F0 m 12 ls [.int z1, .ref (a1 7)]) rfl ?_
  have h2 := inb_in (ck_t hF)
  have hF := ck_s hF
  refine va_iald hx hb hK hP 8 0 rfl rfl h2 dX4_weightOf_12 ?_
  cases hF
  rw [hQ]
  exact jx_iret hx hb hr rfl hlocks hP hD hS dX4_weightOf_13 rfl (Nat.le_of_ble_eq_true rfl) (Nat.le_of_ble_eq_true rfl)
def F_X4_spanOf (x : Xv) (b : Bv) (p0 : Int32) : Option ((Int32) ⊕ (String)) := obx (F_X4_requirePosition x b p0) (fun z1 => ck (inb z1 8) (some (.inl ((B_places b) z1.toNatClampNeg)))) (fun z1 => some (.inr z1))
set_option maxHeartbeats 4000000 in
set_option maxRecDepth 100000 in
theorem c_X4_spanOf (g : GG) (l : Launch) (hst : l.stackTraces = false) (a a1 a2 a3 a4 a5 a6 a7 : Nat → Nat) (x : Xv) (b : Bv) (p0 : Int32) (z : (Int32) ⊕ (String)) (hF : F_X4_spanOf x b p0 = some z) : MX g l yX4_spanOf cX4_spanOf 2 (some .int) ({ frames := 7, cells := 1, slots := 6, locals := 112 } : Room) [.ref (a 0), .int p0] [wX g a a1 a2 a3 a4 a5 a6 a7 x, wB g a1 b] 1 6 (Sum.elim (fun y => .inl (some (.int y), [wX g a a1 a2 a3 a4 a5 a6 a7 x, wB g a1 b])) (fun y => .inr (y, [wX g a a1 a2 a3 a4 a5 a6 a7 x, wB g a1 b])) z) := by
  refine MX.bg (by decide) (Nat.le_of_ble_eq_true rfl) ?_
  intro p e s m below meth c A Q hQ hx hb hr hml hown hts hlocks htab hK hE hA hP hD hS ls hl
  rw [F_X4_spanOf] at hF
  have hl : lv_has ls 2 [(0, .ref (a 0)), (1, .int p0)] := hl
  refine lv_aload_n hx hb dX4_spanOf_0 rfl (lv_at hl 0 rfl) ?_
  refine va_get (D := g.1) (ci := 8) (v := .ref (a1 0)) (C := RX4) (T := TX4) (N := 12) hx hb hts inX4 hown hK hP 0 rfl rfl 0 (by decide) (hts _ mw_223) (fun _ h9 => h9) rfl dX4_spanOf_1 ?_
  refine va_getN (D := g.1) (ci := 4) (v := .ref (a1 8)) (C := RX0) (T := TX0) (N := 17) hx hb hts inX0 hown hK hP 1 rfl rfl 9 (by decide) (hE.nf 13 rfl) (fun _ h9 => h9) rfl dX4_spanOf_4 ?_
  refine lv_aload_n hx hb dX4_spanOf_7 rfl (lv_at hl 0 rfl) ?_
  refine lv_iload_n hx hb dX4_spanOf_8 rfl (lv_at hl 1 rfl) ?_
  rcases ob_bx hF with ⟨z1, hz1, hF⟩ | ⟨z1, hz1, hF⟩
  rotate_left
  · refine cx_x (csR := []) (csF := [wX g a a1 a2 a3 a4 a5 a6 a7 x, wB g a1 b]) (rest := [.ref (a1 8)]) hx hb hml hown hts hK hE hA hl hP hD hS (c_X4_requirePosition g l hst a a1 a2 a3 a4 a5 a6 a7 x b p0 (.inr z1) hz1) [0, 1] [] [0, 1] ⟨rfl, rfl, rfl, rfl, rfl, rfl, rfl⟩ ⟨0, 8, _, _, rfl, rfl, rfl⟩ 1 (jb_giV mw_1052 mw_1054 ms_23 mw_1 mw_1055) ⟨rfl, rfl⟩ (by decide +kernel) ⟨⟨(Nat.le_of_ble_eq_true rfl), (Nat.le_of_ble_eq_true rfl)⟩, (Nat.le_of_ble_eq_true rfl), (Nat.le_of_ble_eq_true rfl)⟩ ⟨rfl, rfl⟩ (Nat.le_of_ble_eq_true rfl) dX4_spanOf_9 (fun H locs q9 ce hP hD hS h1 h2 h3 => ?_)
    cases hF
    rw [hQ]
    exact jx_out htab hlocks hP hD hS h1 h2 h3 rfl (Nat.le_of_ble_eq_true rfl) (Nat.le_of_ble_eq_true rfl)
  refine cx_n (csR := []) (csF := [wX g a a1 a2 a3 a4 a5 a6 a7 x, wB g a1 b]) (rest := [.ref (a1 8)]) hx hb hml hown hts hK hE hA hl hP hD hS (c_X4_requirePosition g l hst a a1 a2 a3 a4 a5 a6 a7 x b p0 (.inl z1) hz1) [0, 1] [] [0, 1] ⟨rfl, rfl, rfl, rfl, rfl, rfl, rfl⟩ ⟨0, 8, _, _, rfl, rfl, rfl⟩ 1 (jb_giV mw_1052 mw_1054 ms_23 mw_1 mw_1055) ⟨rfl, rfl⟩ (by decide +kernel) ⟨⟨(Nat.le_of_ble_eq_true rfl), (Nat.le_of_ble_eq_true rfl)⟩, (Nat.le_of_ble_eq_true rfl), (Nat.le_of_ble_eq_true rfl)⟩ ⟨rfl, rfl⟩ (Nat.le_of_ble_eq_true rfl) dX4_spanOf_9 (fun H locs hP hD hS => ?_)
  refine W.eq (g2 := F0 m 12 ls [.int z1, .ref (a1 8)]) rfl ?_
  have h2 := inb_in (ck_t hF)
  have hF := ck_s hF
  refine va_iald hx hb hK hP 9 0 rfl rfl h2 dX4_spanOf_12 ?_
  cases hF
  rw [hQ]
  exact jx_iret hx hb hr rfl hlocks hP hD hS dX4_spanOf_13 rfl (Nat.le_of_ble_eq_true rfl) (Nat.le_of_ble_eq_true rfl)
def F_X4_tollOf (x : Xv) (b : Bv) (p0 : Int32) : Option ((Int32) ⊕ (String)) := obx (F_X4_requirePosition x b p0) (fun z1 => (F_X0_tollAt b z1).bind (fun z2 => some (.inl z2))) (fun z1 => some (.inr z1))
set_option maxHeartbeats 4000000 in
set_option maxRecDepth 100000 in
theorem c_X4_tollOf (g : GG) (l : Launch) (hst : l.stackTraces = false) (a a1 a2 a3 a4 a5 a6 a7 : Nat → Nat) (x : Xv) (b : Bv) (p0 : Int32) (z : (Int32) ⊕ (String)) (hF : F_X4_tollOf x b p0 = some z) : MX g l yX4_tollOf cX4_tollOf 2 (some .int) ({ frames := 7, cells := 1, slots := 6, locals := 112 } : Room) [.ref (a 0), .int p0] [wX g a a1 a2 a3 a4 a5 a6 a7 x, wB g a1 b] 1 6 (Sum.elim (fun y => .inl (some (.int y), [wX g a a1 a2 a3 a4 a5 a6 a7 x, wB g a1 b])) (fun y => .inr (y, [wX g a a1 a2 a3 a4 a5 a6 a7 x, wB g a1 b])) z) := by
  refine MX.bg (by decide) (Nat.le_of_ble_eq_true rfl) ?_
  intro p e s m below meth c A Q hQ hx hb hr hml hown hts hlocks htab hK hE hA hP hD hS ls hl
  rw [F_X4_tollOf] at hF
  have hl : lv_has ls 2 [(0, .ref (a 0)), (1, .int p0)] := hl
  refine lv_aload_n hx hb dX4_tollOf_0 rfl (lv_at hl 0 rfl) ?_
  refine va_get (D := g.1) (ci := 8) (v := .ref (a1 0)) (C := RX4) (T := TX4) (N := 12) hx hb hts inX4 hown hK hP 0 rfl rfl 0 (by decide) (hts _ mw_223) (fun _ h9 => h9) rfl dX4_tollOf_1 ?_
  refine lv_aload_n hx hb dX4_tollOf_4 rfl (lv_at hl 0 rfl) ?_
  refine lv_iload_n hx hb dX4_tollOf_5 rfl (lv_at hl 1 rfl) ?_
  rcases ob_bx hF with ⟨z1, hz1, hF⟩ | ⟨z1, hz1, hF⟩
  rotate_left
  · refine cx_x (csR := []) (csF := [wX g a a1 a2 a3 a4 a5 a6 a7 x, wB g a1 b]) (rest := [.ref (a1 0)]) hx hb hml hown hts hK hE hA hl hP hD hS (c_X4_requirePosition g l hst a a1 a2 a3 a4 a5 a6 a7 x b p0 (.inr z1) hz1) [0, 1] [] [0, 1] ⟨rfl, rfl, rfl, rfl, rfl, rfl, rfl⟩ ⟨0, 8, _, _, rfl, rfl, rfl⟩ 1 (jb_giV mw_1052 mw_1054 ms_23 mw_1 mw_1055) ⟨rfl, rfl⟩ (by decide +kernel) ⟨⟨(Nat.le_of_ble_eq_true rfl), (Nat.le_of_ble_eq_true rfl)⟩, (Nat.le_of_ble_eq_true rfl), (Nat.le_of_ble_eq_true rfl)⟩ ⟨rfl, rfl⟩ (Nat.le_of_ble_eq_true rfl) dX4_tollOf_6 (fun H locs q9 ce hP hD hS h1 h2 h3 => ?_)
    cases hF
    rw [hQ]
    exact jx_out htab hlocks hP hD hS h1 h2 h3 rfl (Nat.le_of_ble_eq_true rfl) (Nat.le_of_ble_eq_true rfl)
  refine cx_n (csR := []) (csF := [wX g a a1 a2 a3 a4 a5 a6 a7 x, wB g a1 b]) (rest := [.ref (a1 0)]) hx hb hml hown hts hK hE hA hl hP hD hS (c_X4_requirePosition g l hst a a1 a2 a3 a4 a5 a6 a7 x b p0 (.inl z1) hz1) [0, 1] [] [0, 1] ⟨rfl, rfl, rfl, rfl, rfl, rfl, rfl⟩ ⟨0, 8, _, _, rfl, rfl, rfl⟩ 1 (jb_giV mw_1052 mw_1054 ms_23 mw_1 mw_1055) ⟨rfl, rfl⟩ (by decide +kernel) ⟨⟨(Nat.le_of_ble_eq_true rfl), (Nat.le_of_ble_eq_true rfl)⟩, (Nat.le_of_ble_eq_true rfl), (Nat.le_of_ble_eq_true rfl)⟩ ⟨rfl, rfl⟩ (Nat.le_of_ble_eq_true rfl) dX4_tollOf_6 (fun H locs hP hD hS => ?_)
  refine W.eq (g2 := F0 m 9 ls [.int z1, .ref (a1 0)]) rfl ?_
  obtain ⟨z2, hz2, hF⟩ := ob_bind hF
  refine cl_i (csR := [wX g a a1 a2 a3 a4 a5 a6 a7 x]) (csF := [wX g a a1 a2 a3 a4 a5 a6 a7 x, wB g a1 b]) (rest := []) hx hb hml hown hts hK hE hA hl hP hD hS (c_X0_tollAt g l a1 b z1 z2 hz2) [1] [0] [0, 1] ⟨rfl, rfl, rfl, rfl, rfl, rfl, rfl⟩ ⟨0, 4, _, _, rfl, rfl, rfl⟩ 1 (jb_giV mw_1075 mw_997 mw_998 mw_2 mw_999) ⟨rfl, rfl⟩ (by decide +kernel) ⟨⟨(Nat.le_of_ble_eq_true rfl), (Nat.le_of_ble_eq_true rfl)⟩, (Nat.le_of_ble_eq_true rfl), (Nat.le_of_ble_eq_true rfl)⟩ ⟨rfl, rfl⟩ (Nat.le_of_ble_eq_true rfl) dX4_tollOf_9 (fun H locs hP hD hS => ?_)
  cases hF
  rw [hQ]
  exact jx_iret hx hb hr rfl hlocks hP hD hS dX4_tollOf_12 rfl (Nat.le_of_ble_eq_true rfl) (Nat.le_of_ble_eq_true rfl)
def F_X4_spanByStrength_L2 (x : Xv) (b : Bv) (y1 : Int32) (k : Int32 → Option ((Int32) ⊕ (String))) : Nat → Int32 → Option ((Int32) ⊕ (String))
  | 0, _ => none
  | n + 1, x2 => if (B_spans b) ≤ x2 then k x2 else (F_X0_rankOf b x2).bind (fun z1 => if ¬ z1 = y1 then F_X4_spanByStrength_L2 x b y1 k n (x2 + 1) else some (.inl x2))
def F_X4_spanByStrength (x : Xv) (b : Bv) (p0 : Int32) : Option ((Int32) ⊕ (String)) := F_X4_spanByStrength_L2 x b p0 (fun x2 => some (.inr ("java/util/NoSuchElementException"))) 1000 0
set_option maxHeartbeats 4000000 in
set_option maxRecDepth 100000 in
theorem c_X4_spanByStrength (g : GG) (l : Launch) (hst : l.stackTraces = false) (a a1 a2 a3 a4 a5 a6 a7 : Nat → Nat) (x : Xv) (b : Bv) (p0 : Int32) (z : (Int32) ⊕ (String)) (hF : F_X4_spanByStrength x b p0 = some z) : MX g l yX4_spanByStrength cX4_spanByStrength 3 (some .int) ({ frames := 6, cells := 1, slots := 6, locals := 90 } : Room) [.ref (a 0), .int p0] [wX g a a1 a2 a3 a4 a5 a6 a7 x, wB g a1 b] 1 6 (Sum.elim (fun y => .inl (some (.int y), [wX g a a1 a2 a3 a4 a5 a6 a7 x, wB g a1 b])) (fun y => .inr (y, [wX g a a1 a2 a3 a4 a5 a6 a7 x, wB g a1 b])) z) := by
  refine MX.bg (by decide) (Nat.le_of_ble_eq_true rfl) ?_
  intro p e s m below meth c A Q hQ hx hb hr hml hown hts hlocks htab hK hE hA hP hD hS ls hl
  rw [F_X4_spanByStrength] at hF
  have hl : lv_has ls 3 [(0, .ref (a 0)), (1, .int p0)] := hl
  refine lv_iconst (v := 0) hx hb dX4_spanByStrength_0 (by decide) ?_
  refine lv_istore_n (lv' := [(2, .int 0), (0, .ref (a 0)), (1, .int p0)]) hx hb dX4_spanByStrength_1 rfl hl (by decide) rfl (fun ls hl => ?_)
  obtain ⟨k1, ek1, hF⟩ := ob_k (F := fun k9 => F_X4_spanByStrength_L2 x b p0 k9 1000 0) hF
  have loop1 : ∀ (n9 : Nat) (x1 : Int32), F_X4_spanByStrength_L2 x b p0 k1 n9 x1 = some z → ∀ (H : Heap) (locs : List Loc), va_P g.1 vwCl ([wX g a a1 a2 a3 a4 a5 a6 a7 x, wB g a1 b] : List va_W).flatten H → va_D A ([wX g a a1 a2 a3 a4 a5 a6 a7 x, wB g a1 b] : List va_W).flatten → va_S A s.heap H locs → ∀ ls : Array Slot, lv_has ls 3 [(0, .ref (a 0)), (1, .int p0), (2, .int x1)] → W p l e ({ frames := 6, cells := 1, slots := 6, locals := 90 } : Room) s m ([.ref (a 0), .int p0] : List Value).toArray below meth c H locs 0 0 Q (F0 m 2 ls []) := by
    intro n9
    induction n9 with
    | zero => intro x1 hF; rw [F_X4_spanByStrength_L2] at hF; cases hF
    | succ n9 ih1 =>
      intro x1 hF H locs hP hD hS ls hl
      rw [F_X4_spanByStrength_L2] at hF
      refine lv_iload_n hx hb dX4_spanByStrength_2 rfl (lv_at hl 2 rfl) ?_
      refine lv_aload_n hx hb dX4_spanByStrength_3 rfl (lv_at hl 0 rfl) ?_
      refine va_get (D := g.1) (ci := 8) (v := .ref (a1 0)) (C := RX4) (T := TX4) (N := 12) hx hb hts inX4 hown hK hP 0 rfl rfl 0 (by decide) (hts _ mw_223) (fun _ h9 => h9) rfl dX4_spanByStrength_4 ?_
      refine va_getN (D := g.1) (ci := 4) (v := .int (B_spans b)) (C := RX0) (T := TX0) (N := 17) hx hb hts inX0 hown hK hP 1 rfl rfl 0 (by decide) (hE.nf 1 rfl) (fun _ h9 => h9) rfl dX4_spanByStrength_7 ?_
      refine lv_icmp_ge (tgt := 33) hx hb dX4_spanByStrength_10 (by decide) (fun c2 => ?_) (fun c2 => ?_)
      · have hF := ob_pos c2 hF
        rw [ek1] at hF
        cases hF
        rw [hQ]
        exact jx_throwEN hst thw_123 hx hb (hml.trans hl.1.symm) hown hts hE htab hlocks 6 rfl hP hD hS dX4_spanByStrength_33 dX4_spanByStrength_36 dX4_spanByStrength_37 dX4_spanByStrength_39 dX4_spanByStrength_42 ⟨(Nat.le_of_ble_eq_true rfl), (Nat.le_of_ble_eq_true rfl), (Nat.le_of_ble_eq_true rfl), (Nat.le_of_ble_eq_true rfl)⟩ (Nat.le_of_ble_eq_true rfl) (Nat.le_of_ble_eq_true rfl) rfl
      · have hF := ob_neg c2 hF
        refine lv_aload_n hx hb dX4_spanByStrength_13 rfl (lv_at hl 0 rfl) ?_
        refine va_get (D := g.1) (ci := 8) (v := .ref (a1 0)) (C := RX4) (T := TX4) (N := 12) hx hb hts inX4 hown hK hP 0 rfl rfl 0 (by decide) (hts _ mw_223) (fun _ h9 => h9) rfl dX4_spanByStrength_14 ?_
        refine lv_iload_n hx hb dX4_spanByStrength_17 rfl (lv_at hl 2 rfl) ?_
        obtain ⟨z3, hz3, hF⟩ := ob_bind hF
        refine cl_i (csR := [wX g a a1 a2 a3 a4 a5 a6 a7 x]) (csF := [wX g a a1 a2 a3 a4 a5 a6 a7 x, wB g a1 b]) (rest := []) hx hb hml hown hts hK hE hA hl hP hD hS (c_X0_rankOf g l a1 b x1 z3 hz3) [1] [0] [0, 1] ⟨rfl, rfl, rfl, rfl, rfl, rfl, rfl⟩ ⟨0, 4, _, _, rfl, rfl, rfl⟩ 1 (jb_giV mw_945 mw_946 mw_947 mw_2 mw_948) ⟨rfl, rfl⟩ (by decide +kernel) ⟨⟨(Nat.le_of_ble_eq_true rfl), (Nat.le_of_ble_eq_true rfl)⟩, (Nat.le_of_ble_eq_true rfl), (Nat.le_of_ble_eq_true rfl)⟩ ⟨rfl, rfl⟩ (Nat.le_of_ble_eq_true rfl) dX4_spanByStrength_18 (fun H locs hP hD hS => ?_)
        refine lv_iload_n hx hb dX4_spanByStrength_21 rfl (lv_at hl 1 rfl) ?_
        refine lv_icmp_ne (tgt := 27) hx hb dX4_spanByStrength_22 (by decide) (fun c4 => ?_) (fun c4 => ?_)
        · have hF := ob_pos c4 hF
          refine lv_iinc (v := x1 + 1) (lv' := [(2, .int (x1 + 1)), (0, .ref (a 0)), (1, .int p0)]) hx hb dX4_spanByStrength_27 hl (k := 2) rfl (by rfl) (by decide) rfl (fun ls hl => ?_)
          refine lv_goto (tgt := 2) hx hb dX4_spanByStrength_30 (by decide) ?_
          exact ih1 _ hF _ _ hP hD hS ls (lv_sub hl [1, 2, 0] rfl)
        · have hF := ob_nneg c4 hF
          refine lv_iload_n hx hb dX4_spanByStrength_25 rfl (lv_at hl 2 rfl) ?_
          cases hF
          rw [hQ]
          exact jx_iret hx hb hr rfl hlocks hP hD hS dX4_spanByStrength_26 rfl (Nat.le_of_ble_eq_true rfl) (Nat.le_of_ble_eq_true rfl)
  exact loop1 1000 _ hF _ _ hP hD hS ls (lv_sub hl [1, 2, 0] rfl)
def F_X4_isStrained (x : Xv) (b : Bv) (p0 : Int32) : Option ((Bool) ⊕ (String)) := obx (F_X4_requireSpan x b p0) (fun z1 => (F_X0_strains b p0).bind (fun z2 => some (.inl z2))) (fun z1 => some (.inr z1))
set_option maxHeartbeats 4000000 in
set_option maxRecDepth 100000 in
theorem c_X4_isStrained (g : GG) (l : Launch) (hst : l.stackTraces = false) (a a1 a2 a3 a4 a5 a6 a7 : Nat → Nat) (x : Xv) (b : Bv) (p0 : Int32) (z : (Bool) ⊕ (String)) (hF : F_X4_isStrained x b p0 = some z) : MX g l yX4_isStrained cX4_isStrained 2 (some .boolean) ({ frames := 7, cells := 1, slots := 6, locals := 111 } : Room) [.ref (a 0), .int p0] [wX g a a1 a2 a3 a4 a5 a6 a7 x, wB g a1 b] 1 6 (Sum.elim (fun y => .inl (some (.int (bi y)), [wX g a a1 a2 a3 a4 a5 a6 a7 x, wB g a1 b])) (fun y => .inr (y, [wX g a a1 a2 a3 a4 a5 a6 a7 x, wB g a1 b])) z) := by
  refine MX.bg (by decide) (Nat.le_of_ble_eq_true rfl) ?_
  intro p e s m below meth c A Q hQ hx hb hr hml hown hts hlocks htab hK hE hA hP hD hS ls hl
  rw [F_X4_isStrained] at hF
  have hl : lv_has ls 2 [(0, .ref (a 0)), (1, .int p0)] := hl
  refine lv_aload_n hx hb dX4_isStrained_0 rfl (lv_at hl 0 rfl) ?_
  refine lv_iload_n hx hb dX4_isStrained_1 rfl (lv_at hl 1 rfl) ?_
  rcases ob_bx hF with ⟨z1, hz1, hF⟩ | ⟨z1, hz1, hF⟩
  rotate_left
  · refine cx_x (csR := []) (csF := [wX g a a1 a2 a3 a4 a5 a6 a7 x, wB g a1 b]) (rest := []) hx hb hml hown hts hK hE hA hl hP hD hS (c_X4_requireSpan g l hst a a1 a2 a3 a4 a5 a6 a7 x b p0 (.inr z1) hz1) [0, 1] [] [0, 1] ⟨rfl, rfl, rfl, rfl, rfl, rfl, rfl⟩ ⟨0, 8, _, _, rfl, rfl, rfl⟩ 1 (jb_giV mw_854 mw_856 ms_11 mw_1 mw_857) ⟨rfl, rfl⟩ (by decide +kernel) ⟨⟨(Nat.le_of_ble_eq_true rfl), (Nat.le_of_ble_eq_true rfl)⟩, (Nat.le_of_ble_eq_true rfl), (Nat.le_of_ble_eq_true rfl)⟩ ⟨rfl, rfl⟩ (Nat.le_of_ble_eq_true rfl) dX4_isStrained_2 (fun H locs q9 ce hP hD hS h1 h2 h3 => ?_)
    cases hF
    rw [hQ]
    exact jx_out htab hlocks hP hD hS h1 h2 h3 rfl (Nat.le_of_ble_eq_true rfl) (Nat.le_of_ble_eq_true rfl)
  refine cx_n (csR := []) (csF := [wX g a a1 a2 a3 a4 a5 a6 a7 x, wB g a1 b]) (rest := []) hx hb hml hown hts hK hE hA hl hP hD hS (c_X4_requireSpan g l hst a a1 a2 a3 a4 a5 a6 a7 x b p0 (.inl z1) hz1) [0, 1] [] [0, 1] ⟨rfl, rfl, rfl, rfl, rfl, rfl, rfl⟩ ⟨0, 8, _, _, rfl, rfl, rfl⟩ 1 (jb_giV mw_854 mw_856 ms_11 mw_1 mw_857) ⟨rfl, rfl⟩ (by decide +kernel) ⟨⟨(Nat.le_of_ble_eq_true rfl), (Nat.le_of_ble_eq_true rfl)⟩, (Nat.le_of_ble_eq_true rfl), (Nat.le_of_ble_eq_true rfl)⟩ ⟨rfl, rfl⟩ (Nat.le_of_ble_eq_true rfl) dX4_isStrained_2 (fun H locs hP hD hS => ?_)
  refine W.eq (g2 := F0 m 5 ls []) rfl ?_
  refine lv_aload_n hx hb dX4_isStrained_5 rfl (lv_at hl 0 rfl) ?_
  refine va_get (D := g.1) (ci := 8) (v := .ref (a1 0)) (C := RX4) (T := TX4) (N := 12) hx hb hts inX4 hown hK hP 0 rfl rfl 0 (by decide) (hts _ mw_223) (fun _ h9 => h9) rfl dX4_isStrained_6 ?_
  refine lv_iload_n hx hb dX4_isStrained_9 rfl (lv_at hl 1 rfl) ?_
  obtain ⟨z2, hz2, hF⟩ := ob_bind hF
  refine cl_i (csR := [wX g a a1 a2 a3 a4 a5 a6 a7 x]) (csF := [wX g a a1 a2 a3 a4 a5 a6 a7 x, wB g a1 b]) (rest := []) hx hb hml hown hts hK hE hA hl hP hD hS (c_X0_strains g l a1 b p0 z2 hz2) [1] [0] [0, 1] ⟨rfl, rfl, rfl, rfl, rfl, rfl, rfl⟩ ⟨0, 4, _, _, rfl, rfl, rfl⟩ 1 (jb_giV mw_693 mw_694 mw_695 mw_2 mw_696) ⟨rfl, rfl⟩ (by decide +kernel) ⟨⟨(Nat.le_of_ble_eq_true rfl), (Nat.le_of_ble_eq_true rfl)⟩, (Nat.le_of_ble_eq_true rfl), (Nat.le_of_ble_eq_true rfl)⟩ ⟨rfl, rfl⟩ (Nat.le_of_ble_eq_true rfl) dX4_isStrained_10 (fun H locs hP hD hS => ?_)
  cases hF
  rw [hQ]
  exact jx_iret hx hb hr (bi_nar _) hlocks hP hD hS dX4_isStrained_13 rfl (Nat.le_of_ble_eq_true rfl) (Nat.le_of_ble_eq_true rfl)
def F_X4_hoursUntilBears_L23 (x : Xv) (b : Bv) (y1 : Int32) (y2 : Int32) (k : Bv → Int32 → Option ((Int32 × Bv) ⊕ (String × Bv))) : Nat → Bv → Int32 → Option ((Int32 × Bv) ⊕ (String × Bv))
  | 0, _, _ => none
  | n + 1, b2, x3 => if 24 < x3 then k b2 x3 else (F_X0_strengthOf b2 y1).bind (fun z4 => if z4 < y2 then ck (inb y1 10) (ck (inb y1 10) (F_X4_hoursUntilBears_L23 x b y1 y2 k n (mkB (B_spans b2) (B_lengths b2) (B_jars b2) (upd (B_ages b2) y1.toNatClampNeg (((B_ages b2) y1.toNatClampNeg) + 1)) (B_cracks b2) (B_stresses b2) (B_vehicles b2) (B_numbers b2) (B_weights b2) (B_places b2) (B_nextNumber b2) (B_hour b2) (B_rate b2) (B_till b2) (B_paid b2) (B_crossed b2) (B_sunk b2)) (x3 + 1))) else some (.inl (x3, b2)))
def F_X4_hoursUntilBears (x : Xv) (b : Bv) (t : Bv) (p0 : Int32) (p1 : Int32) : Option ((Int32 × Bv) ⊕ (String × Bv)) := obx (F_X4_requireSpan x b p0) (fun z1 => obx (F_X4_requireWeight x p1) (fun z2 => (F_X0_copyFrom t b).bind (fun z3 => F_X4_hoursUntilBears_L23 x b p0 p1 (fun b5 x6 => some (.inr ("java/util/NoSuchElementException", b5))) 1000 z3 0)) (fun z2 => some (.inr (z2, t)))) (fun z1 => some (.inr (z1, t)))
set_option maxHeartbeats 4000000 in
set_option maxRecDepth 100000 in
theorem c_X4_hoursUntilBears (g : GG) (l : Launch) (hst : l.stackTraces = false) (a a1 a2 a3 a4 a5 a6 a7 : Nat → Nat) (x : Xv) (b : Bv) (t : Bv) (p0 : Int32) (p1 : Int32) (z : (Int32 × Bv) ⊕ (String × Bv)) (hF : F_X4_hoursUntilBears x b t p0 p1 = some z) : MX g l yX4_hoursUntilBears cX4_hoursUntilBears 4 (some .int) ({ frames := 7, cells := 3, slots := 18, locals := 121 } : Room) [.ref (a 0), .int p0, .int p1] [wX g a a1 a2 a3 a4 a5 a6 a7 x, wB g a1 b, wB g a2 t] 3 18 (Sum.elim (fun y => .inl (some (.int y.1), [wX g a a1 a2 a3 a4 a5 a6 a7 x, wB g a1 b, wB g a2 y.2])) (fun y => .inr (y.1, [wX g a a1 a2 a3 a4 a5 a6 a7 x, wB g a1 b, wB g a2 y.2])) z) := by
  refine MX.bg (by decide) (Nat.le_of_ble_eq_true rfl) ?_
  intro p e s m below meth c A Q hQ hx hb hr hml hown hts hlocks htab hK hE hA hP hD hS ls hl
  rw [F_X4_hoursUntilBears] at hF
  have hl : lv_has ls 4 [(0, .ref (a 0)), (1, .int p0), (2, .int p1)] := hl
  refine lv_aload_n hx hb dX4_hoursUntilBears_0 rfl (lv_at hl 0 rfl) ?_
  refine lv_iload_n hx hb dX4_hoursUntilBears_1 rfl (lv_at hl 1 rfl) ?_
  rcases ob_bx hF with ⟨z1, hz1, hF⟩ | ⟨z1, hz1, hF⟩
  rotate_left
  · refine cx_x (csR := [wB g a2 t]) (csF := [wX g a a1 a2 a3 a4 a5 a6 a7 x, wB g a1 b, wB g a2 t]) (rest := []) hx hb hml hown hts hK hE hA hl hP hD hS (c_X4_requireSpan g l hst a a1 a2 a3 a4 a5 a6 a7 x b p0 (.inr z1) hz1) [0, 1] [2] [1, 2, 0] ⟨rfl, rfl, rfl, rfl, rfl, rfl, rfl⟩ ⟨0, 8, _, _, rfl, rfl, rfl⟩ 1 (jb_giV mw_854 mw_856 ms_11 mw_1 mw_857) ⟨rfl, rfl⟩ (by decide +kernel) ⟨⟨(Nat.le_of_ble_eq_true rfl), (Nat.le_of_ble_eq_true rfl)⟩, (Nat.le_of_ble_eq_true rfl), (Nat.le_of_ble_eq_true rfl)⟩ ⟨rfl, rfl⟩ (Nat.le_of_ble_eq_true rfl) dX4_hoursUntilBears_2 (fun H locs q9 ce hP hD hS h1 h2 h3 => ?_)
    cases hF
    rw [hQ]
    exact jx_out htab hlocks hP hD hS h1 h2 h3 rfl (Nat.le_of_ble_eq_true rfl) (Nat.le_of_ble_eq_true rfl)
  refine cx_n (csR := [wB g a2 t]) (csF := [wX g a a1 a2 a3 a4 a5 a6 a7 x, wB g a1 b, wB g a2 t]) (rest := []) hx hb hml hown hts hK hE hA hl hP hD hS (c_X4_requireSpan g l hst a a1 a2 a3 a4 a5 a6 a7 x b p0 (.inl z1) hz1) [0, 1] [2] [1, 2, 0] ⟨rfl, rfl, rfl, rfl, rfl, rfl, rfl⟩ ⟨0, 8, _, _, rfl, rfl, rfl⟩ 1 (jb_giV mw_854 mw_856 ms_11 mw_1 mw_857) ⟨rfl, rfl⟩ (by decide +kernel) ⟨⟨(Nat.le_of_ble_eq_true rfl), (Nat.le_of_ble_eq_true rfl)⟩, (Nat.le_of_ble_eq_true rfl), (Nat.le_of_ble_eq_true rfl)⟩ ⟨rfl, rfl⟩ (Nat.le_of_ble_eq_true rfl) dX4_hoursUntilBears_2 (fun H locs hP hD hS => ?_)
  refine W.eq (g2 := F0 m 5 ls []) rfl ?_
  refine lv_aload_n hx hb dX4_hoursUntilBears_5 rfl (lv_at hl 0 rfl) ?_
  refine lv_iload_n hx hb dX4_hoursUntilBears_6 rfl (lv_at hl 2 rfl) ?_
  rcases ob_bx hF with ⟨z2, hz2, hF⟩ | ⟨z2, hz2, hF⟩
  rotate_left
  · refine cx_x (csR := [wB g a1 b, wB g a2 t]) (csF := [wX g a a1 a2 a3 a4 a5 a6 a7 x, wB g a1 b, wB g a2 t]) (rest := []) hx hb hml hown hts hK hE hA hl hP hD hS (c_X4_requireWeight g l hst a a1 a2 a3 a4 a5 a6 a7 x p1 (.inr z2) hz2) [0] [1, 2] [2, 0, 1] ⟨rfl, rfl, rfl, rfl, rfl, rfl, rfl⟩ ⟨0, 8, _, _, rfl, rfl, rfl⟩ 1 (jb_giV mw_909 mw_911 ms_12 mw_1 mw_912) ⟨rfl, rfl⟩ (by decide +kernel) ⟨⟨(Nat.le_of_ble_eq_true rfl), (Nat.le_of_ble_eq_true rfl)⟩, (Nat.le_of_ble_eq_true rfl), (Nat.le_of_ble_eq_true rfl)⟩ ⟨rfl, rfl⟩ (Nat.le_of_ble_eq_true rfl) dX4_hoursUntilBears_7 (fun H locs q9 ce hP hD hS h1 h2 h3 => ?_)
    cases hF
    rw [hQ]
    exact jx_out htab hlocks hP hD hS h1 h2 h3 rfl (Nat.le_of_ble_eq_true rfl) (Nat.le_of_ble_eq_true rfl)
  refine cx_n (csR := [wB g a1 b, wB g a2 t]) (csF := [wX g a a1 a2 a3 a4 a5 a6 a7 x, wB g a1 b, wB g a2 t]) (rest := []) hx hb hml hown hts hK hE hA hl hP hD hS (c_X4_requireWeight g l hst a a1 a2 a3 a4 a5 a6 a7 x p1 (.inl z2) hz2) [0] [1, 2] [2, 0, 1] ⟨rfl, rfl, rfl, rfl, rfl, rfl, rfl⟩ ⟨0, 8, _, _, rfl, rfl, rfl⟩ 1 (jb_giV mw_909 mw_911 ms_12 mw_1 mw_912) ⟨rfl, rfl⟩ (by decide +kernel) ⟨⟨(Nat.le_of_ble_eq_true rfl), (Nat.le_of_ble_eq_true rfl)⟩, (Nat.le_of_ble_eq_true rfl), (Nat.le_of_ble_eq_true rfl)⟩ ⟨rfl, rfl⟩ (Nat.le_of_ble_eq_true rfl) dX4_hoursUntilBears_7 (fun H locs hP hD hS => ?_)
  refine W.eq (g2 := F0 m 10 ls []) rfl ?_
  refine lv_aload_n hx hb dX4_hoursUntilBears_10 rfl (lv_at hl 0 rfl) ?_
  refine va_get (D := g.1) (ci := 8) (v := .ref (a2 0)) (C := RX4) (T := TX4) (N := 12) hx hb hts inX4 hown hK hP 0 rfl rfl 1 (by decide) (hts _ mw_224) (fun _ h9 => h9) rfl dX4_hoursUntilBears_11 ?_
  refine lv_aload_n hx hb dX4_hoursUntilBears_14 rfl (lv_at hl 0 rfl) ?_
  refine va_get (D := g.1) (ci := 8) (v := .ref (a1 0)) (C := RX4) (T := TX4) (N := 12) hx hb hts inX4 hown hK hP 0 rfl rfl 0 (by decide) (hts _ mw_223) (fun _ h9 => h9) rfl dX4_hoursUntilBears_15 ?_
  obtain ⟨z3, hz3, hF⟩ := ob_bind hF
  refine cl_v (csR := [wX g a a1 a2 a3 a4 a5 a6 a7 x]) (csF := [wX g a a1 a2 a3 a4 a5 a6 a7 x, wB g a1 b, wB g a2 z3]) (rest := []) hx hb hml hown hts hK hE hA hl hP hD hS (c_X0_copyFrom g l a2 a1 t b z3 hz3) [2, 1] [0] [0, 2, 1] ⟨rfl, rfl, rfl, rfl, rfl, rfl, rfl⟩ ⟨0, 4, _, _, rfl, rfl, rfl⟩ 1 (jb_giV mw_708 mw_709 mw_710 mw_2 mw_711) ⟨rfl, rfl⟩ (by decide +kernel) ⟨⟨(Nat.le_of_ble_eq_true rfl), (Nat.le_of_ble_eq_true rfl)⟩, (Nat.le_of_ble_eq_true rfl), (Nat.le_of_ble_eq_true rfl)⟩ ⟨rfl, rfl⟩ (Nat.le_of_ble_eq_true rfl) dX4_hoursUntilBears_18 (fun H locs hP hD hS => ?_)
  refine lv_iconst (v := 0) hx hb dX4_hoursUntilBears_21 (by decide) ?_
  refine lv_istore_n (lv' := [(3, .int 0), (0, .ref (a 0)), (1, .int p0), (2, .int p1)]) hx hb dX4_hoursUntilBears_22 rfl hl (by decide) rfl (fun ls hl => ?_)
  obtain ⟨k5, ek5, hF⟩ := ob_k (F := fun k9 => F_X4_hoursUntilBears_L23 x b p0 p1 k9 1000 z3 0) hF
  have loop5 : ∀ (n9 : Nat) (b4 : Bv) (x5 : Int32), F_X4_hoursUntilBears_L23 x b p0 p1 k5 n9 b4 x5 = some z → ∀ (H : Heap) (locs : List Loc), va_P g.1 vwCl ([wX g a a1 a2 a3 a4 a5 a6 a7 x, wB g a1 b, wB g a2 b4] : List va_W).flatten H → va_D A ([wX g a a1 a2 a3 a4 a5 a6 a7 x, wB g a1 b, wB g a2 b4] : List va_W).flatten → va_S A s.heap H locs → ∀ ls : Array Slot, lv_has ls 4 [(0, .ref (a 0)), (1, .int p0), (2, .int p1), (3, .int x5)] → W p l e ({ frames := 7, cells := 3, slots := 18, locals := 121 } : Room) s m ([.ref (a 0), .int p0, .int p1] : List Value).toArray below meth c H locs 2 12 Q (F0 m 23 ls []) := by
    intro n9
    induction n9 with
    | zero => intro b4 x5 hF; rw [F_X4_hoursUntilBears_L23] at hF; cases hF
    | succ n9 ih5 =>
      intro b4 x5 hF H locs hP hD hS ls hl
      rw [F_X4_hoursUntilBears_L23] at hF
      refine lv_iload_n hx hb dX4_hoursUntilBears_23 rfl (lv_at hl 3 rfl) ?_
      refine lv_bipush (v := 24) hx hb dX4_hoursUntilBears_24 (by decide) ?_
      refine lv_icmp_gt (tgt := 62) hx hb dX4_hoursUntilBears_26 (by decide) (fun c6 => ?_) (fun c6 => ?_)
      · have hF := ob_pos c6 hF
        rw [ek5] at hF
        cases hF
        rw [hQ]
        exact jx_throwEN hst thw_123 hx hb (hml.trans hl.1.symm) hown hts hE htab hlocks 4 rfl hP hD hS dX4_hoursUntilBears_62 dX4_hoursUntilBears_65 dX4_hoursUntilBears_66 dX4_hoursUntilBears_68 dX4_hoursUntilBears_71 ⟨(Nat.le_of_ble_eq_true rfl), (Nat.le_of_ble_eq_true rfl), (Nat.le_of_ble_eq_true rfl), (Nat.le_of_ble_eq_true rfl)⟩ (Nat.le_of_ble_eq_true rfl) (Nat.le_of_ble_eq_true rfl) rfl
      · have hF := ob_neg c6 hF
        refine lv_aload_n hx hb dX4_hoursUntilBears_29 rfl (lv_at hl 0 rfl) ?_
        refine va_get (D := g.1) (ci := 8) (v := .ref (a2 0)) (C := RX4) (T := TX4) (N := 12) hx hb hts inX4 hown hK hP 0 rfl rfl 1 (by decide) (hts _ mw_224) (fun _ h9 => h9) rfl dX4_hoursUntilBears_30 ?_
        refine lv_iload_n hx hb dX4_hoursUntilBears_33 rfl (lv_at hl 1 rfl) ?_
        obtain ⟨z7, hz7, hF⟩ := ob_bind hF
        refine cl_i (csR := [wX g a a1 a2 a3 a4 a5 a6 a7 x, wB g a1 b]) (csF := [wX g a a1 a2 a3 a4 a5 a6 a7 x, wB g a1 b, wB g a2 b4]) (rest := []) hx hb hml hown hts hK hE hA hl hP hD hS (c_X0_strengthOf g l a2 b4 p0 z7 hz7) [2] [0, 1] [0, 1, 2] ⟨rfl, rfl, rfl, rfl, rfl, rfl, rfl⟩ ⟨0, 4, _, _, rfl, rfl, rfl⟩ 1 (jb_giV mw_284 mw_285 mw_286 mw_2 mw_287) ⟨rfl, rfl⟩ (by decide +kernel) ⟨⟨(Nat.le_of_ble_eq_true rfl), (Nat.le_of_ble_eq_true rfl)⟩, (Nat.le_of_ble_eq_true rfl), (Nat.le_of_ble_eq_true rfl)⟩ ⟨rfl, rfl⟩ (Nat.le_of_ble_eq_true rfl) dX4_hoursUntilBears_34 (fun H locs hP hD hS => ?_)
        refine lv_iload_n hx hb dX4_hoursUntilBears_37 rfl (lv_at hl 2 rfl) ?_
        refine lv_icmp_lt (tgt := 43) hx hb dX4_hoursUntilBears_38 (by decide) (fun c8 => ?_) (fun c8 => ?_)
        · have hF := ob_pos c8 hF
          refine lv_aload_n hx hb dX4_hoursUntilBears_43 rfl (lv_at hl 0 rfl) ?_
          refine va_get (D := g.1) (ci := 8) (v := .ref (a2 0)) (C := RX4) (T := TX4) (N := 12) hx hb hts inX4 hown hK hP 0 rfl rfl 1 (by decide) (hts _ mw_224) (fun _ h9 => h9) rfl dX4_hoursUntilBears_44 ?_
          refine va_getN (D := g.1) (ci := 4) (v := .ref (a2 3)) (C := RX0) (T := TX0) (N := 17) hx hb hts inX0 hown hK hP 10 rfl rfl 3 (by decide) (hE.nf 5 rfl) (fun _ h9 => h9) rfl dX4_hoursUntilBears_47 ?_
          refine lv_iload_n hx hb dX4_hoursUntilBears_50 rfl (lv_at hl 1 rfl) ?_
          refine lv_dup2_11 hx hb dX4_hoursUntilBears_51 rfl rfl ?_
          have h9 := inb_in (ck_t hF)
          have hF := ck_s hF
          refine va_iald hx hb hK hP 13 0 rfl rfl h9 dX4_hoursUntilBears_52 ?_
          refine lv_iconst (v := 1) hx hb dX4_hoursUntilBears_53 (by decide) ?_
          refine lv_iadd hx hb dX4_hoursUntilBears_54 ?_
          have h10 := inb_in (ck_t hF)
          have hF := ck_s hF
          refine va_iast hx hb hK hP hD hS 13 0 rfl rfl h10 dX4_hoursUntilBears_55 (fun H locs hP hD hS => ?_)
          have hP : va_P g.1 vwCl ([wX g a a1 a2 a3 a4 a5 a6 a7 x, wB g a1 b, wBc g a2 (B_spans b4) (B_lengths b4) (B_jars b4) (upd (B_ages b4) p0.toNatClampNeg (((B_ages b4) p0.toNatClampNeg) + 1)) (B_cracks b4) (B_stresses b4) (B_vehicles b4) (B_numbers b4) (B_weights b4) (B_places b4) (B_nextNumber b4) (B_hour b4) (B_rate b4) (B_till b4) (B_paid b4) (B_crossed b4) (B_sunk b4)] : List va_W).flatten _ := hP
          have hD : va_D A ([wX g a a1 a2 a3 a4 a5 a6 a7 x, wB g a1 b, wBc g a2 (B_spans b4) (B_lengths b4) (B_jars b4) (upd (B_ages b4) p0.toNatClampNeg (((B_ages b4) p0.toNatClampNeg) + 1)) (B_cracks b4) (B_stresses b4) (B_vehicles b4) (B_numbers b4) (B_weights b4) (B_places b4) (B_nextNumber b4) (B_hour b4) (B_rate b4) (B_till b4) (B_paid b4) (B_crossed b4) (B_sunk b4)] : List va_W).flatten := hD
          refine lv_iinc (v := x5 + 1) (lv' := [(3, .int (x5 + 1)), (0, .ref (a 0)), (1, .int p0), (2, .int p1)]) hx hb dX4_hoursUntilBears_56 hl (k := 3) rfl (by rfl) (by decide) rfl (fun ls hl => ?_)
          refine lv_goto (tgt := 23) hx hb dX4_hoursUntilBears_59 (by decide) ?_
          exact ih5 _ _ hF _ _ hP hD hS ls (lv_sub hl [1, 2, 3, 0] rfl)
        · have hF := ob_neg c8 hF
          refine lv_iload_n hx hb dX4_hoursUntilBears_41 rfl (lv_at hl 3 rfl) ?_
          cases hF
          rw [hQ]
          exact jx_iret hx hb hr rfl hlocks hP hD hS dX4_hoursUntilBears_42 rfl (Nat.le_of_ble_eq_true rfl) (Nat.le_of_ble_eq_true rfl)
  exact loop5 1000 _ _ hF _ _ hP hD hS ls (lv_sub hl [1, 2, 3, 0] rfl)
def F_X4_hoursUntilBearsByDivision (x : Xv) (b : Bv) (p0 : Int32) (p1 : Int32) : Option ((Int32) ⊕ (String)) := obx (F_X4_requireSpan x b p0) (fun z1 => obx (F_X4_requireWeight x p1) (fun z2 => ck (inb p0 10) (ck (inb p0 10) (if ((B_jars b) p0.toNatClampNeg) < 1 then some (.inr ("java/util/NoSuchElementException")) else if 1 ≤ (10 - ((B_cracks b) p0.toNatClampNeg)) then ck (nz (10 - ((B_cracks b) p0.toNatClampNeg))) (ck (inb p0 10) (ck (nz ((B_jars b) p0.toNatClampNeg)) (if ((((((((p1 * 10) + (10 - ((B_cracks b) p0.toNatClampNeg))) - 1) / (10 - ((B_cracks b) p0.toNatClampNeg))) * ((B_lengths b) p0.toNatClampNeg)) + ((B_jars b) p0.toNatClampNeg)) - 1) / ((B_jars b) p0.toNatClampNeg)) ≤ 24 then ck (inb p0 10) (some (.inl (imax 0 (((((((((p1 * 10) + (10 - ((B_cracks b) p0.toNatClampNeg))) - 1) / (10 - ((B_cracks b) p0.toNatClampNeg))) * ((B_lengths b) p0.toNatClampNeg)) + ((B_jars b) p0.toNatClampNeg)) - 1) / ((B_jars b) p0.toNatClampNeg)) - ((B_ages b) p0.toNatClampNeg))))) else some (.inr ("java/util/NoSuchElementException"))))) else some (.inr ("java/util/NoSuchElementException"))))) (fun z2 => some (.inr z2))) (fun z1 => some (.inr z1))
set_option maxHeartbeats 4000000 in
set_option maxRecDepth 100000 in
theorem c_X4_hoursUntilBearsByDivision (g : GG) (l : Launch) (hst : l.stackTraces = false) (a a1 a2 a3 a4 a5 a6 a7 : Nat → Nat) (x : Xv) (b : Bv) (p0 : Int32) (p1 : Int32) (z : (Int32) ⊕ (String)) (hF : F_X4_hoursUntilBearsByDivision x b p0 p1 = some z) : MX g l yX4_hoursUntilBearsByDivision cX4_hoursUntilBearsByDivision 7 (some .int) ({ frames := 7, cells := 3, slots := 18, locals := 111 } : Room) [.ref (a 0), .int p0, .int p1] [wX g a a1 a2 a3 a4 a5 a6 a7 x, wB g a1 b] 3 18 (Sum.elim (fun y => .inl (some (.int y), [wX g a a1 a2 a3 a4 a5 a6 a7 x, wB g a1 b])) (fun y => .inr (y, [wX g a a1 a2 a3 a4 a5 a6 a7 x, wB g a1 b])) z) := by
  refine MX.bg (by decide) (Nat.le_of_ble_eq_true rfl) ?_
  intro p e s m below meth c A Q hQ hx hb hr hml hown hts hlocks htab hK hE hA hP hD hS ls hl
  rw [F_X4_hoursUntilBearsByDivision] at hF
  have hl : lv_has ls 7 [(0, .ref (a 0)), (1, .int p0), (2, .int p1)] := hl
  refine lv_aload_n hx hb dX4_hoursUntilBearsByDivision_0 rfl (lv_at hl 0 rfl) ?_
  refine lv_iload_n hx hb dX4_hoursUntilBearsByDivision_1 rfl (lv_at hl 1 rfl) ?_
  rcases ob_bx hF with ⟨z1, hz1, hF⟩ | ⟨z1, hz1, hF⟩
  rotate_left
  · refine cx_x (csR := []) (csF := [wX g a a1 a2 a3 a4 a5 a6 a7 x, wB g a1 b]) (rest := []) hx hb hml hown hts hK hE hA hl hP hD hS (c_X4_requireSpan g l hst a a1 a2 a3 a4 a5 a6 a7 x b p0 (.inr z1) hz1) [0, 1] [] [0, 1] ⟨rfl, rfl, rfl, rfl, rfl, rfl, rfl⟩ ⟨0, 8, _, _, rfl, rfl, rfl⟩ 1 (jb_giV mw_854 mw_856 ms_11 mw_1 mw_857) ⟨rfl, rfl⟩ (by decide +kernel) ⟨⟨(Nat.le_of_ble_eq_true rfl), (Nat.le_of_ble_eq_true rfl)⟩, (Nat.le_of_ble_eq_true rfl), (Nat.le_of_ble_eq_true rfl)⟩ ⟨rfl, rfl⟩ (Nat.le_of_ble_eq_true rfl) dX4_hoursUntilBearsByDivision_2 (fun H locs q9 ce hP hD hS h1 h2 h3 => ?_)
    cases hF
    rw [hQ]
    exact jx_out htab hlocks hP hD hS h1 h2 h3 rfl (Nat.le_of_ble_eq_true rfl) (Nat.le_of_ble_eq_true rfl)
  refine cx_n (csR := []) (csF := [wX g a a1 a2 a3 a4 a5 a6 a7 x, wB g a1 b]) (rest := []) hx hb hml hown hts hK hE hA hl hP hD hS (c_X4_requireSpan g l hst a a1 a2 a3 a4 a5 a6 a7 x b p0 (.inl z1) hz1) [0, 1] [] [0, 1] ⟨rfl, rfl, rfl, rfl, rfl, rfl, rfl⟩ ⟨0, 8, _, _, rfl, rfl, rfl⟩ 1 (jb_giV mw_854 mw_856 ms_11 mw_1 mw_857) ⟨rfl, rfl⟩ (by decide +kernel) ⟨⟨(Nat.le_of_ble_eq_true rfl), (Nat.le_of_ble_eq_true rfl)⟩, (Nat.le_of_ble_eq_true rfl), (Nat.le_of_ble_eq_true rfl)⟩ ⟨rfl, rfl⟩ (Nat.le_of_ble_eq_true rfl) dX4_hoursUntilBearsByDivision_2 (fun H locs hP hD hS => ?_)
  refine W.eq (g2 := F0 m 5 ls []) rfl ?_
  refine lv_aload_n hx hb dX4_hoursUntilBearsByDivision_5 rfl (lv_at hl 0 rfl) ?_
  refine lv_iload_n hx hb dX4_hoursUntilBearsByDivision_6 rfl (lv_at hl 2 rfl) ?_
  rcases ob_bx hF with ⟨z2, hz2, hF⟩ | ⟨z2, hz2, hF⟩
  rotate_left
  · refine cx_x (csR := [wB g a1 b]) (csF := [wX g a a1 a2 a3 a4 a5 a6 a7 x, wB g a1 b]) (rest := []) hx hb hml hown hts hK hE hA hl hP hD hS (c_X4_requireWeight g l hst a a1 a2 a3 a4 a5 a6 a7 x p1 (.inr z2) hz2) [0] [1] [1, 0] ⟨rfl, rfl, rfl, rfl, rfl, rfl, rfl⟩ ⟨0, 8, _, _, rfl, rfl, rfl⟩ 1 (jb_giV mw_909 mw_911 ms_12 mw_1 mw_912) ⟨rfl, rfl⟩ (by decide +kernel) ⟨⟨(Nat.le_of_ble_eq_true rfl), (Nat.le_of_ble_eq_true rfl)⟩, (Nat.le_of_ble_eq_true rfl), (Nat.le_of_ble_eq_true rfl)⟩ ⟨rfl, rfl⟩ (Nat.le_of_ble_eq_true rfl) dX4_hoursUntilBearsByDivision_7 (fun H locs q9 ce hP hD hS h1 h2 h3 => ?_)
    cases hF
    rw [hQ]
    exact jx_out htab hlocks hP hD hS h1 h2 h3 rfl (Nat.le_of_ble_eq_true rfl) (Nat.le_of_ble_eq_true rfl)
  refine cx_n (csR := [wB g a1 b]) (csF := [wX g a a1 a2 a3 a4 a5 a6 a7 x, wB g a1 b]) (rest := []) hx hb hml hown hts hK hE hA hl hP hD hS (c_X4_requireWeight g l hst a a1 a2 a3 a4 a5 a6 a7 x p1 (.inl z2) hz2) [0] [1] [1, 0] ⟨rfl, rfl, rfl, rfl, rfl, rfl, rfl⟩ ⟨0, 8, _, _, rfl, rfl, rfl⟩ 1 (jb_giV mw_909 mw_911 ms_12 mw_1 mw_912) ⟨rfl, rfl⟩ (by decide +kernel) ⟨⟨(Nat.le_of_ble_eq_true rfl), (Nat.le_of_ble_eq_true rfl)⟩, (Nat.le_of_ble_eq_true rfl), (Nat.le_of_ble_eq_true rfl)⟩ ⟨rfl, rfl⟩ (Nat.le_of_ble_eq_true rfl) dX4_hoursUntilBearsByDivision_7 (fun H locs hP hD hS => ?_)
  refine W.eq (g2 := F0 m 10 ls []) rfl ?_
  refine lv_aload_n hx hb dX4_hoursUntilBearsByDivision_10 rfl (lv_at hl 0 rfl) ?_
  refine va_get (D := g.1) (ci := 8) (v := .ref (a1 0)) (C := RX4) (T := TX4) (N := 12) hx hb hts inX4 hown hK hP 0 rfl rfl 0 (by decide) (hts _ mw_223) (fun _ h9 => h9) rfl dX4_hoursUntilBearsByDivision_11 ?_
  refine va_getN (D := g.1) (ci := 4) (v := .ref (a1 2)) (C := RX0) (T := TX0) (N := 17) hx hb hts inX0 hown hK hP 1 rfl rfl 2 (by decide) (hE.nf 4 rfl) (fun _ h9 => h9) rfl dX4_hoursUntilBearsByDivision_14 ?_
  refine lv_iload_n hx hb dX4_hoursUntilBearsByDivision_17 rfl (lv_at hl 1 rfl) ?_
  have h3 := inb_in (ck_t hF)
  have hF := ck_s hF
  refine va_iald hx hb hK hP 3 0 rfl rfl h3 dX4_hoursUntilBearsByDivision_18 ?_
  refine lv_istore_n (lv' := [(3, .int ((B_jars b) p0.toNatClampNeg)), (0, .ref (a 0)), (1, .int p0), (2, .int p1)]) hx hb dX4_hoursUntilBearsByDivision_19 rfl hl (by decide) rfl (fun ls hl => ?_)
  refine lv_bipush (v := 10) hx hb dX4_hoursUntilBearsByDivision_20 (by decide) ?_
  refine lv_aload_n hx hb dX4_hoursUntilBearsByDivision_22 rfl (lv_at hl 1 rfl) ?_
  refine va_get (D := g.1) (ci := 8) (v := .ref (a1 0)) (C := RX4) (T := TX4) (N := 12) hx hb hts inX4 hown hK hP 0 rfl rfl 0 (by decide) (hts _ mw_223) (fun _ h9 => h9) rfl dX4_hoursUntilBearsByDivision_23 ?_
  refine va_getN (D := g.1) (ci := 4) (v := .ref (a1 4)) (C := RX0) (T := TX0) (N := 17) hx hb hts inX0 hown hK hP 1 rfl rfl 4 (by decide) (hE.nf 7 rfl) (fun _ h9 => h9) rfl dX4_hoursUntilBearsByDivision_26 ?_
  refine lv_iload_n hx hb dX4_hoursUntilBearsByDivision_29 rfl (lv_at hl 2 rfl) ?_
  have h4 := inb_in (ck_t hF)
  have hF := ck_s hF
  refine va_iald hx hb hK hP 5 0 rfl rfl h4 dX4_hoursUntilBearsByDivision_30 ?_
  refine lv_isub hx hb dX4_hoursUntilBearsByDivision_31 ?_
  refine lv_istore (lv' := [(4, .int (10 - ((B_cracks b) p0.toNatClampNeg))), (3, .int ((B_jars b) p0.toNatClampNeg)), (0, .ref (a 0)), (1, .int p0), (2, .int p1)]) hx hb dX4_hoursUntilBearsByDivision_32 hl (by decide) rfl (fun ls hl => ?_)
  refine lv_iload_n hx hb dX4_hoursUntilBearsByDivision_34 rfl (lv_at hl 1 rfl) ?_
  refine lv_iconst (v := 1) hx hb dX4_hoursUntilBearsByDivision_35 (by decide) ?_
  refine lv_icmp_lt (tgt := 45) hx hb dX4_hoursUntilBearsByDivision_36 (by decide) (fun c5 => ?_) (fun c5 => ?_)
  · have hF := ob_pos c5 hF
    cases hF
    rw [hQ]
    exact jx_throwEN hst thw_123 hx hb (hml.trans hl.1.symm) hown hts hE htab hlocks 5 rfl hP hD hS dX4_hoursUntilBearsByDivision_45 dX4_hoursUntilBearsByDivision_48 dX4_hoursUntilBearsByDivision_49 dX4_hoursUntilBearsByDivision_51 dX4_hoursUntilBearsByDivision_54 ⟨(Nat.le_of_ble_eq_true rfl), (Nat.le_of_ble_eq_true rfl), (Nat.le_of_ble_eq_true rfl), (Nat.le_of_ble_eq_true rfl)⟩ (Nat.le_of_ble_eq_true rfl) (Nat.le_of_ble_eq_true rfl) rfl
  · have hF := ob_neg c5 hF
    refine lv_iload hx hb dX4_hoursUntilBearsByDivision_39 (lv_at hl 0 rfl) ?_
    refine lv_iconst (v := 1) hx hb dX4_hoursUntilBearsByDivision_41 (by decide) ?_
    refine lv_icmp_ge (tgt := 55) hx hb dX4_hoursUntilBearsByDivision_42 (by decide) (fun c6 => ?_) (fun c6 => ?_)
    · have hF := ob_pos c6 hF
      refine lv_iload_n hx hb dX4_hoursUntilBearsByDivision_55 rfl (lv_at hl 4 rfl) ?_
      refine lv_bipush (v := 10) hx hb dX4_hoursUntilBearsByDivision_56 (by decide) ?_
      refine lv_imul hx hb dX4_hoursUntilBearsByDivision_58 ?_
      refine lv_iload hx hb dX4_hoursUntilBearsByDivision_59 (lv_at hl 0 rfl) ?_
      refine lv_iadd hx hb dX4_hoursUntilBearsByDivision_61 ?_
      refine lv_iconst (v := 1) hx hb dX4_hoursUntilBearsByDivision_62 (by decide) ?_
      refine lv_isub hx hb dX4_hoursUntilBearsByDivision_63 ?_
      refine lv_iload hx hb dX4_hoursUntilBearsByDivision_64 (lv_at hl 0 rfl) ?_
      have h7 := nz_ne (ck_t hF)
      have hF := ck_s hF
      refine lv_idiv hx hb dX4_hoursUntilBearsByDivision_66 h7 ?_
      refine lv_istore (lv' := [(5, .int ((((p1 * 10) + (10 - ((B_cracks b) p0.toNatClampNeg))) - 1) / (10 - ((B_cracks b) p0.toNatClampNeg)))), (4, .int (10 - ((B_cracks b) p0.toNatClampNeg))), (3, .int ((B_jars b) p0.toNatClampNeg)), (0, .ref (a 0)), (1, .int p0), (2, .int p1)]) hx hb dX4_hoursUntilBearsByDivision_67 hl (by decide) rfl (fun ls hl => ?_)
      refine lv_iload hx hb dX4_hoursUntilBearsByDivision_69 (lv_at hl 0 rfl) ?_
      refine lv_aload_n hx hb dX4_hoursUntilBearsByDivision_71 rfl (lv_at hl 3 rfl) ?_
      refine va_get (D := g.1) (ci := 8) (v := .ref (a1 0)) (C := RX4) (T := TX4) (N := 12) hx hb hts inX4 hown hK hP 0 rfl rfl 0 (by decide) (hts _ mw_223) (fun _ h9 => h9) rfl dX4_hoursUntilBearsByDivision_72 ?_
      refine va_getN (D := g.1) (ci := 4) (v := .ref (a1 1)) (C := RX0) (T := TX0) (N := 17) hx hb hts inX0 hown hK hP 1 rfl rfl 1 (by decide) (hE.nf 2 rfl) (fun _ h9 => h9) rfl dX4_hoursUntilBearsByDivision_75 ?_
      refine lv_iload_n hx hb dX4_hoursUntilBearsByDivision_78 rfl (lv_at hl 4 rfl) ?_
      have h8 := inb_in (ck_t hF)
      have hF := ck_s hF
      refine va_iald hx hb hK hP 2 0 rfl rfl h8 dX4_hoursUntilBearsByDivision_79 ?_
      refine lv_imul hx hb dX4_hoursUntilBearsByDivision_80 ?_
      refine lv_iload_n hx hb dX4_hoursUntilBearsByDivision_81 rfl (lv_at hl 2 rfl) ?_
      refine lv_iadd hx hb dX4_hoursUntilBearsByDivision_82 ?_
      refine lv_iconst (v := 1) hx hb dX4_hoursUntilBearsByDivision_83 (by decide) ?_
      refine lv_isub hx hb dX4_hoursUntilBearsByDivision_84 ?_
      refine lv_iload_n hx hb dX4_hoursUntilBearsByDivision_85 rfl (lv_at hl 2 rfl) ?_
      have h9 := nz_ne (ck_t hF)
      have hF := ck_s hF
      refine lv_idiv hx hb dX4_hoursUntilBearsByDivision_86 h9 ?_
      refine lv_istore (lv' := [(6, .int ((((((((p1 * 10) + (10 - ((B_cracks b) p0.toNatClampNeg))) - 1) / (10 - ((B_cracks b) p0.toNatClampNeg))) * ((B_lengths b) p0.toNatClampNeg)) + ((B_jars b) p0.toNatClampNeg)) - 1) / ((B_jars b) p0.toNatClampNeg))), (5, .int ((((p1 * 10) + (10 - ((B_cracks b) p0.toNatClampNeg))) - 1) / (10 - ((B_cracks b) p0.toNatClampNeg)))), (4, .int (10 - ((B_cracks b) p0.toNatClampNeg))), (3, .int ((B_jars b) p0.toNatClampNeg)), (0, .ref (a 0)), (1, .int p0), (2, .int p1)]) hx hb dX4_hoursUntilBearsByDivision_87 hl (by decide) rfl (fun ls hl => ?_)
      refine lv_iload hx hb dX4_hoursUntilBearsByDivision_89 (lv_at hl 0 rfl) ?_
      refine lv_bipush (v := 24) hx hb dX4_hoursUntilBearsByDivision_91 (by decide) ?_
      refine lv_icmp_le (tgt := 106) hx hb dX4_hoursUntilBearsByDivision_93 (by decide) (fun c10 => ?_) (fun c10 => ?_)
      · have hF := ob_pos c10 hF
        refine lv_iconst (v := 0) hx hb dX4_hoursUntilBearsByDivision_106 (by decide) ?_
        refine lv_iload hx hb dX4_hoursUntilBearsByDivision_107 (lv_at hl 0 rfl) ?_
        refine lv_aload_n hx hb dX4_hoursUntilBearsByDivision_109 rfl (lv_at hl 4 rfl) ?_
        refine va_get (D := g.1) (ci := 8) (v := .ref (a1 0)) (C := RX4) (T := TX4) (N := 12) hx hb hts inX4 hown hK hP 0 rfl rfl 0 (by decide) (hts _ mw_223) (fun _ h9 => h9) rfl dX4_hoursUntilBearsByDivision_110 ?_
        refine va_getN (D := g.1) (ci := 4) (v := .ref (a1 3)) (C := RX0) (T := TX0) (N := 17) hx hb hts inX0 hown hK hP 1 rfl rfl 3 (by decide) (hE.nf 5 rfl) (fun _ h9 => h9) rfl dX4_hoursUntilBearsByDivision_113 ?_
        refine lv_iload_n hx hb dX4_hoursUntilBearsByDivision_116 rfl (lv_at hl 5 rfl) ?_
        have h11 := inb_in (ck_t hF)
        have hF := ck_s hF
        refine va_iald hx hb hK hP 4 0 rfl rfl h11 dX4_hoursUntilBearsByDivision_117 ?_
        refine lv_isub hx hb dX4_hoursUntilBearsByDivision_118 ?_
        refine va_mmax hx hb (hml.trans hl.1.symm) hown (hts _ mw_296) (hts _ mw_297) (hts _ mw_11) (hts _ mw_298) (Nat.le_of_ble_eq_true rfl) (Nat.le_of_ble_eq_true rfl) (Nat.le_of_ble_eq_true rfl) (Nat.le_of_ble_eq_true rfl) dX4_hoursUntilBearsByDivision_119 ?_
        cases hF
        rw [hQ]
        exact jx_iret hx hb hr rfl hlocks hP hD hS dX4_hoursUntilBearsByDivision_122 rfl (Nat.le_of_ble_eq_true rfl) (Nat.le_of_ble_eq_true rfl)
      · have hF := ob_neg c10 hF
        cases hF
        rw [hQ]
        exact jx_throwEN hst thw_123 hx hb (hml.trans hl.1.symm) hown hts hE htab hlocks 4 rfl hP hD hS dX4_hoursUntilBearsByDivision_96 dX4_hoursUntilBearsByDivision_99 dX4_hoursUntilBearsByDivision_100 dX4_hoursUntilBearsByDivision_102 dX4_hoursUntilBearsByDivision_105 ⟨(Nat.le_of_ble_eq_true rfl), (Nat.le_of_ble_eq_true rfl), (Nat.le_of_ble_eq_true rfl), (Nat.le_of_ble_eq_true rfl)⟩ (Nat.le_of_ble_eq_true rfl) (Nat.le_of_ble_eq_true rfl) rfl
    · have hF := ob_neg c6 hF
      cases hF
      rw [hQ]
      exact jx_throwEN hst thw_123 hx hb (hml.trans hl.1.symm) hown hts hE htab hlocks 5 rfl hP hD hS dX4_hoursUntilBearsByDivision_45 dX4_hoursUntilBearsByDivision_48 dX4_hoursUntilBearsByDivision_49 dX4_hoursUntilBearsByDivision_51 dX4_hoursUntilBearsByDivision_54 ⟨(Nat.le_of_ble_eq_true rfl), (Nat.le_of_ble_eq_true rfl), (Nat.le_of_ble_eq_true rfl), (Nat.le_of_ble_eq_true rfl)⟩ (Nat.le_of_ble_eq_true rfl) (Nat.le_of_ble_eq_true rfl) rfl
def F_X4_hoursUntilOver_L13 (x : Xv) (b : Bv) (y1 : Int32) (k : Bv → Int32 → Option ((Int32 × Bv) ⊕ (String × Bv))) : Nat → Bv → Int32 → Option ((Int32 × Bv) ⊕ (String × Bv))
  | 0, _, _ => none
  | n + 1, b2, x2 => if 48 < x2 then k b2 x2 else (F_X0_positionOf b2 y1).bind (fun z2 => if ¬ z2 = (-1) then (F_X0_isOnLastSpan b2 z2).bind (fun z3 => if (bi z3) = 0 then (F_X0_letHoursPass b2 1).bind (fun z4 => F_X4_hoursUntilOver_L13 x b y1 k n z4.2 (x2 + 1)) else some (.inl (x2, b2))) else some (.inr ("java/util/NoSuchElementException", b2)))
def F_X4_hoursUntilOver (x : Xv) (b : Bv) (t : Bv) (p0 : Int32) : Option ((Int32 × Bv) ⊕ (String × Bv)) := (F_X0_copyFrom t b).bind (fun z1 => F_X4_hoursUntilOver_L13 x b p0 (fun b5 x6 => some (.inr ("java/util/NoSuchElementException", b5))) 1000 z1 1)
set_option maxHeartbeats 4000000 in
set_option maxRecDepth 100000 in
theorem c_X4_hoursUntilOver (g : GG) (l : Launch) (hst : l.stackTraces = false) (a a1 a2 a3 a4 a5 a6 a7 : Nat → Nat) (x : Xv) (b : Bv) (t : Bv) (p0 : Int32) (z : (Int32 × Bv) ⊕ (String × Bv)) (hF : F_X4_hoursUntilOver x b t p0 = some z) : MX g l yX4_hoursUntilOver cX4_hoursUntilOver 4 (some .int) ({ frames := 6, cells := 1, slots := 6, locals := 121 } : Room) [.ref (a 0), .int p0] [wX g a a1 a2 a3 a4 a5 a6 a7 x, wB g a1 b, wB g a2 t] 1 6 (Sum.elim (fun y => .inl (some (.int y.1), [wX g a a1 a2 a3 a4 a5 a6 a7 x, wB g a1 b, wB g a2 y.2])) (fun y => .inr (y.1, [wX g a a1 a2 a3 a4 a5 a6 a7 x, wB g a1 b, wB g a2 y.2])) z) := by
  refine MX.bg (by decide) (Nat.le_of_ble_eq_true rfl) ?_
  intro p e s m below meth c A Q hQ hx hb hr hml hown hts hlocks htab hK hE hA hP hD hS ls hl
  rw [F_X4_hoursUntilOver] at hF
  have hl : lv_has ls 4 [(0, .ref (a 0)), (1, .int p0)] := hl
  refine lv_aload_n hx hb dX4_hoursUntilOver_0 rfl (lv_at hl 0 rfl) ?_
  refine va_get (D := g.1) (ci := 8) (v := .ref (a2 0)) (C := RX4) (T := TX4) (N := 12) hx hb hts inX4 hown hK hP 0 rfl rfl 1 (by decide) (hts _ mw_224) (fun _ h9 => h9) rfl dX4_hoursUntilOver_1 ?_
  refine lv_aload_n hx hb dX4_hoursUntilOver_4 rfl (lv_at hl 0 rfl) ?_
  refine va_get (D := g.1) (ci := 8) (v := .ref (a1 0)) (C := RX4) (T := TX4) (N := 12) hx hb hts inX4 hown hK hP 0 rfl rfl 0 (by decide) (hts _ mw_223) (fun _ h9 => h9) rfl dX4_hoursUntilOver_5 ?_
  obtain ⟨z1, hz1, hF⟩ := ob_bind hF
  refine cl_v (csR := [wX g a a1 a2 a3 a4 a5 a6 a7 x]) (csF := [wX g a a1 a2 a3 a4 a5 a6 a7 x, wB g a1 b, wB g a2 z1]) (rest := []) hx hb hml hown hts hK hE hA hl hP hD hS (c_X0_copyFrom g l a2 a1 t b z1 hz1) [2, 1] [0] [0, 2, 1] ⟨rfl, rfl, rfl, rfl, rfl, rfl, rfl⟩ ⟨0, 4, _, _, rfl, rfl, rfl⟩ 1 (jb_giV mw_708 mw_709 mw_710 mw_2 mw_711) ⟨rfl, rfl⟩ (by decide +kernel) ⟨⟨(Nat.le_of_ble_eq_true rfl), (Nat.le_of_ble_eq_true rfl)⟩, (Nat.le_of_ble_eq_true rfl), (Nat.le_of_ble_eq_true rfl)⟩ ⟨rfl, rfl⟩ (Nat.le_of_ble_eq_true rfl) dX4_hoursUntilOver_8 (fun H locs hP hD hS => ?_)
  refine lv_iconst (v := 1) hx hb dX4_hoursUntilOver_11 (by decide) ?_
  refine lv_istore_n (lv' := [(2, .int 1), (0, .ref (a 0)), (1, .int p0)]) hx hb dX4_hoursUntilOver_12 rfl hl (by decide) rfl (fun ls hl => ?_)
  obtain ⟨k3, ek3, hF⟩ := ob_k (F := fun k9 => F_X4_hoursUntilOver_L13 x b p0 k9 1000 z1 1) hF
  have loop3 : ∀ (n9 : Nat) (b2 : Bv) (x3 : Int32), F_X4_hoursUntilOver_L13 x b p0 k3 n9 b2 x3 = some z → ∀ (H : Heap) (locs : List Loc), va_P g.1 vwCl ([wX g a a1 a2 a3 a4 a5 a6 a7 x, wB g a1 b, wB g a2 b2] : List va_W).flatten H → va_D A ([wX g a a1 a2 a3 a4 a5 a6 a7 x, wB g a1 b, wB g a2 b2] : List va_W).flatten → va_S A s.heap H locs → ∀ ls : Array Slot, lv_has ls 4 [(0, .ref (a 0)), (1, .int p0), (2, .int x3)] → W p l e ({ frames := 6, cells := 1, slots := 6, locals := 121 } : Room) s m ([.ref (a 0), .int p0] : List Value).toArray below meth c H locs 0 0 Q (F0 m 13 ls []) := by
    intro n9
    induction n9 with
    | zero => intro b2 x3 hF; rw [F_X4_hoursUntilOver_L13] at hF; cases hF
    | succ n9 ih3 =>
      intro b2 x3 hF H locs hP hD hS ls hl
      rw [F_X4_hoursUntilOver_L13] at hF
      refine lv_iload_n hx hb dX4_hoursUntilOver_13 rfl (lv_at hl 2 rfl) ?_
      refine lv_bipush (v := 48) hx hb dX4_hoursUntilOver_14 (by decide) ?_
      refine lv_icmp_gt (tgt := 71) hx hb dX4_hoursUntilOver_16 (by decide) (fun c4 => ?_) (fun c4 => ?_)
      · have hF := ob_pos c4 hF
        rw [ek3] at hF
        cases hF
        rw [hQ]
        exact jx_throwEN hst thw_123 hx hb (hml.trans hl.1.symm) hown hts hE htab hlocks 10 rfl hP hD hS dX4_hoursUntilOver_71 dX4_hoursUntilOver_74 dX4_hoursUntilOver_75 dX4_hoursUntilOver_77 dX4_hoursUntilOver_80 ⟨(Nat.le_of_ble_eq_true rfl), (Nat.le_of_ble_eq_true rfl), (Nat.le_of_ble_eq_true rfl), (Nat.le_of_ble_eq_true rfl)⟩ (Nat.le_of_ble_eq_true rfl) (Nat.le_of_ble_eq_true rfl) rfl
      · have hF := ob_neg c4 hF
        refine lv_aload_n hx hb dX4_hoursUntilOver_19 rfl (lv_at hl 0 rfl) ?_
        refine va_get (D := g.1) (ci := 8) (v := .ref (a2 0)) (C := RX4) (T := TX4) (N := 12) hx hb hts inX4 hown hK hP 0 rfl rfl 1 (by decide) (hts _ mw_224) (fun _ h9 => h9) rfl dX4_hoursUntilOver_20 ?_
        refine lv_iload_n hx hb dX4_hoursUntilOver_23 rfl (lv_at hl 1 rfl) ?_
        obtain ⟨z5, hz5, hF⟩ := ob_bind hF
        refine cl_i (csR := [wX g a a1 a2 a3 a4 a5 a6 a7 x, wB g a1 b]) (csF := [wX g a a1 a2 a3 a4 a5 a6 a7 x, wB g a1 b, wB g a2 b2]) (rest := []) hx hb hml hown hts hK hE hA hl hP hD hS (c_X0_positionOf g l a2 b2 p0 z5 hz5) [2] [0, 1] [0, 1, 2] ⟨rfl, rfl, rfl, rfl, rfl, rfl, rfl⟩ ⟨0, 4, _, _, rfl, rfl, rfl⟩ 1 (jb_giV mw_1056 mw_1057 mw_1058 mw_2 mw_1059) ⟨rfl, rfl⟩ (by decide +kernel) ⟨⟨(Nat.le_of_ble_eq_true rfl), (Nat.le_of_ble_eq_true rfl)⟩, (Nat.le_of_ble_eq_true rfl), (Nat.le_of_ble_eq_true rfl)⟩ ⟨rfl, rfl⟩ (Nat.le_of_ble_eq_true rfl) dX4_hoursUntilOver_24 (fun H locs hP hD hS => ?_)
        refine lv_istore_n (lv' := [(3, .int z5), (0, .ref (a 0)), (1, .int p0), (2, .int x3)]) hx hb dX4_hoursUntilOver_27 rfl hl (by decide) rfl (fun ls hl => ?_)
        refine lv_iload_n hx hb dX4_hoursUntilOver_28 rfl (lv_at hl 0 rfl) ?_
        refine lv_iconst (v := (-1)) hx hb dX4_hoursUntilOver_29 (by decide) ?_
        refine lv_icmp_ne (tgt := 43) hx hb dX4_hoursUntilOver_30 (by decide) (fun c6 => ?_) (fun c6 => ?_)
        · have hF := ob_pos c6 hF
          refine lv_aload_n hx hb dX4_hoursUntilOver_43 rfl (lv_at hl 1 rfl) ?_
          refine va_get (D := g.1) (ci := 8) (v := .ref (a2 0)) (C := RX4) (T := TX4) (N := 12) hx hb hts inX4 hown hK hP 0 rfl rfl 1 (by decide) (hts _ mw_224) (fun _ h9 => h9) rfl dX4_hoursUntilOver_44 ?_
          refine lv_iload_n hx hb dX4_hoursUntilOver_47 rfl (lv_at hl 0 rfl) ?_
          obtain ⟨z7, hz7, hF⟩ := ob_bind hF
          refine cl_i (csR := [wX g a a1 a2 a3 a4 a5 a6 a7 x, wB g a1 b]) (csF := [wX g a a1 a2 a3 a4 a5 a6 a7 x, wB g a1 b, wB g a2 b2]) (rest := []) hx hb hml hown hts hK hE hA hl hP hD hS (c_X0_isOnLastSpan g l a2 b2 z5 z7 hz7) [2] [0, 1] [0, 1, 2] ⟨rfl, rfl, rfl, rfl, rfl, rfl, rfl⟩ ⟨0, 4, _, _, rfl, rfl, rfl⟩ 1 (jb_giV mw_1084 mw_985 mw_986 mw_2 mw_987) ⟨rfl, rfl⟩ (by decide +kernel) ⟨⟨(Nat.le_of_ble_eq_true rfl), (Nat.le_of_ble_eq_true rfl)⟩, (Nat.le_of_ble_eq_true rfl), (Nat.le_of_ble_eq_true rfl)⟩ ⟨rfl, rfl⟩ (Nat.le_of_ble_eq_true rfl) dX4_hoursUntilOver_48 (fun H locs hP hD hS => ?_)
          refine lv_if_eq (tgt := 56) hx hb dX4_hoursUntilOver_51 (by decide) (fun c8 => ?_) (fun c8 => ?_)
          · have hF := ob_pos c8 hF
            refine lv_aload_n hx hb dX4_hoursUntilOver_56 rfl (lv_at hl 1 rfl) ?_
            refine va_get (D := g.1) (ci := 8) (v := .ref (a2 0)) (C := RX4) (T := TX4) (N := 12) hx hb hts inX4 hown hK hP 0 rfl rfl 1 (by decide) (hts _ mw_224) (fun _ h9 => h9) rfl dX4_hoursUntilOver_57 ?_
            refine lv_iconst (v := 1) hx hb dX4_hoursUntilOver_60 (by decide) ?_
            obtain ⟨z9, hz9, hF⟩ := ob_bind hF
            refine cl_i (csR := [wX g a a1 a2 a3 a4 a5 a6 a7 x, wB g a1 b]) (csF := [wX g a a1 a2 a3 a4 a5 a6 a7 x, wB g a1 b, wB g a2 z9.2]) (rest := []) hx hb hml hown hts hK hE hA hl hP hD hS (c_X0_letHoursPass g l a2 b2 1 z9 hz9) [2] [0, 1] [0, 1, 2] ⟨rfl, rfl, rfl, rfl, rfl, rfl, rfl⟩ ⟨0, 4, _, _, rfl, rfl, rfl⟩ 1 (jb_giV mw_972 mw_973 mw_974 mw_2 mw_975) ⟨rfl, rfl⟩ (by decide +kernel) ⟨⟨(Nat.le_of_ble_eq_true rfl), (Nat.le_of_ble_eq_true rfl)⟩, (Nat.le_of_ble_eq_true rfl), (Nat.le_of_ble_eq_true rfl)⟩ ⟨rfl, rfl⟩ (Nat.le_of_ble_eq_true rfl) dX4_hoursUntilOver_61 (fun H locs hP hD hS => ?_)
            refine lv_pop hx hb dX4_hoursUntilOver_64 rfl ?_
            refine lv_iinc (v := x3 + 1) (lv' := [(2, .int (x3 + 1)), (3, .int z5), (0, .ref (a 0)), (1, .int p0)]) hx hb dX4_hoursUntilOver_65 hl (k := 3) rfl (by rfl) (by decide) rfl (fun ls hl => ?_)
            refine lv_goto (tgt := 13) hx hb dX4_hoursUntilOver_68 (by decide) ?_
            exact ih3 _ _ hF _ _ hP hD hS ls (lv_sub hl [2, 3, 0] rfl)
          · have hF := ob_neg c8 hF
            refine lv_iload_n hx hb dX4_hoursUntilOver_54 rfl (lv_at hl 3 rfl) ?_
            cases hF
            rw [hQ]
            exact jx_iret hx hb hr rfl hlocks hP hD hS dX4_hoursUntilOver_55 rfl (Nat.le_of_ble_eq_true rfl) (Nat.le_of_ble_eq_true rfl)
        · have hF := ob_nneg c6 hF
          cases hF
          rw [hQ]
          exact jx_throwEN hst thw_123 hx hb (hml.trans hl.1.symm) hown hts hE htab hlocks 9 rfl hP hD hS dX4_hoursUntilOver_33 dX4_hoursUntilOver_36 dX4_hoursUntilOver_37 dX4_hoursUntilOver_39 dX4_hoursUntilOver_42 ⟨(Nat.le_of_ble_eq_true rfl), (Nat.le_of_ble_eq_true rfl), (Nat.le_of_ble_eq_true rfl), (Nat.le_of_ble_eq_true rfl)⟩ (Nat.le_of_ble_eq_true rfl) (Nat.le_of_ble_eq_true rfl) rfl
  exact loop3 1000 _ _ hF _ _ hP hD hS ls (lv_sub hl [1, 2, 0] rfl)
def F_X4_meanStrength_L24 (x : Xv) (b : Bv) (k : Int32 → Int32 → Option ((UInt64) ⊕ (String))) : Nat → Int32 → Int32 → Option ((UInt64) ⊕ (String))
  | 0, _, _ => none
  | n + 1, x1, x2 => if (B_spans b) ≤ x2 then k x1 x2 else (F_X0_strengthOf b x2).bind (fun z1 => F_X4_meanStrength_L24 x b k n (x1 + z1) (x2 + 1))
def F_X4_meanStrength (x : Xv) (b : Bv) : Option ((UInt64) ⊕ (String)) := if ¬ (B_spans b) = 0 then F_X4_meanStrength_L24 x b (fun x2 x3 => ck (nn64 (FP.ddiv (FP.i2d x2) (FP.i2d (B_spans b)))) (some (.inl (FP.ddiv (FP.i2d x2) (FP.i2d (B_spans b)))))) 1000 0 0 else some (.inr ("java/lang/ArithmeticException"))
set_option maxHeartbeats 4000000 in
set_option maxRecDepth 100000 in
theorem c_X4_meanStrength (g : GG) (l : Launch) (hst : l.stackTraces = false) (a a1 a2 a3 a4 a5 a6 a7 : Nat → Nat) (x : Xv) (b : Bv) (z : (UInt64) ⊕ (String)) (hF : F_X4_meanStrength x b = some z) : MX g l yX4_meanStrength cX4_meanStrength 3 (some .double) ({ frames := 6, cells := 1, slots := 6, locals := 90 } : Room) [.ref (a 0)] [wX g a a1 a2 a3 a4 a5 a6 a7 x, wB g a1 b] 1 6 (Sum.elim (fun y => .inl (some (.double y), [wX g a a1 a2 a3 a4 a5 a6 a7 x, wB g a1 b])) (fun y => .inr (y, [wX g a a1 a2 a3 a4 a5 a6 a7 x, wB g a1 b])) z) := by
  refine MX.bg (by decide) (Nat.le_of_ble_eq_true rfl) ?_
  intro p e s m below meth c A Q hQ hx hb hr hml hown hts hlocks htab hK hE hA hP hD hS ls hl
  rw [F_X4_meanStrength] at hF
  have hl : lv_has ls 3 [(0, .ref (a 0))] := hl
  refine lv_aload_n hx hb dX4_meanStrength_0 rfl (lv_at hl 0 rfl) ?_
  refine va_get (D := g.1) (ci := 8) (v := .ref (a1 0)) (C := RX4) (T := TX4) (N := 12) hx hb hts inX4 hown hK hP 0 rfl rfl 0 (by decide) (hts _ mw_223) (fun _ h9 => h9) rfl dX4_meanStrength_1 ?_
  refine va_getN (D := g.1) (ci := 4) (v := .int (B_spans b)) (C := RX0) (T := TX0) (N := 17) hx hb hts inX0 hown hK hP 1 rfl rfl 0 (by decide) (hE.nf 1 rfl) (fun _ h9 => h9) rfl dX4_meanStrength_4 ?_
  refine lv_if_ne (tgt := 20) hx hb dX4_meanStrength_7 (by decide) (fun c1 => ?_) (fun c1 => ?_)
  · have hF := ob_pos c1 hF
    refine lv_iconst (v := 0) hx hb dX4_meanStrength_20 (by decide) ?_
    refine lv_istore_n (lv' := [(1, .int 0), (0, .ref (a 0))]) hx hb dX4_meanStrength_21 rfl hl (by decide) rfl (fun ls hl => ?_)
    refine lv_iconst (v := 0) hx hb dX4_meanStrength_22 (by decide) ?_
    refine lv_istore_n (lv' := [(2, .int 0), (1, .int 0), (0, .ref (a 0))]) hx hb dX4_meanStrength_23 rfl hl (by decide) rfl (fun ls hl => ?_)
    obtain ⟨k3, ek3, hF⟩ := ob_k (F := fun k9 => F_X4_meanStrength_L24 x b k9 1000 0 0) hF
    have loop3 : ∀ (n9 : Nat) (x2 : Int32) (x3 : Int32), F_X4_meanStrength_L24 x b k3 n9 x2 x3 = some z → ∀ (H : Heap) (locs : List Loc), va_P g.1 vwCl ([wX g a a1 a2 a3 a4 a5 a6 a7 x, wB g a1 b] : List va_W).flatten H → va_D A ([wX g a a1 a2 a3 a4 a5 a6 a7 x, wB g a1 b] : List va_W).flatten → va_S A s.heap H locs → ∀ ls : Array Slot, lv_has ls 3 [(0, .ref (a 0)), (1, .int x2), (2, .int x3)] → W p l e ({ frames := 6, cells := 1, slots := 6, locals := 90 } : Room) s m ([.ref (a 0)] : List Value).toArray below meth c H locs 0 0 Q (F0 m 24 ls []) := by
      intro n9
      induction n9 with
      | zero => intro x2 x3 hF; rw [F_X4_meanStrength_L24] at hF; cases hF
      | succ n9 ih3 =>
        intro x2 x3 hF H locs hP hD hS ls hl
        rw [F_X4_meanStrength_L24] at hF
        refine lv_iload_n hx hb dX4_meanStrength_24 rfl (lv_at hl 2 rfl) ?_
        refine lv_aload_n hx hb dX4_meanStrength_25 rfl (lv_at hl 0 rfl) ?_
        refine va_get (D := g.1) (ci := 8) (v := .ref (a1 0)) (C := RX4) (T := TX4) (N := 12) hx hb hts inX4 hown hK hP 0 rfl rfl 0 (by decide) (hts _ mw_223) (fun _ h9 => h9) rfl dX4_meanStrength_26 ?_
        refine va_getN (D := g.1) (ci := 4) (v := .int (B_spans b)) (C := RX0) (T := TX0) (N := 17) hx hb hts inX0 hown hK hP 1 rfl rfl 0 (by decide) (hE.nf 1 rfl) (fun _ h9 => h9) rfl dX4_meanStrength_29 ?_
        refine lv_icmp_ge (tgt := 52) hx hb dX4_meanStrength_32 (by decide) (fun c4 => ?_) (fun c4 => ?_)
        · have hF := ob_pos c4 hF
          rw [ek3] at hF
          refine lv_iload_n hx hb dX4_meanStrength_52 rfl (lv_at hl 1 rfl) ?_
          refine lv_i2d hx hb dX4_meanStrength_53 ?_
          refine lv_aload_n hx hb dX4_meanStrength_54 rfl (lv_at hl 0 rfl) ?_
          refine va_get (D := g.1) (ci := 8) (v := .ref (a1 0)) (C := RX4) (T := TX4) (N := 12) hx hb hts inX4 hown hK hP 0 rfl rfl 0 (by decide) (hts _ mw_223) (fun _ h9 => h9) rfl dX4_meanStrength_55 ?_
          refine va_getN (D := g.1) (ci := 4) (v := .int (B_spans b)) (C := RX0) (T := TX0) (N := 17) hx hb hts inX0 hown hK hP 1 rfl rfl 0 (by decide) (hE.nf 1 rfl) (fun _ h9 => h9) rfl dX4_meanStrength_58 ?_
          refine lv_i2d hx hb dX4_meanStrength_61 ?_
          have h5 := nn64_ne (ck_t hF)
          have hF := ck_s hF
          refine lv_ddiv hx hb dX4_meanStrength_62 h5 ?_
          cases hF
          rw [hQ]
          exact jx_dret hx hb hr hlocks hP hD hS dX4_meanStrength_63 rfl (Nat.le_of_ble_eq_true rfl) (Nat.le_of_ble_eq_true rfl)
        · have hF := ob_neg c4 hF
          refine lv_iload_n hx hb dX4_meanStrength_35 rfl (lv_at hl 1 rfl) ?_
          refine lv_aload_n hx hb dX4_meanStrength_36 rfl (lv_at hl 0 rfl) ?_
          refine va_get (D := g.1) (ci := 8) (v := .ref (a1 0)) (C := RX4) (T := TX4) (N := 12) hx hb hts inX4 hown hK hP 0 rfl rfl 0 (by decide) (hts _ mw_223) (fun _ h9 => h9) rfl dX4_meanStrength_37 ?_
          refine lv_iload_n hx hb dX4_meanStrength_40 rfl (lv_at hl 2 rfl) ?_
          obtain ⟨z6, hz6, hF⟩ := ob_bind hF
          refine cl_i (csR := [wX g a a1 a2 a3 a4 a5 a6 a7 x]) (csF := [wX g a a1 a2 a3 a4 a5 a6 a7 x, wB g a1 b]) (rest := [.int x2]) hx hb hml hown hts hK hE hA hl hP hD hS (c_X0_strengthOf g l a1 b x3 z6 hz6) [1] [0] [0, 1] ⟨rfl, rfl, rfl, rfl, rfl, rfl, rfl⟩ ⟨0, 4, _, _, rfl, rfl, rfl⟩ 1 (jb_giV mw_284 mw_285 mw_286 mw_2 mw_287) ⟨rfl, rfl⟩ (by decide +kernel) ⟨⟨(Nat.le_of_ble_eq_true rfl), (Nat.le_of_ble_eq_true rfl)⟩, (Nat.le_of_ble_eq_true rfl), (Nat.le_of_ble_eq_true rfl)⟩ ⟨rfl, rfl⟩ (Nat.le_of_ble_eq_true rfl) dX4_meanStrength_41 (fun H locs hP hD hS => ?_)
          refine lv_iadd hx hb dX4_meanStrength_44 ?_
          refine lv_istore_n (lv' := [(1, .int (x2 + z6)), (0, .ref (a 0)), (2, .int x3)]) hx hb dX4_meanStrength_45 rfl hl (by decide) rfl (fun ls hl => ?_)
          refine lv_iinc (v := x3 + 1) (lv' := [(2, .int (x3 + 1)), (1, .int (x2 + z6)), (0, .ref (a 0))]) hx hb dX4_meanStrength_46 hl (k := 2) rfl (by rfl) (by decide) rfl (fun ls hl => ?_)
          refine lv_goto (tgt := 24) hx hb dX4_meanStrength_49 (by decide) ?_
          exact ih3 _ _ hF _ _ hP hD hS ls (lv_sub hl [2, 1, 0] rfl)
    exact loop3 1000 _ _ hF _ _ hP hD hS ls (lv_sub hl [2, 1, 0] rfl)
  · have hF := ob_nneg c1 hF
    cases hF
    rw [hQ]
    exact jx_throwN hst thw_208 hx hb (hml.trans hl.1.symm) hown hts hE htab hlocks 11 rfl hP hD hS dX4_meanStrength_10 dX4_meanStrength_13 dX4_meanStrength_14 dX4_meanStrength_16 dX4_meanStrength_19 ⟨(Nat.le_of_ble_eq_true rfl), (Nat.le_of_ble_eq_true rfl), (Nat.le_of_ble_eq_true rfl), (Nat.le_of_ble_eq_true rfl)⟩ (Nat.le_of_ble_eq_true rfl) (Nat.le_of_ble_eq_true rfl) rfl
def F_X4_sunkShare (x : Xv) (b : Bv) : Option ((UInt32) ⊕ (String)) := if ¬ ((B_sunk b) + (B_crossed b)) = 0 then ck (nn32 (FP.fdiv (FP.i2f (B_sunk b)) (FP.i2f ((B_sunk b) + (B_crossed b))))) (some (.inl (FP.fdiv (FP.i2f (B_sunk b)) (FP.i2f ((B_sunk b) + (B_crossed b)))))) else some (.inr ("java/lang/ArithmeticException"))
set_option maxHeartbeats 4000000 in
set_option maxRecDepth 100000 in
theorem c_X4_sunkShare (g : GG) (l : Launch) (hst : l.stackTraces = false) (a a1 a2 a3 a4 a5 a6 a7 : Nat → Nat) (x : Xv) (b : Bv) (z : (UInt32) ⊕ (String)) (hF : F_X4_sunkShare x b = some z) : MX g l yX4_sunkShare cX4_sunkShare 2 (some .float) ({ frames := 6, cells := 1, slots := 6, locals := 90 } : Room) [.ref (a 0)] [wX g a a1 a2 a3 a4 a5 a6 a7 x, wB g a1 b] 1 6 (Sum.elim (fun y => .inl (some (.float y), [wX g a a1 a2 a3 a4 a5 a6 a7 x, wB g a1 b])) (fun y => .inr (y, [wX g a a1 a2 a3 a4 a5 a6 a7 x, wB g a1 b])) z) := by
  refine MX.bg (by decide) (Nat.le_of_ble_eq_true rfl) ?_
  intro p e s m below meth c A Q hQ hx hb hr hml hown hts hlocks htab hK hE hA hP hD hS ls hl
  rw [F_X4_sunkShare] at hF
  have hl : lv_has ls 2 [(0, .ref (a 0))] := hl
  refine lv_aload_n hx hb dX4_sunkShare_0 rfl (lv_at hl 0 rfl) ?_
  refine va_get (D := g.1) (ci := 8) (v := .ref (a1 0)) (C := RX4) (T := TX4) (N := 12) hx hb hts inX4 hown hK hP 0 rfl rfl 0 (by decide) (hts _ mw_223) (fun _ h9 => h9) rfl dX4_sunkShare_1 ?_
  refine va_getN (D := g.1) (ci := 4) (v := .int (B_sunk b)) (C := RX0) (T := TX0) (N := 17) hx hb hts inX0 hown hK hP 1 rfl rfl 16 (by decide) (hE.nf 22 rfl) (fun _ h9 => h9) rfl dX4_sunkShare_4 ?_
  refine lv_aload_n hx hb dX4_sunkShare_7 rfl (lv_at hl 0 rfl) ?_
  refine va_get (D := g.1) (ci := 8) (v := .ref (a1 0)) (C := RX4) (T := TX4) (N := 12) hx hb hts inX4 hown hK hP 0 rfl rfl 0 (by decide) (hts _ mw_223) (fun _ h9 => h9) rfl dX4_sunkShare_8 ?_
  refine va_getN (D := g.1) (ci := 4) (v := .int (B_crossed b)) (C := RX0) (T := TX0) (N := 17) hx hb hts inX0 hown hK hP 1 rfl rfl 15 (by decide) (hE.nf 21 rfl) (fun _ h9 => h9) rfl dX4_sunkShare_11 ?_
  refine lv_iadd hx hb dX4_sunkShare_14 ?_
  refine lv_istore_n (lv' := [(1, .int ((B_sunk b) + (B_crossed b))), (0, .ref (a 0))]) hx hb dX4_sunkShare_15 rfl hl (by decide) rfl (fun ls hl => ?_)
  refine lv_iload_n hx hb dX4_sunkShare_16 rfl (lv_at hl 0 rfl) ?_
  refine lv_if_ne (tgt := 30) hx hb dX4_sunkShare_17 (by decide) (fun c1 => ?_) (fun c1 => ?_)
  · have hF := ob_pos c1 hF
    refine lv_aload_n hx hb dX4_sunkShare_30 rfl (lv_at hl 1 rfl) ?_
    refine va_get (D := g.1) (ci := 8) (v := .ref (a1 0)) (C := RX4) (T := TX4) (N := 12) hx hb hts inX4 hown hK hP 0 rfl rfl 0 (by decide) (hts _ mw_223) (fun _ h9 => h9) rfl dX4_sunkShare_31 ?_
    refine va_getN (D := g.1) (ci := 4) (v := .int (B_sunk b)) (C := RX0) (T := TX0) (N := 17) hx hb hts inX0 hown hK hP 1 rfl rfl 16 (by decide) (hE.nf 22 rfl) (fun _ h9 => h9) rfl dX4_sunkShare_34 ?_
    refine lv_i2f hx hb dX4_sunkShare_37 ?_
    refine lv_iload_n hx hb dX4_sunkShare_38 rfl (lv_at hl 0 rfl) ?_
    refine lv_i2f hx hb dX4_sunkShare_39 ?_
    have h2 := nn32_ne (ck_t hF)
    have hF := ck_s hF
    refine lv_fdiv hx hb dX4_sunkShare_40 h2 ?_
    cases hF
    rw [hQ]
    exact jx_fret hx hb hr hlocks hP hD hS dX4_sunkShare_41 rfl (Nat.le_of_ble_eq_true rfl) (Nat.le_of_ble_eq_true rfl)
  · have hF := ob_nneg c1 hF
    cases hF
    rw [hQ]
    exact jx_throwN hst thw_208 hx hb (hml.trans hl.1.symm) hown hts hE htab hlocks 12 rfl hP hD hS dX4_sunkShare_20 dX4_sunkShare_23 dX4_sunkShare_24 dX4_sunkShare_26 dX4_sunkShare_29 ⟨(Nat.le_of_ble_eq_true rfl), (Nat.le_of_ble_eq_true rfl), (Nat.le_of_ble_eq_true rfl), (Nat.le_of_ble_eq_true rfl)⟩ (Nat.le_of_ble_eq_true rfl) (Nat.le_of_ble_eq_true rfl) rfl
def F_X4_feed (x : Xv) (tx : Tv) (p0 : Int32) : Option ((Int32 × Tv) ⊕ (String × Tv)) := if (T_length tx) < 60 then (F_X3_append tx p0).bind (fun z1 => some (.inl (T_length z1, z1))) else some (.inr ("java/lang/IllegalStateException", tx))
set_option maxHeartbeats 4000000 in
set_option maxRecDepth 100000 in
theorem c_X4_feed (g : GG) (l : Launch) (hst : l.stackTraces = false) (a a1 a2 a3 a4 a5 a6 a7 : Nat → Nat) (x : Xv) (tx : Tv) (p0 : Int32) (z : (Int32 × Tv) ⊕ (String × Tv)) (hF : F_X4_feed x tx p0 = some z) : MX g l yX4_feed cX4_feed 2 (some .int) ({ frames := 6, cells := 1, slots := 6, locals := 90 } : Room) [.ref (a 0), .int p0] [wX g a a1 a2 a3 a4 a5 a6 a7 x, wT g a6 tx] 1 6 (Sum.elim (fun y => .inl (some (.int y.1), [wX g a a1 a2 a3 a4 a5 a6 a7 x, wT g a6 y.2])) (fun y => .inr (y.1, [wX g a a1 a2 a3 a4 a5 a6 a7 x, wT g a6 y.2])) z) := by
  refine MX.bg (by decide) (Nat.le_of_ble_eq_true rfl) ?_
  intro p e s m below meth c A Q hQ hx hb hr hml hown hts hlocks htab hK hE hA hP hD hS ls hl
  rw [F_X4_feed] at hF
  have hl : lv_has ls 2 [(0, .ref (a 0)), (1, .int p0)] := hl
  refine lv_aload_n hx hb dX4_feed_0 rfl (lv_at hl 0 rfl) ?_
  refine va_get (D := g.1) (ci := 8) (v := .ref (a6 0)) (C := RX4) (T := TX4) (N := 12) hx hb hts inX4 hown hK hP 0 rfl rfl 5 (by decide) (hts _ mw_228) (fun _ h9 => h9) rfl dX4_feed_1 ?_
  refine va_getN (D := g.1) (ci := 7) (v := .int (T_length tx)) (C := RX3) (T := TX3) (N := 7) hx hb hts inX3 hown hK hP 1 rfl rfl 1 (by decide) (hE.nf 26 rfl) (fun _ h9 => h9) rfl dX4_feed_4 ?_
  refine lv_bipush (v := 60) hx hb dX4_feed_7 (by decide) ?_
  refine lv_icmp_lt (tgt := 22) hx hb dX4_feed_9 (by decide) (fun c1 => ?_) (fun c1 => ?_)
  · have hF := ob_pos c1 hF
    refine lv_aload_n hx hb dX4_feed_22 rfl (lv_at hl 0 rfl) ?_
    refine va_get (D := g.1) (ci := 8) (v := .ref (a6 0)) (C := RX4) (T := TX4) (N := 12) hx hb hts inX4 hown hK hP 0 rfl rfl 5 (by decide) (hts _ mw_228) (fun _ h9 => h9) rfl dX4_feed_23 ?_
    refine lv_iload_n hx hb dX4_feed_26 rfl (lv_at hl 1 rfl) ?_
    obtain ⟨z2, hz2, hF⟩ := ob_bind hF
    refine cl_v (csR := [wX g a a1 a2 a3 a4 a5 a6 a7 x]) (csF := [wX g a a1 a2 a3 a4 a5 a6 a7 x, wT g a6 z2]) (rest := []) hx hb hml hown hts hK hE hA hl hP hD hS (c_X3_append g l a6 tx p0 z2 hz2) [1] [0] [0, 1] ⟨rfl, rfl, rfl, rfl, rfl, rfl, rfl⟩ ⟨0, 7, _, _, rfl, rfl, rfl⟩ 1 (jb_giV mw_1142 mw_1143 mw_1144 mw_5 mw_1145) ⟨rfl, rfl⟩ (by decide +kernel) ⟨⟨(Nat.le_of_ble_eq_true rfl), (Nat.le_of_ble_eq_true rfl)⟩, (Nat.le_of_ble_eq_true rfl), (Nat.le_of_ble_eq_true rfl)⟩ ⟨rfl, rfl⟩ (Nat.le_of_ble_eq_true rfl) dX4_feed_27 (fun H locs hP hD hS => ?_)
    refine lv_aload_n hx hb dX4_feed_30 rfl (lv_at hl 0 rfl) ?_
    refine va_get (D := g.1) (ci := 8) (v := .ref (a6 0)) (C := RX4) (T := TX4) (N := 12) hx hb hts inX4 hown hK hP 0 rfl rfl 5 (by decide) (hts _ mw_228) (fun _ h9 => h9) rfl dX4_feed_31 ?_
    refine va_getN (D := g.1) (ci := 7) (v := .int (T_length z2)) (C := RX3) (T := TX3) (N := 7) hx hb hts inX3 hown hK hP 1 rfl rfl 1 (by decide) (hE.nf 26 rfl) (fun _ h9 => h9) rfl dX4_feed_34 ?_
    cases hF
    rw [hQ]
    exact jx_iret hx hb hr rfl hlocks hP hD hS dX4_feed_37 rfl (Nat.le_of_ble_eq_true rfl) (Nat.le_of_ble_eq_true rfl)
  · have hF := ob_neg c1 hF
    cases hF
    rw [hQ]
    exact jx_throwN hst thw_218 hx hb (hml.trans hl.1.symm) hown hts hE htab hlocks 13 rfl hP hD hS dX4_feed_12 dX4_feed_15 dX4_feed_16 dX4_feed_18 dX4_feed_21 ⟨(Nat.le_of_ble_eq_true rfl), (Nat.le_of_ble_eq_true rfl), (Nat.le_of_ble_eq_true rfl), (Nat.le_of_ble_eq_true rfl)⟩ (Nat.le_of_ble_eq_true rfl) (Nat.le_of_ble_eq_true rfl) rfl
def F_X4_faultPosition (x : Xv) : Option ((Int32) ⊕ (String)) := if ¬ (X_faultKept x) = (-1) then some (.inl (X_faultKept x)) else some (.inr ("java/util/NoSuchElementException"))
set_option maxHeartbeats 4000000 in
set_option maxRecDepth 100000 in
theorem c_X4_faultPosition (g : GG) (l : Launch) (hst : l.stackTraces = false) (a a1 a2 a3 a4 a5 a6 a7 : Nat → Nat) (x : Xv) (z : (Int32) ⊕ (String)) (hF : F_X4_faultPosition x = some z) : MX g l yX4_faultPosition cX4_faultPosition 1 (some .int) ({ frames := 6, cells := 1, slots := 6, locals := 90 } : Room) [.ref (a 0)] [wX g a a1 a2 a3 a4 a5 a6 a7 x] 1 6 (Sum.elim (fun y => .inl (some (.int y), [wX g a a1 a2 a3 a4 a5 a6 a7 x])) (fun y => .inr (y, [wX g a a1 a2 a3 a4 a5 a6 a7 x])) z) := by
  refine MX.bg (by decide) (Nat.le_of_ble_eq_true rfl) ?_
  intro p e s m below meth c A Q hQ hx hb hr hml hown hts hlocks htab hK hE hA hP hD hS ls hl
  rw [F_X4_faultPosition] at hF
  have hl : lv_has ls 1 [(0, .ref (a 0))] := hl
  refine lv_aload_n hx hb dX4_faultPosition_0 rfl (lv_at hl 0 rfl) ?_
  refine va_get (D := g.1) (ci := 8) (v := .int (X_faultKept x)) (C := RX4) (T := TX4) (N := 12) hx hb hts inX4 hown hK hP 0 rfl rfl 8 (by decide) (hts _ mw_231) (fun _ h9 => h9) rfl dX4_faultPosition_1 ?_
  refine lv_iconst (v := (-1)) hx hb dX4_faultPosition_4 (by decide) ?_
  refine lv_icmp_ne (tgt := 19) hx hb dX4_faultPosition_5 (by decide) (fun c1 => ?_) (fun c1 => ?_)
  · have hF := ob_pos c1 hF
    refine lv_aload_n hx hb dX4_faultPosition_19 rfl (lv_at hl 0 rfl) ?_
    refine va_get (D := g.1) (ci := 8) (v := .int (X_faultKept x)) (C := RX4) (T := TX4) (N := 12) hx hb hts inX4 hown hK hP 0 rfl rfl 8 (by decide) (hts _ mw_231) (fun _ h9 => h9) rfl dX4_faultPosition_20 ?_
    cases hF
    rw [hQ]
    exact jx_iret hx hb hr rfl hlocks hP hD hS dX4_faultPosition_23 rfl (Nat.le_of_ble_eq_true rfl) (Nat.le_of_ble_eq_true rfl)
  · have hF := ob_nneg c1 hF
    cases hF
    rw [hQ]
    exact jx_throwEW hst thw_123 hx hb (hml.trans hl.1.symm) hown hts hE htab hlocks 16 rfl hP hD hS dX4_faultPosition_8 dX4_faultPosition_11 dX4_faultPosition_12 dX4_faultPosition_15 dX4_faultPosition_18 ⟨(Nat.le_of_ble_eq_true rfl), (Nat.le_of_ble_eq_true rfl), (Nat.le_of_ble_eq_true rfl), (Nat.le_of_ble_eq_true rfl)⟩ (Nat.le_of_ble_eq_true rfl) (Nat.le_of_ble_eq_true rfl) rfl
def F_X4_denial (x : Xv) : Option ((Int32) ⊕ (String)) := obx (F_X4_requireDenial x) (fun z1 => some (.inl (X_deniedNumber x))) (fun z1 => some (.inr z1))
set_option maxHeartbeats 4000000 in
set_option maxRecDepth 100000 in
theorem c_X4_denial (g : GG) (l : Launch) (hst : l.stackTraces = false) (a a1 a2 a3 a4 a5 a6 a7 : Nat → Nat) (x : Xv) (z : (Int32) ⊕ (String)) (hF : F_X4_denial x = some z) : MX g l yX4_denial cX4_denial 1 (some .int) ({ frames := 7, cells := 1, slots := 6, locals := 110 } : Room) [.ref (a 0)] [wX g a a1 a2 a3 a4 a5 a6 a7 x] 1 6 (Sum.elim (fun y => .inl (some (.int y), [wX g a a1 a2 a3 a4 a5 a6 a7 x])) (fun y => .inr (y, [wX g a a1 a2 a3 a4 a5 a6 a7 x])) z) := by
  refine MX.bg (by decide) (Nat.le_of_ble_eq_true rfl) ?_
  intro p e s m below meth c A Q hQ hx hb hr hml hown hts hlocks htab hK hE hA hP hD hS ls hl
  rw [F_X4_denial] at hF
  have hl : lv_has ls 1 [(0, .ref (a 0))] := hl
  refine lv_aload_n hx hb dX4_denial_0 rfl (lv_at hl 0 rfl) ?_
  rcases ob_bx hF with ⟨z1, hz1, hF⟩ | ⟨z1, hz1, hF⟩
  rotate_left
  · refine cx_x (csR := []) (csF := [wX g a a1 a2 a3 a4 a5 a6 a7 x]) (rest := []) hx hb hml hown hts hK hE hA hl hP hD hS (c_X4_requireDenial g l hst a a1 a2 a3 a4 a5 a6 a7 x (.inr z1) hz1) [0] [] [0] ⟨rfl, rfl, rfl, rfl, rfl, rfl, rfl⟩ ⟨0, 8, _, _, rfl, rfl, rfl⟩ 0 (jb_giV mw_1265 mw_1267 ms_31 mw_1 mw_1268) ⟨rfl, rfl⟩ (by decide +kernel) ⟨⟨(Nat.le_of_ble_eq_true rfl), (Nat.le_of_ble_eq_true rfl)⟩, (Nat.le_of_ble_eq_true rfl), (Nat.le_of_ble_eq_true rfl)⟩ ⟨rfl, rfl⟩ (Nat.le_of_ble_eq_true rfl) dX4_denial_1 (fun H locs q9 ce hP hD hS h1 h2 h3 => ?_)
    cases hF
    rw [hQ]
    exact jx_out htab hlocks hP hD hS h1 h2 h3 rfl (Nat.le_of_ble_eq_true rfl) (Nat.le_of_ble_eq_true rfl)
  refine cx_n (csR := []) (csF := [wX g a a1 a2 a3 a4 a5 a6 a7 x]) (rest := []) hx hb hml hown hts hK hE hA hl hP hD hS (c_X4_requireDenial g l hst a a1 a2 a3 a4 a5 a6 a7 x (.inl z1) hz1) [0] [] [0] ⟨rfl, rfl, rfl, rfl, rfl, rfl, rfl⟩ ⟨0, 8, _, _, rfl, rfl, rfl⟩ 0 (jb_giV mw_1265 mw_1267 ms_31 mw_1 mw_1268) ⟨rfl, rfl⟩ (by decide +kernel) ⟨⟨(Nat.le_of_ble_eq_true rfl), (Nat.le_of_ble_eq_true rfl)⟩, (Nat.le_of_ble_eq_true rfl), (Nat.le_of_ble_eq_true rfl)⟩ ⟨rfl, rfl⟩ (Nat.le_of_ble_eq_true rfl) dX4_denial_1 (fun H locs hP hD hS => ?_)
  refine W.eq (g2 := F0 m 4 ls []) rfl ?_
  refine lv_aload_n hx hb dX4_denial_4 rfl (lv_at hl 0 rfl) ?_
  refine va_get (D := g.1) (ci := 8) (v := .int (X_deniedNumber x)) (C := RX4) (T := TX4) (N := 12) hx hb hts inX4 hown hK hP 0 rfl rfl 9 (by decide) (hts _ mw_232) (fun _ h9 => h9) rfl dX4_denial_5 ?_
  cases hF
  rw [hQ]
  exact jx_iret hx hb hr rfl hlocks hP hD hS dX4_denial_8 rfl (Nat.le_of_ble_eq_true rfl) (Nat.le_of_ble_eq_true rfl)
def F_X4_denialDetail (x : Xv) : Option ((Int32) ⊕ (String)) := obx (F_X4_requireDenial x) (fun z1 => some (.inl (X_deniedDetail x))) (fun z1 => some (.inr z1))
set_option maxHeartbeats 4000000 in
set_option maxRecDepth 100000 in
theorem c_X4_denialDetail (g : GG) (l : Launch) (hst : l.stackTraces = false) (a a1 a2 a3 a4 a5 a6 a7 : Nat → Nat) (x : Xv) (z : (Int32) ⊕ (String)) (hF : F_X4_denialDetail x = some z) : MX g l yX4_denialDetail cX4_denialDetail 1 (some .int) ({ frames := 7, cells := 1, slots := 6, locals := 110 } : Room) [.ref (a 0)] [wX g a a1 a2 a3 a4 a5 a6 a7 x] 1 6 (Sum.elim (fun y => .inl (some (.int y), [wX g a a1 a2 a3 a4 a5 a6 a7 x])) (fun y => .inr (y, [wX g a a1 a2 a3 a4 a5 a6 a7 x])) z) := by
  refine MX.bg (by decide) (Nat.le_of_ble_eq_true rfl) ?_
  intro p e s m below meth c A Q hQ hx hb hr hml hown hts hlocks htab hK hE hA hP hD hS ls hl
  rw [F_X4_denialDetail] at hF
  have hl : lv_has ls 1 [(0, .ref (a 0))] := hl
  refine lv_aload_n hx hb dX4_denialDetail_0 rfl (lv_at hl 0 rfl) ?_
  rcases ob_bx hF with ⟨z1, hz1, hF⟩ | ⟨z1, hz1, hF⟩
  rotate_left
  · refine cx_x (csR := []) (csF := [wX g a a1 a2 a3 a4 a5 a6 a7 x]) (rest := []) hx hb hml hown hts hK hE hA hl hP hD hS (c_X4_requireDenial g l hst a a1 a2 a3 a4 a5 a6 a7 x (.inr z1) hz1) [0] [] [0] ⟨rfl, rfl, rfl, rfl, rfl, rfl, rfl⟩ ⟨0, 8, _, _, rfl, rfl, rfl⟩ 0 (jb_giV mw_1265 mw_1267 ms_31 mw_1 mw_1268) ⟨rfl, rfl⟩ (by decide +kernel) ⟨⟨(Nat.le_of_ble_eq_true rfl), (Nat.le_of_ble_eq_true rfl)⟩, (Nat.le_of_ble_eq_true rfl), (Nat.le_of_ble_eq_true rfl)⟩ ⟨rfl, rfl⟩ (Nat.le_of_ble_eq_true rfl) dX4_denialDetail_1 (fun H locs q9 ce hP hD hS h1 h2 h3 => ?_)
    cases hF
    rw [hQ]
    exact jx_out htab hlocks hP hD hS h1 h2 h3 rfl (Nat.le_of_ble_eq_true rfl) (Nat.le_of_ble_eq_true rfl)
  refine cx_n (csR := []) (csF := [wX g a a1 a2 a3 a4 a5 a6 a7 x]) (rest := []) hx hb hml hown hts hK hE hA hl hP hD hS (c_X4_requireDenial g l hst a a1 a2 a3 a4 a5 a6 a7 x (.inl z1) hz1) [0] [] [0] ⟨rfl, rfl, rfl, rfl, rfl, rfl, rfl⟩ ⟨0, 8, _, _, rfl, rfl, rfl⟩ 0 (jb_giV mw_1265 mw_1267 ms_31 mw_1 mw_1268) ⟨rfl, rfl⟩ (by decide +kernel) ⟨⟨(Nat.le_of_ble_eq_true rfl), (Nat.le_of_ble_eq_true rfl)⟩, (Nat.le_of_ble_eq_true rfl), (Nat.le_of_ble_eq_true rfl)⟩ ⟨rfl, rfl⟩ (Nat.le_of_ble_eq_true rfl) dX4_denialDetail_1 (fun H locs hP hD hS => ?_)
  refine W.eq (g2 := F0 m 4 ls []) rfl ?_
  refine lv_aload_n hx hb dX4_denialDetail_4 rfl (lv_at hl 0 rfl) ?_
  refine va_get (D := g.1) (ci := 8) (v := .int (X_deniedDetail x)) (C := RX4) (T := TX4) (N := 12) hx hb hts inX4 hown hK hP 0 rfl rfl 10 (by decide) (hts _ mw_233) (fun _ h9 => h9) rfl dX4_denialDetail_5 ?_
  cases hF
  rw [hQ]
  exact jx_iret hx hb hr rfl hlocks hP hD hS dX4_denialDetail_8 rfl (Nat.le_of_ble_eq_true rfl) (Nat.le_of_ble_eq_true rfl)
def F_X4_denialCause (x : Xv) : Option ((Int32) ⊕ (String)) := if ¬ (X_deniedCause x) = 0 then some (.inl (X_deniedCause x)) else some (.inr ("java/util/NoSuchElementException"))
set_option maxHeartbeats 4000000 in
set_option maxRecDepth 100000 in
theorem c_X4_denialCause (g : GG) (l : Launch) (hst : l.stackTraces = false) (a a1 a2 a3 a4 a5 a6 a7 : Nat → Nat) (x : Xv) (z : (Int32) ⊕ (String)) (hF : F_X4_denialCause x = some z) : MX g l yX4_denialCause cX4_denialCause 1 (some .int) ({ frames := 6, cells := 1, slots := 6, locals := 90 } : Room) [.ref (a 0)] [wX g a a1 a2 a3 a4 a5 a6 a7 x] 1 6 (Sum.elim (fun y => .inl (some (.int y), [wX g a a1 a2 a3 a4 a5 a6 a7 x])) (fun y => .inr (y, [wX g a a1 a2 a3 a4 a5 a6 a7 x])) z) := by
  refine MX.bg (by decide) (Nat.le_of_ble_eq_true rfl) ?_
  intro p e s m below meth c A Q hQ hx hb hr hml hown hts hlocks htab hK hE hA hP hD hS ls hl
  rw [F_X4_denialCause] at hF
  have hl : lv_has ls 1 [(0, .ref (a 0))] := hl
  refine lv_aload_n hx hb dX4_denialCause_0 rfl (lv_at hl 0 rfl) ?_
  refine va_get (D := g.1) (ci := 8) (v := .int (X_deniedCause x)) (C := RX4) (T := TX4) (N := 12) hx hb hts inX4 hown hK hP 0 rfl rfl 11 (by decide) (hts _ mw_234) (fun _ h9 => h9) rfl dX4_denialCause_1 ?_
  refine lv_if_ne (tgt := 18) hx hb dX4_denialCause_4 (by decide) (fun c1 => ?_) (fun c1 => ?_)
  · have hF := ob_pos c1 hF
    refine lv_aload_n hx hb dX4_denialCause_18 rfl (lv_at hl 0 rfl) ?_
    refine va_get (D := g.1) (ci := 8) (v := .int (X_deniedCause x)) (C := RX4) (T := TX4) (N := 12) hx hb hts inX4 hown hK hP 0 rfl rfl 11 (by decide) (hts _ mw_234) (fun _ h9 => h9) rfl dX4_denialCause_19 ?_
    cases hF
    rw [hQ]
    exact jx_iret hx hb hr rfl hlocks hP hD hS dX4_denialCause_22 rfl (Nat.le_of_ble_eq_true rfl) (Nat.le_of_ble_eq_true rfl)
  · have hF := ob_nneg c1 hF
    cases hF
    rw [hQ]
    exact jx_throwEW hst thw_123 hx hb (hml.trans hl.1.symm) hown hts hE htab hlocks 19 rfl hP hD hS dX4_denialCause_7 dX4_denialCause_10 dX4_denialCause_11 dX4_denialCause_14 dX4_denialCause_17 ⟨(Nat.le_of_ble_eq_true rfl), (Nat.le_of_ble_eq_true rfl), (Nat.le_of_ble_eq_true rfl), (Nat.le_of_ble_eq_true rfl)⟩ (Nat.le_of_ble_eq_true rfl) (Nat.le_of_ble_eq_true rfl) rfl
def F_X4_undo (x : Xv) (b : Bv) (h : Hv) : Option ((Int32 × Bv × Hv) ⊕ (String × Bv × Hv)) := if ¬ (H_count h) = 0 then (F_X1_giveBack h b).bind (fun z1 => some (.inl (H_count z1.1, z1.2, z1.1))) else some (.inr ("java/lang/IllegalStateException", b, h))
set_option maxHeartbeats 4000000 in
set_option maxRecDepth 100000 in
theorem c_X4_undo (g : GG) (l : Launch) (hst : l.stackTraces = false) (a a1 a2 a3 a4 a5 a6 a7 : Nat → Nat) (x : Xv) (b : Bv) (h : Hv) (z : (Int32 × Bv × Hv) ⊕ (String × Bv × Hv)) (hF : F_X4_undo x b h = some z) : MX g l yX4_undo cX4_undo 1 (some .int) ({ frames := 6, cells := 1, slots := 6, locals := 142 } : Room) [.ref (a 0)] [wX g a a1 a2 a3 a4 a5 a6 a7 x, wB g a1 b, wH g a4 h] 1 6 (Sum.elim (fun y => .inl (some (.int y.1), [wX g a a1 a2 a3 a4 a5 a6 a7 x, wB g a1 y.2.1, wH g a4 y.2.2])) (fun y => .inr (y.1, [wX g a a1 a2 a3 a4 a5 a6 a7 x, wB g a1 y.2.1, wH g a4 y.2.2])) z) := by
  refine MX.bg (by decide) (Nat.le_of_ble_eq_true rfl) ?_
  intro p e s m below meth c A Q hQ hx hb hr hml hown hts hlocks htab hK hE hA hP hD hS ls hl
  rw [F_X4_undo] at hF
  have hl : lv_has ls 1 [(0, .ref (a 0))] := hl
  refine lv_aload_n hx hb dX4_undo_0 rfl (lv_at hl 0 rfl) ?_
  refine va_get (D := g.1) (ci := 8) (v := .ref (a4 0)) (C := RX4) (T := TX4) (N := 12) hx hb hts inX4 hown hK hP 0 rfl rfl 3 (by decide) (hts _ mw_226) (fun _ h9 => h9) rfl dX4_undo_1 ?_
  refine va_getN (D := g.1) (ci := 5) (v := .int (H_count h)) (C := RX1) (T := TX1) (N := 3) hx hb hts inX1 hown hK hP 10 rfl rfl 2 (by decide) (hE.nf 23 rfl) (fun _ h9 => h9) rfl dX4_undo_4 ?_
  refine lv_if_ne (tgt := 21) hx hb dX4_undo_7 (by decide) (fun c1 => ?_) (fun c1 => ?_)
  · have hF := ob_pos c1 hF
    refine lv_aload_n hx hb dX4_undo_21 rfl (lv_at hl 0 rfl) ?_
    refine va_get (D := g.1) (ci := 8) (v := .ref (a4 0)) (C := RX4) (T := TX4) (N := 12) hx hb hts inX4 hown hK hP 0 rfl rfl 3 (by decide) (hts _ mw_226) (fun _ h9 => h9) rfl dX4_undo_22 ?_
    refine lv_aload_n hx hb dX4_undo_25 rfl (lv_at hl 0 rfl) ?_
    refine va_get (D := g.1) (ci := 8) (v := .ref (a1 0)) (C := RX4) (T := TX4) (N := 12) hx hb hts inX4 hown hK hP 0 rfl rfl 0 (by decide) (hts _ mw_223) (fun _ h9 => h9) rfl dX4_undo_26 ?_
    obtain ⟨z2, hz2, hF⟩ := ob_bind hF
    refine cl_v (csR := [wX g a a1 a2 a3 a4 a5 a6 a7 x]) (csF := [wX g a a1 a2 a3 a4 a5 a6 a7 x, wB g a1 z2.2, wH g a4 z2.1]) (rest := []) hx hb hml hown hts hK hE hA hl hP hD hS (c_X1_giveBack g l a4 a1 h b z2 hz2) [2, 1] [0] [0, 2, 1] ⟨rfl, rfl, rfl, rfl, rfl, rfl, rfl⟩ ⟨0, 5, _, _, rfl, rfl, rfl⟩ 1 (jb_giV mw_1293 mw_1294 mw_1295 mw_3 mw_1296) ⟨rfl, rfl⟩ (by decide +kernel) ⟨⟨(Nat.le_of_ble_eq_true rfl), (Nat.le_of_ble_eq_true rfl)⟩, (Nat.le_of_ble_eq_true rfl), (Nat.le_of_ble_eq_true rfl)⟩ ⟨rfl, rfl⟩ (Nat.le_of_ble_eq_true rfl) dX4_undo_29 (fun H locs hP hD hS => ?_)
    refine lv_aload_n hx hb dX4_undo_32 rfl (lv_at hl 0 rfl) ?_
    refine va_get (D := g.1) (ci := 8) (v := .ref (a4 0)) (C := RX4) (T := TX4) (N := 12) hx hb hts inX4 hown hK hP 0 rfl rfl 3 (by decide) (hts _ mw_226) (fun _ h9 => h9) rfl dX4_undo_33 ?_
    refine va_getN (D := g.1) (ci := 5) (v := .int (H_count z2.1)) (C := RX1) (T := TX1) (N := 3) hx hb hts inX1 hown hK hP 10 rfl rfl 2 (by decide) (hE.nf 23 rfl) (fun _ h9 => h9) rfl dX4_undo_36 ?_
    cases hF
    rw [hQ]
    exact jx_iret hx hb hr rfl hlocks hP hD hS dX4_undo_39 rfl (Nat.le_of_ble_eq_true rfl) (Nat.le_of_ble_eq_true rfl)
  · have hF := ob_nneg c1 hF
    cases hF
    rw [hQ]
    exact jx_throwW hst thw_218 hx hb (hml.trans hl.1.symm) hown hts hE htab hlocks 20 rfl hP hD hS dX4_undo_10 dX4_undo_13 dX4_undo_14 dX4_undo_17 dX4_undo_20 ⟨(Nat.le_of_ble_eq_true rfl), (Nat.le_of_ble_eq_true rfl), (Nat.le_of_ble_eq_true rfl), (Nat.le_of_ble_eq_true rfl)⟩ (Nat.le_of_ble_eq_true rfl) (Nat.le_of_ble_eq_true rfl) rfl
def F_X4_undoCount (x : Xv) (h : Hv) : Option (Int32) := some (H_count h)
set_option maxHeartbeats 4000000 in
set_option maxRecDepth 100000 in
theorem c_X4_undoCount (g : GG) (l : Launch) (a a1 a2 a3 a4 a5 a6 a7 : Nat → Nat) (x : Xv) (h : Hv) (z : Int32) (hF : F_X4_undoCount x h = some z) : MI g l yX4_undoCount cX4_undoCount 1 (some .int) ({ frames := 0, cells := 0, slots := 0, locals := 0 } : Room) [.ref (a 0)] [wX g a a1 a2 a3 a4 a5 a6 a7 x, wH g a4 h] 0 0 z [wX g a a1 a2 a3 a4 a5 a6 a7 x, wH g a4 h] := by
  refine MI.bg (by decide) (Nat.le_of_ble_eq_true rfl) ?_
  intro p e s m below meth c A Q hQ hx hb hr hml hown hts hlocks hmn hK hE hA hP hD hS ls hl
  rw [F_X4_undoCount] at hF
  have hl : lv_has ls 1 [(0, .ref (a 0))] := hl
  refine lv_aload_n hx hb dX4_undoCount_0 rfl (lv_at hl 0 rfl) ?_
  refine va_get (D := g.1) (ci := 8) (v := .ref (a4 0)) (C := RX4) (T := TX4) (N := 12) hx hb hts inX4 hown hK hP 0 rfl rfl 3 (by decide) (hts _ mw_226) (fun _ h9 => h9) rfl dX4_undoCount_1 ?_
  refine va_getN (D := g.1) (ci := 5) (v := .int (H_count h)) (C := RX1) (T := TX1) (N := 3) hx hb hts inX1 hown hK hP 1 rfl rfl 2 (by decide) (hE.nf 23 rfl) (fun _ h9 => h9) rfl dX4_undoCount_4 ?_
  cases hF
  rw [hQ]
  exact jb_iret hx hb hr hlocks hP hD hS dX4_undoCount_7 rfl (Nat.le_of_ble_eq_true rfl) (Nat.le_of_ble_eq_true rfl)
def F_X4_saveSnapshot (x : Xv) (b : Bv) (sn : Bv) : Option (Int32 × Xv × Bv) := (F_X0_copyFrom sn b).bind (fun z1 => some (B_spans b, (mkX 1 (X_faultKept x) (X_deniedNumber x) (X_deniedDetail x) (X_deniedCause x)), z1))
set_option maxHeartbeats 4000000 in
set_option maxRecDepth 100000 in
theorem c_X4_saveSnapshot (g : GG) (l : Launch) (a a1 a2 a3 a4 a5 a6 a7 : Nat → Nat) (x : Xv) (b : Bv) (sn : Bv) (z : Int32 × Xv × Bv) (hF : F_X4_saveSnapshot x b sn = some z) : MI g l yX4_saveSnapshot cX4_saveSnapshot 1 (some .int) ({ frames := 3, cells := 0, slots := 0, locals := 121 } : Room) [.ref (a 0)] [wX g a a1 a2 a3 a4 a5 a6 a7 x, wB g a1 b, wB g a3 sn] 0 0 z.1 [wX g a a1 a2 a3 a4 a5 a6 a7 z.2.1, wB g a1 b, wB g a3 z.2.2] := by
  refine MI.bg (by decide) (Nat.le_of_ble_eq_true rfl) ?_
  intro p e s m below meth c A Q hQ hx hb hr hml hown hts hlocks hmn hK hE hA hP hD hS ls hl
  rw [F_X4_saveSnapshot] at hF
  have hl : lv_has ls 1 [(0, .ref (a 0))] := hl
  refine lv_aload_n hx hb dX4_saveSnapshot_0 rfl (lv_at hl 0 rfl) ?_
  refine va_get (D := g.1) (ci := 8) (v := .ref (a3 0)) (C := RX4) (T := TX4) (N := 12) hx hb hts inX4 hown hK hP 0 rfl rfl 2 (by decide) (hts _ mw_225) (fun _ h9 => h9) rfl dX4_saveSnapshot_1 ?_
  refine lv_aload_n hx hb dX4_saveSnapshot_4 rfl (lv_at hl 0 rfl) ?_
  refine va_get (D := g.1) (ci := 8) (v := .ref (a1 0)) (C := RX4) (T := TX4) (N := 12) hx hb hts inX4 hown hK hP 0 rfl rfl 0 (by decide) (hts _ mw_223) (fun _ h9 => h9) rfl dX4_saveSnapshot_5 ?_
  obtain ⟨z1, hz1, hF⟩ := ob_bind hF
  refine cl_v (csR := [wX g a a1 a2 a3 a4 a5 a6 a7 x]) (csF := [wX g a a1 a2 a3 a4 a5 a6 a7 x, wB g a1 b, wB g a3 z1]) (rest := []) hx hb hml hown hts hK hE hA hl hP hD hS (c_X0_copyFrom g l a3 a1 sn b z1 hz1) [2, 1] [0] [0, 2, 1] ⟨rfl, rfl, rfl, rfl, rfl, rfl, rfl⟩ ⟨0, 4, _, _, rfl, rfl, rfl⟩ 1 (jb_giV mw_708 mw_709 mw_710 mw_2 mw_711) ⟨rfl, rfl⟩ (by decide +kernel) ⟨⟨(Nat.le_of_ble_eq_true rfl), (Nat.le_of_ble_eq_true rfl)⟩, (Nat.le_of_ble_eq_true rfl), (Nat.le_of_ble_eq_true rfl)⟩ ⟨rfl, rfl⟩ (Nat.le_of_ble_eq_true rfl) dX4_saveSnapshot_8 (fun H locs hP hD hS => ?_)
  refine lv_aload_n hx hb dX4_saveSnapshot_11 rfl (lv_at hl 0 rfl) ?_
  refine lv_iconst (v := 1) hx hb dX4_saveSnapshot_12 (by decide) ?_
  refine va_put (D := g.1) (ci := 8) (v := .int 1) (ty := .boolean) (C := RX4) (T := TX4) (N := 12) hx hb hts inX4 tyX4 tyX4_ok nmX4 hown hK hP hD hS 0 rfl rfl 7 (by decide) (hts _ mw_230) (fun _ h9 => h9) rfl (by decide +kernel) rfl rfl (Nat.le_of_ble_eq_true rfl) dX4_saveSnapshot_13 (fun H locs hP hD hS => ?_)
  have hP : va_P g.1 vwCl ([wXc g a a1 a2 a3 a4 a5 a6 a7 1 (X_faultKept x) (X_deniedNumber x) (X_deniedDetail x) (X_deniedCause x), wB g a1 b, wB g a3 z1] : List va_W).flatten _ := hP
  have hD : va_D A ([wXc g a a1 a2 a3 a4 a5 a6 a7 1 (X_faultKept x) (X_deniedNumber x) (X_deniedDetail x) (X_deniedCause x), wB g a1 b, wB g a3 z1] : List va_W).flatten := hD
  refine lv_aload_n hx hb dX4_saveSnapshot_16 rfl (lv_at hl 0 rfl) ?_
  refine va_get (D := g.1) (ci := 8) (v := .ref (a1 0)) (C := RX4) (T := TX4) (N := 12) hx hb hts inX4 hown hK hP 0 rfl rfl 0 (by decide) (hts _ mw_223) (fun _ h9 => h9) rfl dX4_saveSnapshot_17 ?_
  refine va_getN (D := g.1) (ci := 4) (v := .int (B_spans b)) (C := RX0) (T := TX0) (N := 17) hx hb hts inX0 hown hK hP 1 rfl rfl 0 (by decide) (hE.nf 1 rfl) (fun _ h9 => h9) rfl dX4_saveSnapshot_20 ?_
  cases hF
  rw [hQ]
  exact jb_iret hx hb hr hlocks hP hD hS dX4_saveSnapshot_23 rfl (Nat.le_of_ble_eq_true rfl) (Nat.le_of_ble_eq_true rfl)
def F_X4_restoreSnapshot (x : Xv) (b : Bv) (sn : Bv) (h : Hv) : Option ((Int32 × Bv × Hv) ⊕ (String × Bv × Hv)) := if ¬ (X_snapshotSaved x) = 0 then (F_X0_copyFrom b sn).bind (fun z1 => some (.inl (B_spans z1, z1, (mkH (H_newest h) 0 (H_st h))))) else some (.inr ("java/lang/IllegalStateException", b, h))
set_option maxHeartbeats 4000000 in
set_option maxRecDepth 100000 in
theorem c_X4_restoreSnapshot (g : GG) (l : Launch) (hst : l.stackTraces = false) (a a1 a2 a3 a4 a5 a6 a7 : Nat → Nat) (x : Xv) (b : Bv) (sn : Bv) (h : Hv) (z : (Int32 × Bv × Hv) ⊕ (String × Bv × Hv)) (hF : F_X4_restoreSnapshot x b sn h = some z) : MX g l yX4_restoreSnapshot cX4_restoreSnapshot 1 (some .int) ({ frames := 6, cells := 1, slots := 6, locals := 121 } : Room) [.ref (a 0)] [wX g a a1 a2 a3 a4 a5 a6 a7 x, wB g a1 b, wB g a3 sn, wH g a4 h] 1 6 (Sum.elim (fun y => .inl (some (.int y.1), [wX g a a1 a2 a3 a4 a5 a6 a7 x, wB g a1 y.2.1, wB g a3 sn, wH g a4 y.2.2])) (fun y => .inr (y.1, [wX g a a1 a2 a3 a4 a5 a6 a7 x, wB g a1 y.2.1, wB g a3 sn, wH g a4 y.2.2])) z) := by
  refine MX.bg (by decide) (Nat.le_of_ble_eq_true rfl) ?_
  intro p e s m below meth c A Q hQ hx hb hr hml hown hts hlocks htab hK hE hA hP hD hS ls hl
  rw [F_X4_restoreSnapshot] at hF
  have hl : lv_has ls 1 [(0, .ref (a 0))] := hl
  refine lv_aload_n hx hb dX4_restoreSnapshot_0 rfl (lv_at hl 0 rfl) ?_
  refine va_get (D := g.1) (ci := 8) (v := .int (X_snapshotSaved x)) (C := RX4) (T := TX4) (N := 12) hx hb hts inX4 hown hK hP 0 rfl rfl 7 (by decide) (hts _ mw_230) (fun _ h9 => h9) rfl dX4_restoreSnapshot_1 ?_
  refine lv_if_ne (tgt := 18) hx hb dX4_restoreSnapshot_4 (by decide) (fun c1 => ?_) (fun c1 => ?_)
  · have hF := ob_pos c1 hF
    refine lv_aload_n hx hb dX4_restoreSnapshot_18 rfl (lv_at hl 0 rfl) ?_
    refine va_get (D := g.1) (ci := 8) (v := .ref (a1 0)) (C := RX4) (T := TX4) (N := 12) hx hb hts inX4 hown hK hP 0 rfl rfl 0 (by decide) (hts _ mw_223) (fun _ h9 => h9) rfl dX4_restoreSnapshot_19 ?_
    refine lv_aload_n hx hb dX4_restoreSnapshot_22 rfl (lv_at hl 0 rfl) ?_
    refine va_get (D := g.1) (ci := 8) (v := .ref (a3 0)) (C := RX4) (T := TX4) (N := 12) hx hb hts inX4 hown hK hP 0 rfl rfl 2 (by decide) (hts _ mw_225) (fun _ h9 => h9) rfl dX4_restoreSnapshot_23 ?_
    obtain ⟨z2, hz2, hF⟩ := ob_bind hF
    refine cl_v (csR := [wX g a a1 a2 a3 a4 a5 a6 a7 x, wH g a4 h]) (csF := [wX g a a1 a2 a3 a4 a5 a6 a7 x, wB g a1 z2, wB g a3 sn, wH g a4 h]) (rest := []) hx hb hml hown hts hK hE hA hl hP hD hS (c_X0_copyFrom g l a1 a3 b sn z2 hz2) [1, 2] [0, 3] [0, 2, 3, 1] ⟨rfl, rfl, rfl, rfl, rfl, rfl, rfl⟩ ⟨0, 4, _, _, rfl, rfl, rfl⟩ 1 (jb_giV mw_708 mw_709 mw_710 mw_2 mw_711) ⟨rfl, rfl⟩ (by decide +kernel) ⟨⟨(Nat.le_of_ble_eq_true rfl), (Nat.le_of_ble_eq_true rfl)⟩, (Nat.le_of_ble_eq_true rfl), (Nat.le_of_ble_eq_true rfl)⟩ ⟨rfl, rfl⟩ (Nat.le_of_ble_eq_true rfl) dX4_restoreSnapshot_26 (fun H locs hP hD hS => ?_)
    refine lv_aload_n hx hb dX4_restoreSnapshot_29 rfl (lv_at hl 0 rfl) ?_
    refine va_get (D := g.1) (ci := 8) (v := .ref (a4 0)) (C := RX4) (T := TX4) (N := 12) hx hb hts inX4 hown hK hP 0 rfl rfl 3 (by decide) (hts _ mw_226) (fun _ h9 => h9) rfl dX4_restoreSnapshot_30 ?_
    refine lv_iconst (v := 0) hx hb dX4_restoreSnapshot_33 (by decide) ?_
    refine va_putN (D := g.1) (ci := 5) (v := .int 0) (ty := .int) (C := RX1) (T := TX1) (N := 3) hx hb hts inX1 tyX1 tyX1_ok nmX1 hown hK hP hD hS 19 rfl rfl 2 (by decide) (hE.nf 23 rfl) (fun _ h9 => h9) rfl (by decide +kernel) rfl rfl (Nat.le_of_ble_eq_true rfl) dX4_restoreSnapshot_34 (fun H locs hP hD hS => ?_)
    have hP : va_P g.1 vwCl ([wX g a a1 a2 a3 a4 a5 a6 a7 x, wB g a1 z2, wB g a3 sn, wHc g a4 (H_newest h) 0 (H_st h)] : List va_W).flatten _ := hP
    have hD : va_D A ([wX g a a1 a2 a3 a4 a5 a6 a7 x, wB g a1 z2, wB g a3 sn, wHc g a4 (H_newest h) 0 (H_st h)] : List va_W).flatten := hD
    refine lv_aload_n hx hb dX4_restoreSnapshot_37 rfl (lv_at hl 0 rfl) ?_
    refine va_get (D := g.1) (ci := 8) (v := .ref (a1 0)) (C := RX4) (T := TX4) (N := 12) hx hb hts inX4 hown hK hP 0 rfl rfl 0 (by decide) (hts _ mw_223) (fun _ h9 => h9) rfl dX4_restoreSnapshot_38 ?_
    refine va_getN (D := g.1) (ci := 4) (v := .int (B_spans z2)) (C := RX0) (T := TX0) (N := 17) hx hb hts inX0 hown hK hP 1 rfl rfl 0 (by decide) (hE.nf 1 rfl) (fun _ h9 => h9) rfl dX4_restoreSnapshot_41 ?_
    cases hF
    rw [hQ]
    exact jx_iret hx hb hr rfl hlocks hP hD hS dX4_restoreSnapshot_44 rfl (Nat.le_of_ble_eq_true rfl) (Nat.le_of_ble_eq_true rfl)
  · have hF := ob_nneg c1 hF
    cases hF
    rw [hQ]
    exact jx_throwW hst thw_218 hx hb (hml.trans hl.1.symm) hown hts hE htab hlocks 21 rfl hP hD hS dX4_restoreSnapshot_7 dX4_restoreSnapshot_10 dX4_restoreSnapshot_11 dX4_restoreSnapshot_14 dX4_restoreSnapshot_17 ⟨(Nat.le_of_ble_eq_true rfl), (Nat.le_of_ble_eq_true rfl), (Nat.le_of_ble_eq_true rfl), (Nat.le_of_ble_eq_true rfl)⟩ (Nat.le_of_ble_eq_true rfl) (Nat.le_of_ble_eq_true rfl) rfl
