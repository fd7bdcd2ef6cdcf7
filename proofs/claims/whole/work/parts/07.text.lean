theorem mw_162 : Cond.fieldLink RX3 15 "JamBridge$Text" "length" "I" ∈ WW := WT_in 162 (by decide +kernel) (by decide +kernel)
theorem mw_161 : Cond.fieldLink RX3 9 "JamBridge$Text" "signs" "[C" ∈ WW := WT_in 161 (by decide +kernel) (by decide +kernel)
theorem mw_164 : Cond.fieldLink RX3 19 "JamBridge$Text" "position" "I" ∈ WW := WT_in 164 (by decide +kernel) (by decide +kernel)
theorem mw_1199 : Cond.methodLink RX3 85 yX3_isDigitHere ∈ WW := WT_in 1199 (by decide +kernel) (by decide +kernel)
theorem mw_1201 : Cond.instanceMethod yX3_isDigitHere ∈ WW := WT_in 1201 (by decide +kernel) (by decide +kernel)
theorem ms_28 : Cond.selects RX3 yX3_isDigitHere yX3_isDigitHere ∈ WW := WS_in 28 (by decide +kernel) (by decide +kernel)
theorem mw_5 : Cond.initialized RX3 ∈ WW := WT_in 5 (by decide +kernel) (by decide +kernel)
theorem mw_1202 : Cond.code yX3_isDigitHere cX3_isDigitHere 1 (some .boolean) ∈ WW := WT_in 1202 (by decide +kernel) (by decide +kernel)
theorem mw_1203 : Cond.methodLink RX3 88 yJ9_max_7cf53 ∈ WW := WT_in 1203 (by decide +kernel) (by decide +kernel)
theorem mw_172 : Cond.fieldLink RX3 32 "JamBridge$Text" "commands" "I" ∈ WW := WT_in 172 (by decide +kernel) (by decide +kernel)
theorem mw_170 : Cond.fieldLink RX3 29 "JamBridge$Text" "seconds" "[I" ∈ WW := WT_in 170 (by decide +kernel) (by decide +kernel)
theorem mw_168 : Cond.fieldLink RX3 26 "JamBridge$Text" "firsts" "[I" ∈ WW := WT_in 168 (by decide +kernel) (by decide +kernel)
theorem mw_1179 : Cond.methodLink RX3 69 yJ0_length_8abf5 ∈ WW := WT_in 1179 (by decide +kernel) (by decide +kernel)
theorem mw_416 : Cond.instanceMethod yJ0_length_8abf5 ∈ WW := WT_in 416 (by decide +kernel) (by decide +kernel)
theorem mw_417 : Cond.selects RJ0 yJ0_length_8abf5 yJ0_length_8abf5 ∈ WW := WT_in 417 (by decide +kernel) (by decide +kernel)
theorem mw_8 : Cond.initialized RJ0 ∈ WW := WT_in 8 (by decide +kernel) (by decide +kernel)
theorem mw_418 : Cond.code yJ0_length_8abf5 cJ0_length_8abf5 1 (some .int) ∈ WW := WT_in 418 (by decide +kernel) (by decide +kernel)
theorem mw_1180 : Cond.methodLink RX3 73 yJ0_charAt_5068e ∈ WW := WT_in 1180 (by decide +kernel) (by decide +kernel)
theorem mw_1181 : Cond.instanceMethod yJ0_charAt_5068e ∈ WW := WT_in 1181 (by decide +kernel) (by decide +kernel)
theorem mw_1182 : Cond.selects RJ0 yJ0_charAt_5068e yJ0_charAt_5068e ∈ WW := WT_in 1182 (by decide +kernel) (by decide +kernel)
theorem mw_1183 : Cond.code yJ0_charAt_5068e cJ0_charAt_5068e 2 (some .char) ∈ WW := WT_in 1183 (by decide +kernel) (by decide +kernel)
theorem mw_1195 : Cond.methodLink RX3 77 yX3_readValue ∈ WW := WT_in 1195 (by decide +kernel) (by decide +kernel)
theorem mw_1197 : Cond.instanceMethod yX3_readValue ∈ WW := WT_in 1197 (by decide +kernel) (by decide +kernel)
theorem ms_27 : Cond.selects RX3 yX3_readValue yX3_readValue ∈ WW := WS_in 27 (by decide +kernel) (by decide +kernel)
theorem mw_1198 : Cond.code yX3_readValue cX3_readValue 4 (some .int) ∈ WW := WT_in 1198 (by decide +kernel) (by decide +kernel)
theorem mw_1204 : Cond.methodLink RX3 81 yX3_putValue ∈ WW := WT_in 1204 (by decide +kernel) (by decide +kernel)
theorem mw_1206 : Cond.instanceMethod yX3_putValue ∈ WW := WT_in 1206 (by decide +kernel) (by decide +kernel)
theorem ms_29 : Cond.selects RX3 yX3_putValue yX3_putValue ∈ WW := WS_in 29 (by decide +kernel) (by decide +kernel)
theorem mw_1207 : Cond.code yX3_putValue cX3_putValue 3 none ∈ WW := WT_in 1207 (by decide +kernel) (by decide +kernel)
theorem mw_1208 : Cond.methodLink RX3 39 yX3_readSign ∈ WW := WT_in 1208 (by decide +kernel) (by decide +kernel)
theorem mw_1210 : Cond.instanceMethod yX3_readSign ∈ WW := WT_in 1210 (by decide +kernel) (by decide +kernel)
theorem ms_30 : Cond.selects RX3 yX3_readSign yX3_readSign ∈ WW := WS_in 30 (by decide +kernel) (by decide +kernel)
theorem mw_1211 : Cond.code yX3_readSign cX3_readSign 2 (some .boolean) ∈ WW := WT_in 1211 (by decide +kernel) (by decide +kernel)
theorem mw_1161 : Cond.methodLink RX3 43 yX3_kindHere ∈ WW := WT_in 1161 (by decide +kernel) (by decide +kernel)
theorem mw_1163 : Cond.instanceMethod yX3_kindHere ∈ WW := WT_in 1163 (by decide +kernel) (by decide +kernel)
theorem ms_25 : Cond.selects RX3 yX3_kindHere yX3_kindHere ∈ WW := WS_in 25 (by decide +kernel) (by decide +kernel)
theorem mw_1164 : Cond.code yX3_kindHere cX3_kindHere 1 (some .int) ∈ WW := WT_in 1164 (by decide +kernel) (by decide +kernel)
theorem mw_166 : Cond.fieldLink RX3 22 "JamBridge$Text" "kinds" "[I" ∈ WW := WT_in 166 (by decide +kernel) (by decide +kernel)
theorem mw_1165 : Cond.methodLink RX3 47 yX3_patternOf ∈ WW := WT_in 1165 (by decide +kernel) (by decide +kernel)
theorem mw_1166 : Cond.static yX3_patternOf ∈ WW := WT_in 1166 (by decide +kernel) (by decide +kernel)
theorem mw_1167 : Cond.code yX3_patternOf cX3_patternOf 1 (some (.object "java/lang/String")) ∈ WW := WT_in 1167 (by decide +kernel) (by decide +kernel)
theorem mw_1175 : Cond.methodLink RX3 51 yX3_readPattern ∈ WW := WT_in 1175 (by decide +kernel) (by decide +kernel)
theorem mw_1177 : Cond.instanceMethod yX3_readPattern ∈ WW := WT_in 1177 (by decide +kernel) (by decide +kernel)
theorem ms_26 : Cond.selects RX3 yX3_readPattern yX3_readPattern ∈ WW := WS_in 26 (by decide +kernel) (by decide +kernel)
theorem mw_1178 : Cond.code yX3_readPattern cX3_readPattern 6 (some .boolean) ∈ WW := WT_in 1178 (by decide +kernel) (by decide +kernel)
theorem mw_1157 : Cond.methodLink RX3 35 yX3_readCommand ∈ WW := WT_in 1157 (by decide +kernel) (by decide +kernel)
theorem mw_1159 : Cond.instanceMethod yX3_readCommand ∈ WW := WT_in 1159 (by decide +kernel) (by decide +kernel)
theorem ms_24 : Cond.selects RX3 yX3_readCommand yX3_readCommand ∈ WW := WS_in 24 (by decide +kernel) (by decide +kernel)
theorem mw_1160 : Cond.code yX3_readCommand cX3_readCommand 2 (some .boolean) ∈ WW := WT_in 1160 (by decide +kernel) (by decide +kernel)
def F_X3_append (tx : Tv) (p0 : Int32) : Option (Tv) := if 60 ≤ (T_length tx) then some tx else ck (inb (T_length tx) 60) (some (mkT (upd (T_signs tx) (T_length tx).toNatClampNeg (vp_nar .char p0)) ((T_length tx) + 1) (T_position tx) (T_kinds tx) (T_firsts tx) (T_seconds tx) (T_commands tx)))
set_option maxHeartbeats 4000000 in
set_option maxRecDepth 100000 in
theorem c_X3_append (g : GG) (l : Launch) (a : Nat → Nat) (tx : Tv) (p0 : Int32) (z : Tv) (hF : F_X3_append tx p0 = some z) : MV g l yX3_append cX3_append 2 none ({ frames := 0, cells := 0, slots := 0, locals := 0 } : Room) [.ref (a 0), .int p0] [wT g a tx] 0 0 [wT g a z] := by
  refine MV.bg (by decide) (Nat.le_of_ble_eq_true rfl) ?_
  intro p e s m below meth c A Q hQ hx hb hr hml hown hts hlocks hmn hK hE hA hP hD hS ls hl
  rw [F_X3_append] at hF
  have hl : lv_has ls 2 [(0, .ref (a 0)), (1, .int p0)] := hl
  refine lv_aload_n hx hb dX3_append_0 rfl (lv_at hl 0 rfl) ?_
  refine va_get (D := g.1) (ci := 7) (v := .int (T_length tx)) (C := RX3) (T := TX3) (N := 7) hx hb hts inX3 hown hK hP 0 rfl rfl 1 (by decide) (hts _ mw_162) (fun _ h9 => h9) rfl dX3_append_1 ?_
  refine lv_bipush (v := 60) hx hb dX3_append_4 (by decide) ?_
  refine lv_icmp_ge (tgt := 29) hx hb dX3_append_6 (by decide) (fun c1 => ?_) (fun c1 => ?_)
  · have hF := ob_pos c1 hF
    cases hF
    rw [hQ]
    exact jb_vret hx hb hr hlocks hP hD hS dX3_append_29 (Nat.le_of_ble_eq_true rfl) (Nat.le_of_ble_eq_true rfl)
  · have hF := ob_neg c1 hF
    refine lv_aload_n hx hb dX3_append_9 rfl (lv_at hl 0 rfl) ?_
    refine va_get (D := g.1) (ci := 7) (v := .ref (a 1)) (C := RX3) (T := TX3) (N := 7) hx hb hts inX3 hown hK hP 0 rfl rfl 0 (by decide) (hts _ mw_161) (fun _ h9 => h9) rfl dX3_append_10 ?_
    refine lv_aload_n hx hb dX3_append_13 rfl (lv_at hl 0 rfl) ?_
    refine va_get (D := g.1) (ci := 7) (v := .int (T_length tx)) (C := RX3) (T := TX3) (N := 7) hx hb hts inX3 hown hK hP 0 rfl rfl 1 (by decide) (hts _ mw_162) (fun _ h9 => h9) rfl dX3_append_14 ?_
    refine lv_iload_n hx hb dX3_append_17 rfl (lv_at hl 1 rfl) ?_
    have h2 := inb_in (ck_t hF)
    have hF := ck_s hF
    refine va_cast hx hb hK hP hD hS 1 1 rfl rfl h2 dX3_append_18 (fun H locs hP hD hS => ?_)
    have hP : va_P g.1 vwCl ([wTc g a (upd (T_signs tx) (T_length tx).toNatClampNeg (vp_nar .char p0)) (T_length tx) (T_position tx) (T_kinds tx) (T_firsts tx) (T_seconds tx) (T_commands tx)] : List va_W).flatten _ := hP
    have hD : va_D A ([wTc g a (upd (T_signs tx) (T_length tx).toNatClampNeg (vp_nar .char p0)) (T_length tx) (T_position tx) (T_kinds tx) (T_firsts tx) (T_seconds tx) (T_commands tx)] : List va_W).flatten := hD
    refine lv_aload_n hx hb dX3_append_19 rfl (lv_at hl 0 rfl) ?_
    refine lv_dup hx hb dX3_append_20 rfl ?_
    refine va_get (D := g.1) (ci := 7) (v := .int (T_length tx)) (C := RX3) (T := TX3) (N := 7) hx hb hts inX3 hown hK hP 0 rfl rfl 1 (by decide) (hts _ mw_162) (fun _ h9 => h9) rfl dX3_append_21 ?_
    refine lv_iconst (v := 1) hx hb dX3_append_24 (by decide) ?_
    refine lv_iadd hx hb dX3_append_25 ?_
    refine va_put (D := g.1) (ci := 7) (v := .int ((T_length tx) + 1)) (ty := .int) (C := RX3) (T := TX3) (N := 7) hx hb hts inX3 tyX3 tyX3_ok nmX3 hown hK hP hD hS 0 rfl rfl 1 (by decide) (hts _ mw_162) (fun _ h9 => h9) rfl (by decide +kernel) rfl rfl (Nat.le_of_ble_eq_true rfl) dX3_append_26 (fun H locs hP hD hS => ?_)
    have hP : va_P g.1 vwCl ([wTc g a (upd (T_signs tx) (T_length tx).toNatClampNeg (vp_nar .char p0)) ((T_length tx) + 1) (T_position tx) (T_kinds tx) (T_firsts tx) (T_seconds tx) (T_commands tx)] : List va_W).flatten _ := hP
    have hD : va_D A ([wTc g a (upd (T_signs tx) (T_length tx).toNatClampNeg (vp_nar .char p0)) ((T_length tx) + 1) (T_position tx) (T_kinds tx) (T_firsts tx) (T_seconds tx) (T_commands tx)] : List va_W).flatten := hD
    cases hF
    rw [hQ]
    exact jb_vret hx hb hr hlocks hP hD hS dX3_append_29 (Nat.le_of_ble_eq_true rfl) (Nat.le_of_ble_eq_true rfl)
def F_X3_patternOf (p0 : Int32) : Option (Nat) := if p0 = 0 then some 0 else if p0 = 1 then some 1 else if p0 = 2 then some 2 else if p0 = 3 then some 3 else if p0 = 4 then some 4 else if p0 = 5 then some 5 else some 6
set_option maxHeartbeats 4000000 in
set_option maxRecDepth 100000 in
theorem c_X3_patternOf (g : GG) (l : Launch)  (p0 : Int32) (z : Nat) (hF : F_X3_patternOf p0 = some z) : MR g l yX3_patternOf cX3_patternOf 1 (some (.object "java/lang/String")) ({ frames := 0, cells := 0, slots := 0, locals := 0 } : Room) [.int p0] [] 0 0 (g.2.2.1 z) [] := by
  refine MR.bg (by decide) (Nat.le_of_ble_eq_true rfl) ?_
  intro p e s m below meth c A Q hQ hx hb hr hml hown hts hlocks hmn hK hE hA hP hD hS ls hl
  rw [F_X3_patternOf] at hF
  have hl : lv_has ls 1 [(0, .int p0)] := hl
  refine lv_iload_n hx hb dX3_patternOf_0 rfl (lv_at hl 0 rfl) ?_
  by_cases s1 : p0 = 0
  · have hF := ob_pos s1 hF
    refine lv_tableIn (off := 39) (tgt := 40) hx hb dX3_patternOf_1 (by rw [s1]; decide) (by rw [s1]; decide) (by rw [s1]; rfl) (by decide) ?_
    refine va_ldcS hx hb hown (hE.2.2.2.2.2.2.2.2.2.1 _ (List.mem_of_getElem? (i := 0) rfl)) dX3_patternOf_40 ?_
    cases hF
    rw [hQ]
    exact jb_aret hx hb hr hlocks hP hD hS dX3_patternOf_42 rfl (Nat.le_of_ble_eq_true rfl) (Nat.le_of_ble_eq_true rfl)
  · have hF := ob_neg s1 hF
    by_cases s2 : p0 = 1
    · have hF := ob_pos s2 hF
      refine lv_tableIn (off := 42) (tgt := 43) hx hb dX3_patternOf_1 (by rw [s2]; decide) (by rw [s2]; decide) (by rw [s2]; rfl) (by decide) ?_
      refine va_ldcS hx hb hown (hE.2.2.2.2.2.2.2.2.2.1 _ (List.mem_of_getElem? (i := 1) rfl)) dX3_patternOf_43 ?_
      cases hF
      rw [hQ]
      exact jb_aret hx hb hr hlocks hP hD hS dX3_patternOf_45 rfl (Nat.le_of_ble_eq_true rfl) (Nat.le_of_ble_eq_true rfl)
    · have hF := ob_neg s2 hF
      by_cases s3 : p0 = 2
      · have hF := ob_pos s3 hF
        refine lv_tableIn (off := 45) (tgt := 46) hx hb dX3_patternOf_1 (by rw [s3]; decide) (by rw [s3]; decide) (by rw [s3]; rfl) (by decide) ?_
        refine va_ldcS hx hb hown (hE.2.2.2.2.2.2.2.2.2.1 _ (List.mem_of_getElem? (i := 2) rfl)) dX3_patternOf_46 ?_
        cases hF
        rw [hQ]
        exact jb_aret hx hb hr hlocks hP hD hS dX3_patternOf_48 rfl (Nat.le_of_ble_eq_true rfl) (Nat.le_of_ble_eq_true rfl)
      · have hF := ob_neg s3 hF
        by_cases s4 : p0 = 3
        · have hF := ob_pos s4 hF
          refine lv_tableIn (off := 48) (tgt := 49) hx hb dX3_patternOf_1 (by rw [s4]; decide) (by rw [s4]; decide) (by rw [s4]; rfl) (by decide) ?_
          refine va_ldcS hx hb hown (hE.2.2.2.2.2.2.2.2.2.1 _ (List.mem_of_getElem? (i := 3) rfl)) dX3_patternOf_49 ?_
          cases hF
          rw [hQ]
          exact jb_aret hx hb hr hlocks hP hD hS dX3_patternOf_51 rfl (Nat.le_of_ble_eq_true rfl) (Nat.le_of_ble_eq_true rfl)
        · have hF := ob_neg s4 hF
          by_cases s5 : p0 = 4
          · have hF := ob_pos s5 hF
            refine lv_tableIn (off := 51) (tgt := 52) hx hb dX3_patternOf_1 (by rw [s5]; decide) (by rw [s5]; decide) (by rw [s5]; rfl) (by decide) ?_
            refine va_ldcS hx hb hown (hE.2.2.2.2.2.2.2.2.2.1 _ (List.mem_of_getElem? (i := 4) rfl)) dX3_patternOf_52 ?_
            cases hF
            rw [hQ]
            exact jb_aret hx hb hr hlocks hP hD hS dX3_patternOf_54 rfl (Nat.le_of_ble_eq_true rfl) (Nat.le_of_ble_eq_true rfl)
          · have hF := ob_neg s5 hF
            by_cases s6 : p0 = 5
            · have hF := ob_pos s6 hF
              refine lv_tableIn (off := 54) (tgt := 55) hx hb dX3_patternOf_1 (by rw [s6]; decide) (by rw [s6]; decide) (by rw [s6]; rfl) (by decide) ?_
              refine va_ldcS hx hb hown (hE.2.2.2.2.2.2.2.2.2.1 _ (List.mem_of_getElem? (i := 5) rfl)) dX3_patternOf_55 ?_
              cases hF
              rw [hQ]
              exact jb_aret hx hb hr hlocks hP hD hS dX3_patternOf_57 rfl (Nat.le_of_ble_eq_true rfl) (Nat.le_of_ble_eq_true rfl)
            · have hF := ob_neg s6 hF
              have ts1 := jb_toInt (n := 0) s1 (by decide)
              have ts2 := jb_toInt (n := 1) s2 (by decide)
              have ts3 := jb_toInt (n := 2) s3 (by decide)
              have ts4 := jb_toInt (n := 3) s4 (by decide)
              have ts5 := jb_toInt (n := 4) s5 (by decide)
              have ts6 := jb_toInt (n := 5) s6 (by decide)
              refine lv_tableOut (tgt := 58) hx hb dX3_patternOf_1 (by omega) (by decide) ?_
              refine va_ldcS hx hb hown (hE.2.2.2.2.2.2.2.2.2.1 _ (List.mem_of_getElem? (i := 6) rfl)) dX3_patternOf_58 ?_
              cases hF
              rw [hQ]
              exact jb_aret hx hb hr hlocks hP hD hS dX3_patternOf_60 rfl (Nat.le_of_ble_eq_true rfl) (Nat.le_of_ble_eq_true rfl)
def F_X3_isDigitHere (tx : Tv) : Option (Bool) := if (T_length tx) ≤ (T_position tx) then some false else ck (inb (T_position tx) 60) (if ((T_signs tx) (T_position tx).toNatClampNeg) < 48 then some false else ck (inb (T_position tx) 60) (if 57 < ((T_signs tx) (T_position tx).toNatClampNeg) then some false else some true))
set_option maxHeartbeats 4000000 in
set_option maxRecDepth 100000 in
theorem c_X3_isDigitHere (g : GG) (l : Launch) (a : Nat → Nat) (tx : Tv) (z : Bool) (hF : F_X3_isDigitHere tx = some z) : MI g l yX3_isDigitHere cX3_isDigitHere 1 (some .boolean) ({ frames := 0, cells := 0, slots := 0, locals := 0 } : Room) [.ref (a 0)] [wT g a tx] 0 0 (bi z) [wT g a tx] := by
  refine MI.bg (by decide) (Nat.le_of_ble_eq_true rfl) ?_
  intro p e s m below meth c A Q hQ hx hb hr hml hown hts hlocks hmn hK hE hA hP hD hS ls hl
  rw [F_X3_isDigitHere] at hF
  have hl : lv_has ls 1 [(0, .ref (a 0))] := hl
  refine lv_aload_n hx hb dX3_isDigitHere_0 rfl (lv_at hl 0 rfl) ?_
  refine va_get (D := g.1) (ci := 7) (v := .int (T_position tx)) (C := RX3) (T := TX3) (N := 7) hx hb hts inX3 hown hK hP 0 rfl rfl 2 (by decide) (hts _ mw_164) (fun _ h9 => h9) rfl dX3_isDigitHere_1 ?_
  refine lv_aload_n hx hb dX3_isDigitHere_4 rfl (lv_at hl 0 rfl) ?_
  refine va_get (D := g.1) (ci := 7) (v := .int (T_length tx)) (C := RX3) (T := TX3) (N := 7) hx hb hts inX3 hown hK hP 0 rfl rfl 1 (by decide) (hts _ mw_162) (fun _ h9 => h9) rfl dX3_isDigitHere_5 ?_
  refine lv_icmp_ge (tgt := 43) hx hb dX3_isDigitHere_8 (by decide) (fun c1 => ?_) (fun c1 => ?_)
  · have hF := ob_pos c1 hF
    refine lv_iconst (v := 0) hx hb dX3_isDigitHere_43 (by decide) ?_
    cases hF
    rw [hQ]
    exact jb_zret hx hb hr rfl hlocks hP hD hS dX3_isDigitHere_44 rfl (Nat.le_of_ble_eq_true rfl) (Nat.le_of_ble_eq_true rfl)
  · have hF := ob_neg c1 hF
    refine lv_aload_n hx hb dX3_isDigitHere_11 rfl (lv_at hl 0 rfl) ?_
    refine va_get (D := g.1) (ci := 7) (v := .ref (a 1)) (C := RX3) (T := TX3) (N := 7) hx hb hts inX3 hown hK hP 0 rfl rfl 0 (by decide) (hts _ mw_161) (fun _ h9 => h9) rfl dX3_isDigitHere_12 ?_
    refine lv_aload_n hx hb dX3_isDigitHere_15 rfl (lv_at hl 0 rfl) ?_
    refine va_get (D := g.1) (ci := 7) (v := .int (T_position tx)) (C := RX3) (T := TX3) (N := 7) hx hb hts inX3 hown hK hP 0 rfl rfl 2 (by decide) (hts _ mw_164) (fun _ h9 => h9) rfl dX3_isDigitHere_16 ?_
    have h2 := inb_in (ck_t hF)
    have hF := ck_s hF
    refine va_cald hx hb hK hP 1 1 rfl rfl h2 dX3_isDigitHere_19 ?_
    refine lv_bipush (v := 48) hx hb dX3_isDigitHere_20 (by decide) ?_
    refine lv_icmp_lt (tgt := 43) hx hb dX3_isDigitHere_22 (by decide) (fun c3 => ?_) (fun c3 => ?_)
    · have hF := ob_pos c3 hF
      refine lv_iconst (v := 0) hx hb dX3_isDigitHere_43 (by decide) ?_
      cases hF
      rw [hQ]
      exact jb_zret hx hb hr rfl hlocks hP hD hS dX3_isDigitHere_44 rfl (Nat.le_of_ble_eq_true rfl) (Nat.le_of_ble_eq_true rfl)
    · have hF := ob_neg c3 hF
      refine lv_aload_n hx hb dX3_isDigitHere_25 rfl (lv_at hl 0 rfl) ?_
      refine va_get (D := g.1) (ci := 7) (v := .ref (a 1)) (C := RX3) (T := TX3) (N := 7) hx hb hts inX3 hown hK hP 0 rfl rfl 0 (by decide) (hts _ mw_161) (fun _ h9 => h9) rfl dX3_isDigitHere_26 ?_
      refine lv_aload_n hx hb dX3_isDigitHere_29 rfl (lv_at hl 0 rfl) ?_
      refine va_get (D := g.1) (ci := 7) (v := .int (T_position tx)) (C := RX3) (T := TX3) (N := 7) hx hb hts inX3 hown hK hP 0 rfl rfl 2 (by decide) (hts _ mw_164) (fun _ h9 => h9) rfl dX3_isDigitHere_30 ?_
      have h4 := inb_in (ck_t hF)
      have hF := ck_s hF
      refine va_cald hx hb hK hP 1 1 rfl rfl h4 dX3_isDigitHere_33 ?_
      refine lv_bipush (v := 57) hx hb dX3_isDigitHere_34 (by decide) ?_
      refine lv_icmp_gt (tgt := 43) hx hb dX3_isDigitHere_36 (by decide) (fun c5 => ?_) (fun c5 => ?_)
      · have hF := ob_pos c5 hF
        refine lv_iconst (v := 0) hx hb dX3_isDigitHere_43 (by decide) ?_
        cases hF
        rw [hQ]
        exact jb_zret hx hb hr rfl hlocks hP hD hS dX3_isDigitHere_44 rfl (Nat.le_of_ble_eq_true rfl) (Nat.le_of_ble_eq_true rfl)
      · have hF := ob_neg c5 hF
        refine lv_iconst (v := 1) hx hb dX3_isDigitHere_39 (by decide) ?_
        refine lv_goto (tgt := 44) hx hb dX3_isDigitHere_40 (by decide) ?_
        cases hF
        rw [hQ]
        exact jb_zret hx hb hr rfl hlocks hP hD hS dX3_isDigitHere_44 rfl (Nat.le_of_ble_eq_true rfl) (Nat.le_of_ble_eq_true rfl)
def F_X3_readSign (tx : Tv) (p0 : Int32) : Option (Bool × Tv) := if (T_length tx) ≤ (T_position tx) then some (false, tx) else ck (inb (T_position tx) 60) (if ((T_signs tx) (T_position tx).toNatClampNeg) = p0 then some (true, (mkT (T_signs tx) (T_length tx) ((T_position tx) + 1) (T_kinds tx) (T_firsts tx) (T_seconds tx) (T_commands tx))) else some (false, tx))
set_option maxHeartbeats 4000000 in
set_option maxRecDepth 100000 in
theorem c_X3_readSign (g : GG) (l : Launch) (a : Nat → Nat) (tx : Tv) (p0 : Int32) (z : Bool × Tv) (hF : F_X3_readSign tx p0 = some z) : MI g l yX3_readSign cX3_readSign 2 (some .boolean) ({ frames := 0, cells := 0, slots := 0, locals := 0 } : Room) [.ref (a 0), .int p0] [wT g a tx] 0 0 (bi z.1) [wT g a z.2] := by
  refine MI.bg (by decide) (Nat.le_of_ble_eq_true rfl) ?_
  intro p e s m below meth c A Q hQ hx hb hr hml hown hts hlocks hmn hK hE hA hP hD hS ls hl
  rw [F_X3_readSign] at hF
  have hl : lv_has ls 2 [(0, .ref (a 0)), (1, .int p0)] := hl
  refine lv_aload_n hx hb dX3_readSign_0 rfl (lv_at hl 0 rfl) ?_
  refine va_get (D := g.1) (ci := 7) (v := .int (T_position tx)) (C := RX3) (T := TX3) (N := 7) hx hb hts inX3 hown hK hP 0 rfl rfl 2 (by decide) (hts _ mw_164) (fun _ h9 => h9) rfl dX3_readSign_1 ?_
  refine lv_aload_n hx hb dX3_readSign_4 rfl (lv_at hl 0 rfl) ?_
  refine va_get (D := g.1) (ci := 7) (v := .int (T_length tx)) (C := RX3) (T := TX3) (N := 7) hx hb hts inX3 hown hK hP 0 rfl rfl 1 (by decide) (hts _ mw_162) (fun _ h9 => h9) rfl dX3_readSign_5 ?_
  refine lv_icmp_ge (tgt := 24) hx hb dX3_readSign_8 (by decide) (fun c1 => ?_) (fun c1 => ?_)
  · have hF := ob_pos c1 hF
    refine lv_iconst (v := 0) hx hb dX3_readSign_24 (by decide) ?_
    cases hF
    rw [hQ]
    exact jb_zret hx hb hr rfl hlocks hP hD hS dX3_readSign_25 rfl (Nat.le_of_ble_eq_true rfl) (Nat.le_of_ble_eq_true rfl)
  · have hF := ob_neg c1 hF
    refine lv_aload_n hx hb dX3_readSign_11 rfl (lv_at hl 0 rfl) ?_
    refine va_get (D := g.1) (ci := 7) (v := .ref (a 1)) (C := RX3) (T := TX3) (N := 7) hx hb hts inX3 hown hK hP 0 rfl rfl 0 (by decide) (hts _ mw_161) (fun _ h9 => h9) rfl dX3_readSign_12 ?_
    refine lv_aload_n hx hb dX3_readSign_15 rfl (lv_at hl 0 rfl) ?_
    refine va_get (D := g.1) (ci := 7) (v := .int (T_position tx)) (C := RX3) (T := TX3) (N := 7) hx hb hts inX3 hown hK hP 0 rfl rfl 2 (by decide) (hts _ mw_164) (fun _ h9 => h9) rfl dX3_readSign_16 ?_
    have h2 := inb_in (ck_t hF)
    have hF := ck_s hF
    refine va_cald hx hb hK hP 1 1 rfl rfl h2 dX3_readSign_19 ?_
    refine lv_iload_n hx hb dX3_readSign_20 rfl (lv_at hl 1 rfl) ?_
    refine lv_icmp_eq (tgt := 26) hx hb dX3_readSign_21 (by decide) (fun c3 => ?_) (fun c3 => ?_)
    · have hF := ob_pos c3 hF
      refine lv_aload_n hx hb dX3_readSign_26 rfl (lv_at hl 0 rfl) ?_
      refine lv_dup hx hb dX3_readSign_27 rfl ?_
      refine va_get (D := g.1) (ci := 7) (v := .int (T_position tx)) (C := RX3) (T := TX3) (N := 7) hx hb hts inX3 hown hK hP 0 rfl rfl 2 (by decide) (hts _ mw_164) (fun _ h9 => h9) rfl dX3_readSign_28 ?_
      refine lv_iconst (v := 1) hx hb dX3_readSign_31 (by decide) ?_
      refine lv_iadd hx hb dX3_readSign_32 ?_
      refine va_put (D := g.1) (ci := 7) (v := .int ((T_position tx) + 1)) (ty := .int) (C := RX3) (T := TX3) (N := 7) hx hb hts inX3 tyX3 tyX3_ok nmX3 hown hK hP hD hS 0 rfl rfl 2 (by decide) (hts _ mw_164) (fun _ h9 => h9) rfl (by decide +kernel) rfl rfl (Nat.le_of_ble_eq_true rfl) dX3_readSign_33 (fun H locs hP hD hS => ?_)
      have hP : va_P g.1 vwCl ([wTc g a (T_signs tx) (T_length tx) ((T_position tx) + 1) (T_kinds tx) (T_firsts tx) (T_seconds tx) (T_commands tx)] : List va_W).flatten _ := hP
      have hD : va_D A ([wTc g a (T_signs tx) (T_length tx) ((T_position tx) + 1) (T_kinds tx) (T_firsts tx) (T_seconds tx) (T_commands tx)] : List va_W).flatten := hD
      refine lv_iconst (v := 1) hx hb dX3_readSign_36 (by decide) ?_
      cases hF
      rw [hQ]
      exact jb_zret hx hb hr rfl hlocks hP hD hS dX3_readSign_37 rfl (Nat.le_of_ble_eq_true rfl) (Nat.le_of_ble_eq_true rfl)
    · have hF := ob_neg c3 hF
      refine lv_iconst (v := 0) hx hb dX3_readSign_24 (by decide) ?_
      cases hF
      rw [hQ]
      exact jb_zret hx hb hr rfl hlocks hP hD hS dX3_readSign_25 rfl (Nat.le_of_ble_eq_true rfl) (Nat.le_of_ble_eq_true rfl)
def F_X3_readValue_L4 (y1 : Int32) (k : Tv → Int32 → Int32 → Option (Int32 × Tv)) : Nat → Tv → Int32 → Int32 → Option (Int32 × Tv)
  | 0, _, _, _ => none
  | n + 1, b0, x2, x3 => if y1 ≤ x3 then k b0 x2 x3 else (F_X3_isDigitHere b0).bind (fun z1 => if (bi z1) = 0 then k b0 x2 x3 else ck (inb (T_position b0) 60) (F_X3_readValue_L4 y1 k n (mkT (T_signs b0) (T_length b0) ((T_position b0) + 1) (T_kinds b0) (T_firsts b0) (T_seconds b0) (T_commands b0)) (((imax x2 0) * 10) + (((T_signs b0) (T_position b0).toNatClampNeg) - 48)) (x3 + 1)))
def F_X3_readValue (tx : Tv) (p0 : Int32) : Option (Int32 × Tv) := F_X3_readValue_L4 p0 (fun b2 x3 x4 => some (x3, b2)) 1000 tx (-1) 0
set_option maxHeartbeats 4000000 in
set_option maxRecDepth 100000 in
theorem c_X3_readValue (g : GG) (l : Launch) (a : Nat → Nat) (tx : Tv) (p0 : Int32) (z : Int32 × Tv) (hF : F_X3_readValue tx p0 = some z) : MI g l yX3_readValue cX3_readValue 4 (some .int) ({ frames := 1, cells := 0, slots := 0, locals := 21 } : Room) [.ref (a 0), .int p0] [wT g a tx] 0 0 z.1 [wT g a z.2] := by
  refine MI.bg (by decide) (Nat.le_of_ble_eq_true rfl) ?_
  intro p e s m below meth c A Q hQ hx hb hr hml hown hts hlocks hmn hK hE hA hP hD hS ls hl
  rw [F_X3_readValue] at hF
  have hl : lv_has ls 4 [(0, .ref (a 0)), (1, .int p0)] := hl
  refine lv_iconst (v := (-1)) hx hb dX3_readValue_0 (by decide) ?_
  refine lv_istore_n (lv' := [(2, .int (-1)), (0, .ref (a 0)), (1, .int p0)]) hx hb dX3_readValue_1 rfl hl (by decide) rfl (fun ls hl => ?_)
  refine lv_iconst (v := 0) hx hb dX3_readValue_2 (by decide) ?_
  refine lv_istore_n (lv' := [(3, .int 0), (2, .int (-1)), (0, .ref (a 0)), (1, .int p0)]) hx hb dX3_readValue_3 rfl hl (by decide) rfl (fun ls hl => ?_)
  obtain ⟨k3, ek3, hF⟩ := ob_k (F := fun k9 => F_X3_readValue_L4 p0 k9 1000 tx (-1) 0) hF
  have loop3 : ∀ (n9 : Nat) (b1 : Tv) (x2 : Int32) (x3 : Int32), F_X3_readValue_L4 p0 k3 n9 b1 x2 x3 = some z → ∀ (H : Heap) (locs : List Loc), va_P g.1 vwCl ([wT g a b1] : List va_W).flatten H → va_D A ([wT g a b1] : List va_W).flatten → va_S A s.heap H locs → ∀ ls : Array Slot, lv_has ls 4 [(0, .ref (a 0)), (1, .int p0), (2, .int x2), (3, .int x3)] → W p l e ({ frames := 1, cells := 0, slots := 0, locals := 21 } : Room) s m ([.ref (a 0), .int p0] : List Value).toArray below meth c H locs 0 0 Q (F0 m 4 ls []) := by
    intro n9
    induction n9 with
    | zero => intro b1 x2 x3 hF; rw [F_X3_readValue_L4] at hF; cases hF
    | succ n9 ih3 =>
      intro b1 x2 x3 hF H locs hP hD hS ls hl
      rw [F_X3_readValue_L4] at hF
      refine lv_iload_n hx hb dX3_readValue_4 rfl (lv_at hl 3 rfl) ?_
      refine lv_iload_n hx hb dX3_readValue_5 rfl (lv_at hl 1 rfl) ?_
      refine lv_icmp_ge (tgt := 54) hx hb dX3_readValue_6 (by decide) (fun c4 => ?_) (fun c4 => ?_)
      · have hF := ob_pos c4 hF
        rw [ek3] at hF
        refine lv_iload_n hx hb dX3_readValue_54 rfl (lv_at hl 2 rfl) ?_
        cases hF
        rw [hQ]
        exact jb_iret hx hb hr hlocks hP hD hS dX3_readValue_55 rfl (Nat.le_of_ble_eq_true rfl) (Nat.le_of_ble_eq_true rfl)
      · have hF := ob_neg c4 hF
        refine lv_aload_n hx hb dX3_readValue_9 rfl (lv_at hl 0 rfl) ?_
        obtain ⟨z5, hz5, hF⟩ := ob_bind hF
        refine cl_i (csR := []) (csF := [wT g a b1]) (rest := []) hx hb hml hown hts hK hE hA hl hP hD hS (c_X3_isDigitHere g l a b1 z5 hz5) [0] [] [0] ⟨rfl, rfl, rfl, rfl, rfl, rfl, rfl⟩ ⟨0, 7, _, _, rfl, rfl, rfl⟩ 0 (jb_giV mw_1199 mw_1201 ms_28 mw_5 mw_1202) ⟨rfl, rfl⟩ (by decide +kernel) ⟨⟨(Nat.le_of_ble_eq_true rfl), (Nat.le_of_ble_eq_true rfl)⟩, (Nat.le_of_ble_eq_true rfl), (Nat.le_of_ble_eq_true rfl)⟩ ⟨rfl, rfl⟩ (Nat.le_of_ble_eq_true rfl) dX3_readValue_10 (fun H locs hP hD hS => ?_)
        refine lv_if_eq (tgt := 54) hx hb dX3_readValue_13 (by decide) (fun c6 => ?_) (fun c6 => ?_)
        · have hF := ob_pos c6 hF
          rw [ek3] at hF
          refine lv_iload_n hx hb dX3_readValue_54 rfl (lv_at hl 2 rfl) ?_
          cases hF
          rw [hQ]
          exact jb_iret hx hb hr hlocks hP hD hS dX3_readValue_55 rfl (Nat.le_of_ble_eq_true rfl) (Nat.le_of_ble_eq_true rfl)
        · have hF := ob_neg c6 hF
          refine lv_iload_n hx hb dX3_readValue_16 rfl (lv_at hl 2 rfl) ?_
          refine lv_iconst (v := 0) hx hb dX3_readValue_17 (by decide) ?_
          refine va_mmax hx hb (hml.trans hl.1.symm) hown (hts _ mw_1203) (hts _ mw_297) (hts _ mw_11) (hts _ mw_298) (Nat.le_of_ble_eq_true rfl) (Nat.le_of_ble_eq_true rfl) (Nat.le_of_ble_eq_true rfl) (Nat.le_of_ble_eq_true rfl) dX3_readValue_18 ?_
          refine lv_bipush (v := 10) hx hb dX3_readValue_21 (by decide) ?_
          refine lv_imul hx hb dX3_readValue_23 ?_
          refine lv_aload_n hx hb dX3_readValue_24 rfl (lv_at hl 0 rfl) ?_
          refine va_get (D := g.1) (ci := 7) (v := .ref (a 1)) (C := RX3) (T := TX3) (N := 7) hx hb hts inX3 hown hK hP 0 rfl rfl 0 (by decide) (hts _ mw_161) (fun _ h9 => h9) rfl dX3_readValue_25 ?_
          refine lv_aload_n hx hb dX3_readValue_28 rfl (lv_at hl 0 rfl) ?_
          refine va_get (D := g.1) (ci := 7) (v := .int (T_position b1)) (C := RX3) (T := TX3) (N := 7) hx hb hts inX3 hown hK hP 0 rfl rfl 2 (by decide) (hts _ mw_164) (fun _ h9 => h9) rfl dX3_readValue_29 ?_
          have h7 := inb_in (ck_t hF)
          have hF := ck_s hF
          refine va_cald hx hb hK hP 1 1 rfl rfl h7 dX3_readValue_32 ?_
          refine lv_bipush (v := 48) hx hb dX3_readValue_33 (by decide) ?_
          refine lv_isub hx hb dX3_readValue_35 ?_
          refine lv_iadd hx hb dX3_readValue_36 ?_
          refine lv_istore_n (lv' := [(2, .int (((imax x2 0) * 10) + (((T_signs b1) (T_position b1).toNatClampNeg) - 48))), (0, .ref (a 0)), (1, .int p0), (3, .int x3)]) hx hb dX3_readValue_37 rfl hl (by decide) rfl (fun ls hl => ?_)
          refine lv_aload_n hx hb dX3_readValue_38 rfl (lv_at hl 1 rfl) ?_
          refine lv_dup hx hb dX3_readValue_39 rfl ?_
          refine va_get (D := g.1) (ci := 7) (v := .int (T_position b1)) (C := RX3) (T := TX3) (N := 7) hx hb hts inX3 hown hK hP 0 rfl rfl 2 (by decide) (hts _ mw_164) (fun _ h9 => h9) rfl dX3_readValue_40 ?_
          refine lv_iconst (v := 1) hx hb dX3_readValue_43 (by decide) ?_
          refine lv_iadd hx hb dX3_readValue_44 ?_
          refine va_put (D := g.1) (ci := 7) (v := .int ((T_position b1) + 1)) (ty := .int) (C := RX3) (T := TX3) (N := 7) hx hb hts inX3 tyX3 tyX3_ok nmX3 hown hK hP hD hS 0 rfl rfl 2 (by decide) (hts _ mw_164) (fun _ h9 => h9) rfl (by decide +kernel) rfl rfl (Nat.le_of_ble_eq_true rfl) dX3_readValue_45 (fun H locs hP hD hS => ?_)
          have hP : va_P g.1 vwCl ([wTc g a (T_signs b1) (T_length b1) ((T_position b1) + 1) (T_kinds b1) (T_firsts b1) (T_seconds b1) (T_commands b1)] : List va_W).flatten _ := hP
          have hD : va_D A ([wTc g a (T_signs b1) (T_length b1) ((T_position b1) + 1) (T_kinds b1) (T_firsts b1) (T_seconds b1) (T_commands b1)] : List va_W).flatten := hD
          refine lv_iinc (v := x3 + 1) (lv' := [(3, .int (x3 + 1)), (2, .int (((imax x2 0) * 10) + (((T_signs b1) (T_position b1).toNatClampNeg) - 48))), (0, .ref (a 0)), (1, .int p0)]) hx hb dX3_readValue_48 hl (k := 3) rfl (by rfl) (by decide) rfl (fun ls hl => ?_)
          refine lv_goto (tgt := 4) hx hb dX3_readValue_51 (by decide) ?_
          exact ih3 _ _ _ hF _ _ hP hD hS ls (lv_sub hl [2, 3, 1, 0] rfl)
  exact loop3 1000 _ _ _ hF _ _ hP hD hS ls (lv_sub hl [2, 3, 1, 0] rfl)
def F_X3_putValue (tx : Tv) (p0 : Int32) (p1 : Int32) : Option (Tv) := if (T_commands tx) < 60 then if ¬ p0 = 0 then ck (inb (T_commands tx) 60) (some (mkT (T_signs tx) (T_length tx) (T_position tx) (T_kinds tx) (T_firsts tx) (upd (T_seconds tx) (T_commands tx).toNatClampNeg p1) (T_commands tx))) else ck (inb (T_commands tx) 60) (some (mkT (T_signs tx) (T_length tx) (T_position tx) (T_kinds tx) (upd (T_firsts tx) (T_commands tx).toNatClampNeg p1) (T_seconds tx) (T_commands tx))) else some tx
set_option maxHeartbeats 4000000 in
set_option maxRecDepth 100000 in
theorem c_X3_putValue (g : GG) (l : Launch) (a : Nat → Nat) (tx : Tv) (p0 : Int32) (p1 : Int32) (z : Tv) (hF : F_X3_putValue tx p0 p1 = some z) : MV g l yX3_putValue cX3_putValue 3 none ({ frames := 0, cells := 0, slots := 0, locals := 0 } : Room) [.ref (a 0), .int p0, .int p1] [wT g a tx] 0 0 [wT g a z] := by
  refine MV.bg (by decide) (Nat.le_of_ble_eq_true rfl) ?_
  intro p e s m below meth c A Q hQ hx hb hr hml hown hts hlocks hmn hK hE hA hP hD hS ls hl
  rw [F_X3_putValue] at hF
  have hl : lv_has ls 3 [(0, .ref (a 0)), (1, .int p0), (2, .int p1)] := hl
  refine lv_aload_n hx hb dX3_putValue_0 rfl (lv_at hl 0 rfl) ?_
  refine va_get (D := g.1) (ci := 7) (v := .int (T_commands tx)) (C := RX3) (T := TX3) (N := 7) hx hb hts inX3 hown hK hP 0 rfl rfl 6 (by decide) (hts _ mw_172) (fun _ h9 => h9) rfl dX3_putValue_1 ?_
  refine lv_bipush (v := 60) hx hb dX3_putValue_4 (by decide) ?_
  refine lv_icmp_lt (tgt := 10) hx hb dX3_putValue_6 (by decide) (fun c1 => ?_) (fun c1 => ?_)
  · have hF := ob_pos c1 hF
    refine lv_iload_n hx hb dX3_putValue_10 rfl (lv_at hl 1 rfl) ?_
    refine lv_if_ne (tgt := 27) hx hb dX3_putValue_11 (by decide) (fun c2 => ?_) (fun c2 => ?_)
    · have hF := ob_pos c2 hF
      refine lv_aload_n hx hb dX3_putValue_27 rfl (lv_at hl 0 rfl) ?_
      refine va_get (D := g.1) (ci := 7) (v := .ref (a 4)) (C := RX3) (T := TX3) (N := 7) hx hb hts inX3 hown hK hP 0 rfl rfl 5 (by decide) (hts _ mw_170) (fun _ h9 => h9) rfl dX3_putValue_28 ?_
      refine lv_aload_n hx hb dX3_putValue_31 rfl (lv_at hl 0 rfl) ?_
      refine va_get (D := g.1) (ci := 7) (v := .int (T_commands tx)) (C := RX3) (T := TX3) (N := 7) hx hb hts inX3 hown hK hP 0 rfl rfl 6 (by decide) (hts _ mw_172) (fun _ h9 => h9) rfl dX3_putValue_32 ?_
      refine lv_iload_n hx hb dX3_putValue_35 rfl (lv_at hl 2 rfl) ?_
      have h3 := inb_in (ck_t hF)
      have hF := ck_s hF
      refine va_iast hx hb hK hP hD hS 4 0 rfl rfl h3 dX3_putValue_36 (fun H locs hP hD hS => ?_)
      have hP : va_P g.1 vwCl ([wTc g a (T_signs tx) (T_length tx) (T_position tx) (T_kinds tx) (T_firsts tx) (upd (T_seconds tx) (T_commands tx).toNatClampNeg p1) (T_commands tx)] : List va_W).flatten _ := hP
      have hD : va_D A ([wTc g a (T_signs tx) (T_length tx) (T_position tx) (T_kinds tx) (T_firsts tx) (upd (T_seconds tx) (T_commands tx).toNatClampNeg p1) (T_commands tx)] : List va_W).flatten := hD
      cases hF
      rw [hQ]
      exact jb_vret hx hb hr hlocks hP hD hS dX3_putValue_37 (Nat.le_of_ble_eq_true rfl) (Nat.le_of_ble_eq_true rfl)
    · have hF := ob_nneg c2 hF
      refine lv_aload_n hx hb dX3_putValue_14 rfl (lv_at hl 0 rfl) ?_
      refine va_get (D := g.1) (ci := 7) (v := .ref (a 3)) (C := RX3) (T := TX3) (N := 7) hx hb hts inX3 hown hK hP 0 rfl rfl 4 (by decide) (hts _ mw_168) (fun _ h9 => h9) rfl dX3_putValue_15 ?_
      refine lv_aload_n hx hb dX3_putValue_18 rfl (lv_at hl 0 rfl) ?_
      refine va_get (D := g.1) (ci := 7) (v := .int (T_commands tx)) (C := RX3) (T := TX3) (N := 7) hx hb hts inX3 hown hK hP 0 rfl rfl 6 (by decide) (hts _ mw_172) (fun _ h9 => h9) rfl dX3_putValue_19 ?_
      refine lv_iload_n hx hb dX3_putValue_22 rfl (lv_at hl 2 rfl) ?_
      have h4 := inb_in (ck_t hF)
      have hF := ck_s hF
      refine va_iast hx hb hK hP hD hS 3 0 rfl rfl h4 dX3_putValue_23 (fun H locs hP hD hS => ?_)
      have hP : va_P g.1 vwCl ([wTc g a (T_signs tx) (T_length tx) (T_position tx) (T_kinds tx) (upd (T_firsts tx) (T_commands tx).toNatClampNeg p1) (T_seconds tx) (T_commands tx)] : List va_W).flatten _ := hP
      have hD : va_D A ([wTc g a (T_signs tx) (T_length tx) (T_position tx) (T_kinds tx) (upd (T_firsts tx) (T_commands tx).toNatClampNeg p1) (T_seconds tx) (T_commands tx)] : List va_W).flatten := hD
      refine lv_goto (tgt := 37) hx hb dX3_putValue_24 (by decide) ?_
      cases hF
      rw [hQ]
      exact jb_vret hx hb hr hlocks hP hD hS dX3_putValue_37 (Nat.le_of_ble_eq_true rfl) (Nat.le_of_ble_eq_true rfl)
  · have hF := ob_neg c1 hF
    cases hF
    rw [hQ]
    exact jb_vret hx hb hr hlocks hP hD hS dX3_putValue_9 (Nat.le_of_ble_eq_true rfl) (Nat.le_of_ble_eq_true rfl)
def F_X3_readPattern_L4 (y1 : Nat) (k : Tv → Int32 → Int32 → Option (Bool × Tv)) : Nat → Tv → Int32 → Int32 → Option (Bool × Tv)
  | 0, _, _, _ => none
  | n + 1, b0, x2, x3 => (F_J0_length_8abf5 y1).bind (fun z1 => if z1 ≤ x3 then k b0 x2 x3 else (F_J0_charAt_5068e y1 x3).bind (fun z2 => if z2 = 68 then if ¬ z2 = 78 then (F_X3_readValue b0 1).bind (fun z3 => if ¬ z3.1 = (-1) then (F_X3_putValue z3.2 x2 z3.1).bind (fun z4 => F_X3_readPattern_L4 y1 k n z4 (x2 + 1) (x3 + 1)) else some (false, z3.2)) else (F_X3_readValue b0 2).bind (fun z5 => if ¬ z5.1 = (-1) then (F_X3_putValue z5.2 x2 z5.1).bind (fun z6 => F_X3_readPattern_L4 y1 k n z6 (x2 + 1) (x3 + 1)) else some (false, z5.2)) else if ¬ z2 = 78 then (F_X3_readSign b0 z2).bind (fun z7 => if ¬ (bi z7.1) = 0 then F_X3_readPattern_L4 y1 k n z7.2 x2 (x3 + 1) else some (false, z7.2)) else if ¬ z2 = 78 then (F_X3_readValue b0 1).bind (fun z8 => if ¬ z8.1 = (-1) then (F_X3_putValue z8.2 x2 z8.1).bind (fun z9 => F_X3_readPattern_L4 y1 k n z9 (x2 + 1) (x3 + 1)) else some (false, z8.2)) else (F_X3_readValue b0 2).bind (fun z10 => if ¬ z10.1 = (-1) then (F_X3_putValue z10.2 x2 z10.1).bind (fun z11 => F_X3_readPattern_L4 y1 k n z11 (x2 + 1) (x3 + 1)) else some (false, z10.2))))
def F_X3_readPattern (tx : Tv) (p0 : Nat) : Option (Bool × Tv) := F_X3_readPattern_L4 p0 (fun b12 x13 x14 => some (true, b12)) 1000 tx 0 0
set_option maxHeartbeats 4000000 in
set_option maxRecDepth 100000 in
theorem c_X3_readPattern (g : GG) (l : Launch) (a : Nat → Nat) (tx : Tv) (p0 : Nat) (z : Bool × Tv) (hF : F_X3_readPattern tx p0 = some z) : MI g l yX3_readPattern cX3_readPattern 6 (some .boolean) ({ frames := 4, cells := 0, slots := 0, locals := 85 } : Room) [.ref (a 0), .ref (g.2.2.1 p0)] [wT g a tx] 0 0 (bi z.1) [wT g a z.2] := by
  refine MI.bg (by decide) (Nat.le_of_ble_eq_true rfl) ?_
  intro p e s m below meth c A Q hQ hx hb hr hml hown hts hlocks hmn hK hE hA hP hD hS ls hl
  rw [F_X3_readPattern] at hF
  have hl : lv_has ls 6 [(0, .ref (a 0)), (1, .ref (g.2.2.1 p0))] := hl
  refine lv_iconst (v := 0) hx hb dX3_readPattern_0 (by decide) ?_
  refine lv_istore_n (lv' := [(2, .int 0), (0, .ref (a 0)), (1, .ref (g.2.2.1 p0))]) hx hb dX3_readPattern_1 rfl hl (by decide) rfl (fun ls hl => ?_)
  refine lv_iconst (v := 0) hx hb dX3_readPattern_2 (by decide) ?_
  refine lv_istore_n (lv' := [(3, .int 0), (2, .int 0), (0, .ref (a 0)), (1, .ref (g.2.2.1 p0))]) hx hb dX3_readPattern_3 rfl hl (by decide) rfl (fun ls hl => ?_)
  obtain ⟨k3, ek3, hF⟩ := ob_k (F := fun k9 => F_X3_readPattern_L4 p0 k9 1000 tx 0 0) hF
  have loop3 : ∀ (n9 : Nat) (b1 : Tv) (x2 : Int32) (x3 : Int32), F_X3_readPattern_L4 p0 k3 n9 b1 x2 x3 = some z → ∀ (H : Heap) (locs : List Loc), va_P g.1 vwCl ([wT g a b1] : List va_W).flatten H → va_D A ([wT g a b1] : List va_W).flatten → va_S A s.heap H locs → ∀ ls : Array Slot, lv_has ls 6 [(0, .ref (a 0)), (1, .ref (g.2.2.1 p0)), (2, .int x2), (3, .int x3)] → W p l e ({ frames := 4, cells := 0, slots := 0, locals := 85 } : Room) s m ([.ref (a 0), .ref (g.2.2.1 p0)] : List Value).toArray below meth c H locs 0 0 Q (F0 m 4 ls []) := by
    intro n9
    induction n9 with
    | zero => intro b1 x2 x3 hF; rw [F_X3_readPattern_L4] at hF; cases hF
    | succ n9 ih3 =>
      intro b1 x2 x3 hF H locs hP hD hS ls hl
      rw [F_X3_readPattern_L4] at hF
      refine lv_iload_n hx hb dX3_readPattern_4 rfl (lv_at hl 3 rfl) ?_
      refine lv_aload_n hx hb dX3_readPattern_5 rfl (lv_at hl 1 rfl) ?_
      obtain ⟨z4, hz4, hF⟩ := ob_bind hF
      refine cl_iR (csR := [wT g a b1]) (csF := [wT g a b1]) (rest := [.int x3]) hx hb hml hown hts hK hE hA hl hP hD hS (c_J0_length_8abf5 g l  p0 z4 hz4) [] [0] [0] ⟨rfl, rfl, rfl, rfl, rfl, rfl, rfl⟩ (jb_strR hE (of_decide_eq_true (ck_t hz4)) hS) 0 (jb_giV mw_1179 mw_416 mw_417 mw_8 mw_418) ⟨rfl, rfl⟩ (by decide +kernel) ⟨⟨(Nat.le_of_ble_eq_true rfl), (Nat.le_of_ble_eq_true rfl)⟩, (Nat.le_of_ble_eq_true rfl), (Nat.le_of_ble_eq_true rfl)⟩ ⟨rfl, rfl⟩ (Nat.le_of_ble_eq_true rfl) dX3_readPattern_6 (fun H locs hP hD hS => ?_)
      refine lv_icmp_ge (tgt := 89) hx hb dX3_readPattern_9 (by decide) (fun c5 => ?_) (fun c5 => ?_)
      · have hF := ob_pos c5 hF
        rw [ek3] at hF
        refine lv_iconst (v := 1) hx hb dX3_readPattern_89 (by decide) ?_
        cases hF
        rw [hQ]
        exact jb_zret hx hb hr rfl hlocks hP hD hS dX3_readPattern_90 rfl (Nat.le_of_ble_eq_true rfl) (Nat.le_of_ble_eq_true rfl)
      · have hF := ob_neg c5 hF
        refine lv_aload_n hx hb dX3_readPattern_12 rfl (lv_at hl 1 rfl) ?_
        refine lv_iload_n hx hb dX3_readPattern_13 rfl (lv_at hl 3 rfl) ?_
        obtain ⟨z6, hz6, hF⟩ := ob_bind hF
        refine cl_iR (csR := [wT g a b1]) (csF := [wT g a b1]) (rest := []) hx hb hml hown hts hK hE hA hl hP hD hS (c_J0_charAt_5068e g l  p0 x3 z6 hz6) [] [0] [0] ⟨rfl, rfl, rfl, rfl, rfl, rfl, rfl⟩ (jb_strR hE (of_decide_eq_true (ck_t hz6)) hS) 1 (jb_giV mw_1180 mw_1181 mw_1182 mw_8 mw_1183) ⟨rfl, rfl⟩ (by decide +kernel) ⟨⟨(Nat.le_of_ble_eq_true rfl), (Nat.le_of_ble_eq_true rfl)⟩, (Nat.le_of_ble_eq_true rfl), (Nat.le_of_ble_eq_true rfl)⟩ ⟨rfl, rfl⟩ (Nat.le_of_ble_eq_true rfl) dX3_readPattern_14 (fun H locs hP hD hS => ?_)
        refine lv_istore (lv' := [(4, .int z6), (0, .ref (a 0)), (1, .ref (g.2.2.1 p0)), (2, .int x2), (3, .int x3)]) hx hb dX3_readPattern_17 hl (by decide) rfl (fun ls hl => ?_)
        refine lv_iload hx hb dX3_readPattern_19 (lv_at hl 0 rfl) ?_
        refine lv_bipush (v := 68) hx hb dX3_readPattern_21 (by decide) ?_
        refine lv_icmp_eq (tgt := 33) hx hb dX3_readPattern_23 (by decide) (fun c7 => ?_) (fun c7 => ?_)
        · have hF := ob_pos c7 hF
          refine lv_aload_n hx hb dX3_readPattern_33 rfl (lv_at hl 1 rfl) ?_
          refine lv_iload hx hb dX3_readPattern_34 (lv_at hl 0 rfl) ?_
          refine lv_bipush (v := 78) hx hb dX3_readPattern_36 (by decide) ?_
          refine lv_icmp_ne (tgt := 45) hx hb dX3_readPattern_38 (by decide) (fun c8 => ?_) (fun c8 => ?_)
          · have hF := ob_pos c8 hF
            refine lv_iconst (v := 1) hx hb dX3_readPattern_45 (by decide) ?_
            obtain ⟨z9, hz9, hF⟩ := ob_bind hF
            refine cl_i (csR := []) (csF := [wT g a z9.2]) (rest := []) hx hb hml hown hts hK hE hA hl hP hD hS (c_X3_readValue g l a b1 1 z9 hz9) [0] [] [0] ⟨rfl, rfl, rfl, rfl, rfl, rfl, rfl⟩ ⟨0, 7, _, _, rfl, rfl, rfl⟩ 1 (jb_giV mw_1195 mw_1197 ms_27 mw_5 mw_1198) ⟨rfl, rfl⟩ (by decide +kernel) ⟨⟨(Nat.le_of_ble_eq_true rfl), (Nat.le_of_ble_eq_true rfl)⟩, (Nat.le_of_ble_eq_true rfl), (Nat.le_of_ble_eq_true rfl)⟩ ⟨rfl, rfl⟩ (Nat.le_of_ble_eq_true rfl) dX3_readPattern_46 (fun H locs hP hD hS => ?_)
            refine lv_istore (lv' := [(5, .int z9.1), (4, .int z6), (0, .ref (a 0)), (1, .ref (g.2.2.1 p0)), (2, .int x2), (3, .int x3)]) hx hb dX3_readPattern_49 hl (by decide) rfl (fun ls hl => ?_)
            refine lv_iload hx hb dX3_readPattern_51 (lv_at hl 0 rfl) ?_
            refine lv_iconst (v := (-1)) hx hb dX3_readPattern_53 (by decide) ?_
            refine lv_icmp_ne (tgt := 59) hx hb dX3_readPattern_54 (by decide) (fun c10 => ?_) (fun c10 => ?_)
            · have hF := ob_pos c10 hF
              refine lv_aload_n hx hb dX3_readPattern_59 rfl (lv_at hl 2 rfl) ?_
              refine lv_iload_n hx hb dX3_readPattern_60 rfl (lv_at hl 4 rfl) ?_
              refine lv_iload hx hb dX3_readPattern_61 (lv_at hl 0 rfl) ?_
              obtain ⟨z11, hz11, hF⟩ := ob_bind hF
              refine cl_v (csR := []) (csF := [wT g a z11]) (rest := []) hx hb hml hown hts hK hE hA hl hP hD hS (c_X3_putValue g l a z9.2 x2 z9.1 z11 hz11) [0] [] [0] ⟨rfl, rfl, rfl, rfl, rfl, rfl, rfl⟩ ⟨0, 7, _, _, rfl, rfl, rfl⟩ 2 (jb_giV mw_1204 mw_1206 ms_29 mw_5 mw_1207) ⟨rfl, rfl⟩ (by decide +kernel) ⟨⟨(Nat.le_of_ble_eq_true rfl), (Nat.le_of_ble_eq_true rfl)⟩, (Nat.le_of_ble_eq_true rfl), (Nat.le_of_ble_eq_true rfl)⟩ ⟨rfl, rfl⟩ (Nat.le_of_ble_eq_true rfl) dX3_readPattern_63 (fun H locs hP hD hS => ?_)
              refine lv_iinc (v := x2 + 1) (lv' := [(2, .int (x2 + 1)), (5, .int z9.1), (4, .int z6), (0, .ref (a 0)), (1, .ref (g.2.2.1 p0)), (3, .int x3)]) hx hb dX3_readPattern_66 hl (k := 4) rfl (by rfl) (by decide) rfl (fun ls hl => ?_)
              refine lv_goto (tgt := 83) hx hb dX3_readPattern_69 (by decide) ?_
              refine lv_iinc (v := x3 + 1) (lv' := [(3, .int (x3 + 1)), (2, .int (x2 + 1)), (5, .int z9.1), (4, .int z6), (0, .ref (a 0)), (1, .ref (g.2.2.1 p0))]) hx hb dX3_readPattern_83 hl (k := 5) rfl (by rfl) (by decide) rfl (fun ls hl => ?_)
              refine lv_goto (tgt := 4) hx hb dX3_readPattern_86 (by decide) ?_
              exact ih3 _ _ _ hF _ _ hP hD hS ls (lv_sub hl [4, 5, 1, 0] rfl)
            · have hF := ob_nneg c10 hF
              refine lv_iconst (v := 0) hx hb dX3_readPattern_57 (by decide) ?_
              cases hF
              rw [hQ]
              exact jb_zret hx hb hr rfl hlocks hP hD hS dX3_readPattern_58 rfl (Nat.le_of_ble_eq_true rfl) (Nat.le_of_ble_eq_true rfl)
          · have hF := ob_nneg c8 hF
            refine lv_iconst (v := 2) hx hb dX3_readPattern_41 (by decide) ?_
            refine lv_goto (tgt := 46) hx hb dX3_readPattern_42 (by decide) ?_
            obtain ⟨z12, hz12, hF⟩ := ob_bind hF
            refine cl_i (csR := []) (csF := [wT g a z12.2]) (rest := []) hx hb hml hown hts hK hE hA hl hP hD hS (c_X3_readValue g l a b1 2 z12 hz12) [0] [] [0] ⟨rfl, rfl, rfl, rfl, rfl, rfl, rfl⟩ ⟨0, 7, _, _, rfl, rfl, rfl⟩ 1 (jb_giV mw_1195 mw_1197 ms_27 mw_5 mw_1198) ⟨rfl, rfl⟩ (by decide +kernel) ⟨⟨(Nat.le_of_ble_eq_true rfl), (Nat.le_of_ble_eq_true rfl)⟩, (Nat.le_of_ble_eq_true rfl), (Nat.le_of_ble_eq_true rfl)⟩ ⟨rfl, rfl⟩ (Nat.le_of_ble_eq_true rfl) dX3_readPattern_46 (fun H locs hP hD hS => ?_)
            refine lv_istore (lv' := [(5, .int z12.1), (4, .int z6), (0, .ref (a 0)), (1, .ref (g.2.2.1 p0)), (2, .int x2), (3, .int x3)]) hx hb dX3_readPattern_49 hl (by decide) rfl (fun ls hl => ?_)
            refine lv_iload hx hb dX3_readPattern_51 (lv_at hl 0 rfl) ?_
            refine lv_iconst (v := (-1)) hx hb dX3_readPattern_53 (by decide) ?_
            refine lv_icmp_ne (tgt := 59) hx hb dX3_readPattern_54 (by decide) (fun c13 => ?_) (fun c13 => ?_)
            · have hF := ob_pos c13 hF
              refine lv_aload_n hx hb dX3_readPattern_59 rfl (lv_at hl 2 rfl) ?_
              refine lv_iload_n hx hb dX3_readPattern_60 rfl (lv_at hl 4 rfl) ?_
              refine lv_iload hx hb dX3_readPattern_61 (lv_at hl 0 rfl) ?_
              obtain ⟨z14, hz14, hF⟩ := ob_bind hF
              refine cl_v (csR := []) (csF := [wT g a z14]) (rest := []) hx hb hml hown hts hK hE hA hl hP hD hS (c_X3_putValue g l a z12.2 x2 z12.1 z14 hz14) [0] [] [0] ⟨rfl, rfl, rfl, rfl, rfl, rfl, rfl⟩ ⟨0, 7, _, _, rfl, rfl, rfl⟩ 2 (jb_giV mw_1204 mw_1206 ms_29 mw_5 mw_1207) ⟨rfl, rfl⟩ (by decide +kernel) ⟨⟨(Nat.le_of_ble_eq_true rfl), (Nat.le_of_ble_eq_true rfl)⟩, (Nat.le_of_ble_eq_true rfl), (Nat.le_of_ble_eq_true rfl)⟩ ⟨rfl, rfl⟩ (Nat.le_of_ble_eq_true rfl) dX3_readPattern_63 (fun H locs hP hD hS => ?_)
              refine lv_iinc (v := x2 + 1) (lv' := [(2, .int (x2 + 1)), (5, .int z12.1), (4, .int z6), (0, .ref (a 0)), (1, .ref (g.2.2.1 p0)), (3, .int x3)]) hx hb dX3_readPattern_66 hl (k := 4) rfl (by rfl) (by decide) rfl (fun ls hl => ?_)
              refine lv_goto (tgt := 83) hx hb dX3_readPattern_69 (by decide) ?_
              refine lv_iinc (v := x3 + 1) (lv' := [(3, .int (x3 + 1)), (2, .int (x2 + 1)), (5, .int z12.1), (4, .int z6), (0, .ref (a 0)), (1, .ref (g.2.2.1 p0))]) hx hb dX3_readPattern_83 hl (k := 5) rfl (by rfl) (by decide) rfl (fun ls hl => ?_)
              refine lv_goto (tgt := 4) hx hb dX3_readPattern_86 (by decide) ?_
              exact ih3 _ _ _ hF _ _ hP hD hS ls (lv_sub hl [4, 5, 1, 0] rfl)
            · have hF := ob_nneg c13 hF
              refine lv_iconst (v := 0) hx hb dX3_readPattern_57 (by decide) ?_
              cases hF
              rw [hQ]
              exact jb_zret hx hb hr rfl hlocks hP hD hS dX3_readPattern_58 rfl (Nat.le_of_ble_eq_true rfl) (Nat.le_of_ble_eq_true rfl)
        · have hF := ob_neg c7 hF
          refine lv_iload hx hb dX3_readPattern_26 (lv_at hl 0 rfl) ?_
          refine lv_bipush (v := 78) hx hb dX3_readPattern_28 (by decide) ?_
          refine lv_icmp_ne (tgt := 72) hx hb dX3_readPattern_30 (by decide) (fun c15 => ?_) (fun c15 => ?_)
          · have hF := ob_pos c15 hF
            refine lv_aload_n hx hb dX3_readPattern_72 rfl (lv_at hl 1 rfl) ?_
            refine lv_iload hx hb dX3_readPattern_73 (lv_at hl 0 rfl) ?_
            obtain ⟨z16, hz16, hF⟩ := ob_bind hF
            refine cl_i (csR := []) (csF := [wT g a z16.2]) (rest := []) hx hb hml hown hts hK hE hA hl hP hD hS (c_X3_readSign g l a b1 z6 z16 hz16) [0] [] [0] ⟨rfl, rfl, rfl, rfl, rfl, rfl, rfl⟩ ⟨0, 7, _, _, rfl, rfl, rfl⟩ 1 (jb_giV mw_1208 mw_1210 ms_30 mw_5 mw_1211) ⟨rfl, rfl⟩ (by decide +kernel) ⟨⟨(Nat.le_of_ble_eq_true rfl), (Nat.le_of_ble_eq_true rfl)⟩, (Nat.le_of_ble_eq_true rfl), (Nat.le_of_ble_eq_true rfl)⟩ ⟨rfl, rfl⟩ (Nat.le_of_ble_eq_true rfl) dX3_readPattern_75 (fun H locs hP hD hS => ?_)
            refine lv_if_ne (tgt := 83) hx hb dX3_readPattern_78 (by decide) (fun c17 => ?_) (fun c17 => ?_)
            · have hF := ob_pos c17 hF
              refine lv_iinc (v := x3 + 1) (lv' := [(3, .int (x3 + 1)), (4, .int z6), (0, .ref (a 0)), (1, .ref (g.2.2.1 p0)), (2, .int x2)]) hx hb dX3_readPattern_83 hl (k := 4) rfl (by rfl) (by decide) rfl (fun ls hl => ?_)
              refine lv_goto (tgt := 4) hx hb dX3_readPattern_86 (by decide) ?_
              exact ih3 _ _ _ hF _ _ hP hD hS ls (lv_sub hl [2, 3, 4, 0] rfl)
            · have hF := ob_nneg c17 hF
              refine lv_iconst (v := 0) hx hb dX3_readPattern_81 (by decide) ?_
              cases hF
              rw [hQ]
              exact jb_zret hx hb hr rfl hlocks hP hD hS dX3_readPattern_82 rfl (Nat.le_of_ble_eq_true rfl) (Nat.le_of_ble_eq_true rfl)
          · have hF := ob_nneg c15 hF
            refine lv_aload_n hx hb dX3_readPattern_33 rfl (lv_at hl 1 rfl) ?_
            refine lv_iload hx hb dX3_readPattern_34 (lv_at hl 0 rfl) ?_
            refine lv_bipush (v := 78) hx hb dX3_readPattern_36 (by decide) ?_
            refine lv_icmp_ne (tgt := 45) hx hb dX3_readPattern_38 (by decide) (fun c18 => ?_) (fun c18 => ?_)
            · have hF := ob_pos c18 hF
              refine lv_iconst (v := 1) hx hb dX3_readPattern_45 (by decide) ?_
              obtain ⟨z19, hz19, hF⟩ := ob_bind hF
              refine cl_i (csR := []) (csF := [wT g a z19.2]) (rest := []) hx hb hml hown hts hK hE hA hl hP hD hS (c_X3_readValue g l a b1 1 z19 hz19) [0] [] [0] ⟨rfl, rfl, rfl, rfl, rfl, rfl, rfl⟩ ⟨0, 7, _, _, rfl, rfl, rfl⟩ 1 (jb_giV mw_1195 mw_1197 ms_27 mw_5 mw_1198) ⟨rfl, rfl⟩ (by decide +kernel) ⟨⟨(Nat.le_of_ble_eq_true rfl), (Nat.le_of_ble_eq_true rfl)⟩, (Nat.le_of_ble_eq_true rfl), (Nat.le_of_ble_eq_true rfl)⟩ ⟨rfl, rfl⟩ (Nat.le_of_ble_eq_true rfl) dX3_readPattern_46 (fun H locs hP hD hS => ?_)
              refine lv_istore (lv' := [(5, .int z19.1), (4, .int z6), (0, .ref (a 0)), (1, .ref (g.2.2.1 p0)), (2, .int x2), (3, .int x3)]) hx hb dX3_readPattern_49 hl (by decide) rfl (fun ls hl => ?_)
              refine lv_iload hx hb dX3_readPattern_51 (lv_at hl 0 rfl) ?_
              refine lv_iconst (v := (-1)) hx hb dX3_readPattern_53 (by decide) ?_
              refine lv_icmp_ne (tgt := 59) hx hb dX3_readPattern_54 (by decide) (fun c20 => ?_) (fun c20 => ?_)
              · have hF := ob_pos c20 hF
                refine lv_aload_n hx hb dX3_readPattern_59 rfl (lv_at hl 2 rfl) ?_
                refine lv_iload_n hx hb dX3_readPattern_60 rfl (lv_at hl 4 rfl) ?_
                refine lv_iload hx hb dX3_readPattern_61 (lv_at hl 0 rfl) ?_
                obtain ⟨z21, hz21, hF⟩ := ob_bind hF
                refine cl_v (csR := []) (csF := [wT g a z21]) (rest := []) hx hb hml hown hts hK hE hA hl hP hD hS (c_X3_putValue g l a z19.2 x2 z19.1 z21 hz21) [0] [] [0] ⟨rfl, rfl, rfl, rfl, rfl, rfl, rfl⟩ ⟨0, 7, _, _, rfl, rfl, rfl⟩ 2 (jb_giV mw_1204 mw_1206 ms_29 mw_5 mw_1207) ⟨rfl, rfl⟩ (by decide +kernel) ⟨⟨(Nat.le_of_ble_eq_true rfl), (Nat.le_of_ble_eq_true rfl)⟩, (Nat.le_of_ble_eq_true rfl), (Nat.le_of_ble_eq_true rfl)⟩ ⟨rfl, rfl⟩ (Nat.le_of_ble_eq_true rfl) dX3_readPattern_63 (fun H locs hP hD hS => ?_)
                refine lv_iinc (v := x2 + 1) (lv' := [(2, .int (x2 + 1)), (5, .int z19.1), (4, .int z6), (0, .ref (a 0)), (1, .ref (g.2.2.1 p0)), (3, .int x3)]) hx hb dX3_readPattern_66 hl (k := 4) rfl (by rfl) (by decide) rfl (fun ls hl => ?_)
                refine lv_goto (tgt := 83) hx hb dX3_readPattern_69 (by decide) ?_
                refine lv_iinc (v := x3 + 1) (lv' := [(3, .int (x3 + 1)), (2, .int (x2 + 1)), (5, .int z19.1), (4, .int z6), (0, .ref (a 0)), (1, .ref (g.2.2.1 p0))]) hx hb dX3_readPattern_83 hl (k := 5) rfl (by rfl) (by decide) rfl (fun ls hl => ?_)
                refine lv_goto (tgt := 4) hx hb dX3_readPattern_86 (by decide) ?_
                exact ih3 _ _ _ hF _ _ hP hD hS ls (lv_sub hl [4, 5, 1, 0] rfl)
              · have hF := ob_nneg c20 hF
                refine lv_iconst (v := 0) hx hb dX3_readPattern_57 (by decide) ?_
                cases hF
                rw [hQ]
                exact jb_zret hx hb hr rfl hlocks hP hD hS dX3_readPattern_58 rfl (Nat.le_of_ble_eq_true rfl) (Nat.le_of_ble_eq_true rfl)
            · have hF := ob_nneg c18 hF
              refine lv_iconst (v := 2) hx hb dX3_readPattern_41 (by decide) ?_
              refine lv_goto (tgt := 46) hx hb dX3_readPattern_42 (by decide) ?_
              obtain ⟨z22, hz22, hF⟩ := ob_bind hF
              refine cl_i (csR := []) (csF := [wT g a z22.2]) (rest := []) hx hb hml hown hts hK hE hA hl hP hD hS (c_X3_readValue g l a b1 2 z22 hz22) [0] [] [0] ⟨rfl, rfl, rfl, rfl, rfl, rfl, rfl⟩ ⟨0, 7, _, _, rfl, rfl, rfl⟩ 1 (jb_giV mw_1195 mw_1197 ms_27 mw_5 mw_1198) ⟨rfl, rfl⟩ (by decide +kernel) ⟨⟨(Nat.le_of_ble_eq_true rfl), (Nat.le_of_ble_eq_true rfl)⟩, (Nat.le_of_ble_eq_true rfl), (Nat.le_of_ble_eq_true rfl)⟩ ⟨rfl, rfl⟩ (Nat.le_of_ble_eq_true rfl) dX3_readPattern_46 (fun H locs hP hD hS => ?_)
              refine lv_istore (lv' := [(5, .int z22.1), (4, .int z6), (0, .ref (a 0)), (1, .ref (g.2.2.1 p0)), (2, .int x2), (3, .int x3)]) hx hb dX3_readPattern_49 hl (by decide) rfl (fun ls hl => ?_)
              refine lv_iload hx hb dX3_readPattern_51 (lv_at hl 0 rfl) ?_
              refine lv_iconst (v := (-1)) hx hb dX3_readPattern_53 (by decide) ?_
              refine lv_icmp_ne (tgt := 59) hx hb dX3_readPattern_54 (by decide) (fun c23 => ?_) (fun c23 => ?_)
              · have hF := ob_pos c23 hF
                refine lv_aload_n hx hb dX3_readPattern_59 rfl (lv_at hl 2 rfl) ?_
                refine lv_iload_n hx hb dX3_readPattern_60 rfl (lv_at hl 4 rfl) ?_
                refine lv_iload hx hb dX3_readPattern_61 (lv_at hl 0 rfl) ?_
                obtain ⟨z24, hz24, hF⟩ := ob_bind hF
                refine cl_v (csR := []) (csF := [wT g a z24]) (rest := []) hx hb hml hown hts hK hE hA hl hP hD hS (c_X3_putValue g l a z22.2 x2 z22.1 z24 hz24) [0] [] [0] ⟨rfl, rfl, rfl, rfl, rfl, rfl, rfl⟩ ⟨0, 7, _, _, rfl, rfl, rfl⟩ 2 (jb_giV mw_1204 mw_1206 ms_29 mw_5 mw_1207) ⟨rfl, rfl⟩ (by decide +kernel) ⟨⟨(Nat.le_of_ble_eq_true rfl), (Nat.le_of_ble_eq_true rfl)⟩, (Nat.le_of_ble_eq_true rfl), (Nat.le_of_ble_eq_true rfl)⟩ ⟨rfl, rfl⟩ (Nat.le_of_ble_eq_true rfl) dX3_readPattern_63 (fun H locs hP hD hS => ?_)
                refine lv_iinc (v := x2 + 1) (lv' := [(2, .int (x2 + 1)), (5, .int z22.1), (4, .int z6), (0, .ref (a 0)), (1, .ref (g.2.2.1 p0)), (3, .int x3)]) hx hb dX3_readPattern_66 hl (k := 4) rfl (by rfl) (by decide) rfl (fun ls hl => ?_)
                refine lv_goto (tgt := 83) hx hb dX3_readPattern_69 (by decide) ?_
                refine lv_iinc (v := x3 + 1) (lv' := [(3, .int (x3 + 1)), (2, .int (x2 + 1)), (5, .int z22.1), (4, .int z6), (0, .ref (a 0)), (1, .ref (g.2.2.1 p0))]) hx hb dX3_readPattern_83 hl (k := 5) rfl (by rfl) (by decide) rfl (fun ls hl => ?_)
                refine lv_goto (tgt := 4) hx hb dX3_readPattern_86 (by decide) ?_
                exact ih3 _ _ _ hF _ _ hP hD hS ls (lv_sub hl [4, 5, 1, 0] rfl)
              · have hF := ob_nneg c23 hF
                refine lv_iconst (v := 0) hx hb dX3_readPattern_57 (by decide) ?_
                cases hF
                rw [hQ]
                exact jb_zret hx hb hr rfl hlocks hP hD hS dX3_readPattern_58 rfl (Nat.le_of_ble_eq_true rfl) (Nat.le_of_ble_eq_true rfl)
  exact loop3 1000 _ _ _ hF _ _ hP hD hS ls (lv_sub hl [2, 3, 1, 0] rfl)
def F_X3_kindHere (tx : Tv) : Option (Int32) := if (T_position tx) < (T_length tx) then ck (inb (T_position tx) 60) (if ((T_signs tx) (T_position tx).toNatClampNeg) = 99 then some 6 else if ((T_signs tx) (T_position tx).toNatClampNeg) = 101 then some 2 else if ((T_signs tx) (T_position tx).toNatClampNeg) = 109 then some 3 else if ((T_signs tx) (T_position tx).toNatClampNeg) = 112 then some 1 else if ((T_signs tx) (T_position tx).toNatClampNeg) = 114 then some 4 else if ((T_signs tx) (T_position tx).toNatClampNeg) = 115 then some 0 else if ((T_signs tx) (T_position tx).toNatClampNeg) = 119 then some 5 else some (-1)) else some (-1)
set_option maxHeartbeats 4000000 in
set_option maxRecDepth 100000 in
theorem c_X3_kindHere (g : GG) (l : Launch) (a : Nat → Nat) (tx : Tv) (z : Int32) (hF : F_X3_kindHere tx = some z) : MI g l yX3_kindHere cX3_kindHere 1 (some .int) ({ frames := 0, cells := 0, slots := 0, locals := 0 } : Room) [.ref (a 0)] [wT g a tx] 0 0 z [wT g a tx] := by
  refine MI.bg (by decide) (Nat.le_of_ble_eq_true rfl) ?_
  intro p e s m below meth c A Q hQ hx hb hr hml hown hts hlocks hmn hK hE hA hP hD hS ls hl
  rw [F_X3_kindHere] at hF
  have hl : lv_has ls 1 [(0, .ref (a 0))] := hl
  refine lv_aload_n hx hb dX3_kindHere_0 rfl (lv_at hl 0 rfl) ?_
  refine va_get (D := g.1) (ci := 7) (v := .int (T_position tx)) (C := RX3) (T := TX3) (N := 7) hx hb hts inX3 hown hK hP 0 rfl rfl 2 (by decide) (hts _ mw_164) (fun _ h9 => h9) rfl dX3_kindHere_1 ?_
  refine lv_aload_n hx hb dX3_kindHere_4 rfl (lv_at hl 0 rfl) ?_
  refine va_get (D := g.1) (ci := 7) (v := .int (T_length tx)) (C := RX3) (T := TX3) (N := 7) hx hb hts inX3 hown hK hP 0 rfl rfl 1 (by decide) (hts _ mw_162) (fun _ h9 => h9) rfl dX3_kindHere_5 ?_
  refine lv_icmp_lt (tgt := 13) hx hb dX3_kindHere_8 (by decide) (fun c1 => ?_) (fun c1 => ?_)
  · have hF := ob_pos c1 hF
    refine lv_aload_n hx hb dX3_kindHere_13 rfl (lv_at hl 0 rfl) ?_
    refine va_get (D := g.1) (ci := 7) (v := .ref (a 1)) (C := RX3) (T := TX3) (N := 7) hx hb hts inX3 hown hK hP 0 rfl rfl 0 (by decide) (hts _ mw_161) (fun _ h9 => h9) rfl dX3_kindHere_14 ?_
    refine lv_aload_n hx hb dX3_kindHere_17 rfl (lv_at hl 0 rfl) ?_
    refine va_get (D := g.1) (ci := 7) (v := .int (T_position tx)) (C := RX3) (T := TX3) (N := 7) hx hb hts inX3 hown hK hP 0 rfl rfl 2 (by decide) (hts _ mw_164) (fun _ h9 => h9) rfl dX3_kindHere_18 ?_
    have h2 := inb_in (ck_t hF)
    have hF := ck_s hF
    refine va_cald hx hb hK hP 1 1 rfl rfl h2 dX3_kindHere_21 ?_
    by_cases s3 : ((T_signs tx) (T_position tx).toNatClampNeg) = 99
    · have hF := ob_pos s3 hF
      refine lv_tableIn (off := 110) (tgt := 132) hx hb dX3_kindHere_22 (by rw [s3]; decide) (by rw [s3]; decide) (by rw [s3]; rfl) (by decide) ?_
      refine lv_bipush (v := 6) hx hb dX3_kindHere_132 (by decide) ?_
      cases hF
      rw [hQ]
      exact jb_iret hx hb hr hlocks hP hD hS dX3_kindHere_134 rfl (Nat.le_of_ble_eq_true rfl) (Nat.le_of_ble_eq_true rfl)
    · have hF := ob_neg s3 hF
      by_cases s4 : ((T_signs tx) (T_position tx).toNatClampNeg) = 101
      · have hF := ob_pos s4 hF
        refine lv_tableIn (off := 102) (tgt := 124) hx hb dX3_kindHere_22 (by rw [s4]; decide) (by rw [s4]; decide) (by rw [s4]; rfl) (by decide) ?_
        refine lv_iconst (v := 2) hx hb dX3_kindHere_124 (by decide) ?_
        cases hF
        rw [hQ]
        exact jb_iret hx hb hr hlocks hP hD hS dX3_kindHere_125 rfl (Nat.le_of_ble_eq_true rfl) (Nat.le_of_ble_eq_true rfl)
      · have hF := ob_neg s4 hF
        by_cases s5 : ((T_signs tx) (T_position tx).toNatClampNeg) = 109
        · have hF := ob_pos s5 hF
          refine lv_tableIn (off := 104) (tgt := 126) hx hb dX3_kindHere_22 (by rw [s5]; decide) (by rw [s5]; decide) (by rw [s5]; rfl) (by decide) ?_
          refine lv_iconst (v := 3) hx hb dX3_kindHere_126 (by decide) ?_
          cases hF
          rw [hQ]
          exact jb_iret hx hb hr hlocks hP hD hS dX3_kindHere_127 rfl (Nat.le_of_ble_eq_true rfl) (Nat.le_of_ble_eq_true rfl)
        · have hF := ob_neg s5 hF
          by_cases s6 : ((T_signs tx) (T_position tx).toNatClampNeg) = 112
          · have hF := ob_pos s6 hF
            refine lv_tableIn (off := 100) (tgt := 122) hx hb dX3_kindHere_22 (by rw [s6]; decide) (by rw [s6]; decide) (by rw [s6]; rfl) (by decide) ?_
            refine lv_iconst (v := 1) hx hb dX3_kindHere_122 (by decide) ?_
            cases hF
            rw [hQ]
            exact jb_iret hx hb hr hlocks hP hD hS dX3_kindHere_123 rfl (Nat.le_of_ble_eq_true rfl) (Nat.le_of_ble_eq_true rfl)
          · have hF := ob_neg s6 hF
            by_cases s7 : ((T_signs tx) (T_position tx).toNatClampNeg) = 114
            · have hF := ob_pos s7 hF
              refine lv_tableIn (off := 106) (tgt := 128) hx hb dX3_kindHere_22 (by rw [s7]; decide) (by rw [s7]; decide) (by rw [s7]; rfl) (by decide) ?_
              refine lv_iconst (v := 4) hx hb dX3_kindHere_128 (by decide) ?_
              cases hF
              rw [hQ]
              exact jb_iret hx hb hr hlocks hP hD hS dX3_kindHere_129 rfl (Nat.le_of_ble_eq_true rfl) (Nat.le_of_ble_eq_true rfl)
            · have hF := ob_neg s7 hF
              by_cases s8 : ((T_signs tx) (T_position tx).toNatClampNeg) = 115
              · have hF := ob_pos s8 hF
                refine lv_tableIn (off := 98) (tgt := 120) hx hb dX3_kindHere_22 (by rw [s8]; decide) (by rw [s8]; decide) (by rw [s8]; rfl) (by decide) ?_
                refine lv_iconst (v := 0) hx hb dX3_kindHere_120 (by decide) ?_
                cases hF
                rw [hQ]
                exact jb_iret hx hb hr hlocks hP hD hS dX3_kindHere_121 rfl (Nat.le_of_ble_eq_true rfl) (Nat.le_of_ble_eq_true rfl)
              · have hF := ob_neg s8 hF
                by_cases s9 : ((T_signs tx) (T_position tx).toNatClampNeg) = 119
                · have hF := ob_pos s9 hF
                  refine lv_tableIn (off := 108) (tgt := 130) hx hb dX3_kindHere_22 (by rw [s9]; decide) (by rw [s9]; decide) (by rw [s9]; rfl) (by decide) ?_
                  refine lv_iconst (v := 5) hx hb dX3_kindHere_130 (by decide) ?_
                  cases hF
                  rw [hQ]
                  exact jb_iret hx hb hr hlocks hP hD hS dX3_kindHere_131 rfl (Nat.le_of_ble_eq_true rfl) (Nat.le_of_ble_eq_true rfl)
                · have hF := ob_neg s9 hF
                  by_cases s10 : ((T_signs tx) (T_position tx).toNatClampNeg) = 100
                  · refine lv_tableIn (off := 113) (tgt := 135) hx hb dX3_kindHere_22 (by rw [s10]; decide) (by rw [s10]; decide) (by rw [s10]; rfl) (by decide) ?_
                    refine lv_iconst (v := (-1)) hx hb dX3_kindHere_135 (by decide) ?_
                    cases hF
                    rw [hQ]
                    exact jb_iret hx hb hr hlocks hP hD hS dX3_kindHere_136 rfl (Nat.le_of_ble_eq_true rfl) (Nat.le_of_ble_eq_true rfl)
                  by_cases s11 : ((T_signs tx) (T_position tx).toNatClampNeg) = 102
                  · refine lv_tableIn (off := 113) (tgt := 135) hx hb dX3_kindHere_22 (by rw [s11]; decide) (by rw [s11]; decide) (by rw [s11]; rfl) (by decide) ?_
                    refine lv_iconst (v := (-1)) hx hb dX3_kindHere_135 (by decide) ?_
                    cases hF
                    rw [hQ]
                    exact jb_iret hx hb hr hlocks hP hD hS dX3_kindHere_136 rfl (Nat.le_of_ble_eq_true rfl) (Nat.le_of_ble_eq_true rfl)
                  by_cases s12 : ((T_signs tx) (T_position tx).toNatClampNeg) = 103
                  · refine lv_tableIn (off := 113) (tgt := 135) hx hb dX3_kindHere_22 (by rw [s12]; decide) (by rw [s12]; decide) (by rw [s12]; rfl) (by decide) ?_
                    refine lv_iconst (v := (-1)) hx hb dX3_kindHere_135 (by decide) ?_
                    cases hF
                    rw [hQ]
                    exact jb_iret hx hb hr hlocks hP hD hS dX3_kindHere_136 rfl (Nat.le_of_ble_eq_true rfl) (Nat.le_of_ble_eq_true rfl)
                  by_cases s13 : ((T_signs tx) (T_position tx).toNatClampNeg) = 104
                  · refine lv_tableIn (off := 113) (tgt := 135) hx hb dX3_kindHere_22 (by rw [s13]; decide) (by rw [s13]; decide) (by rw [s13]; rfl) (by decide) ?_
                    refine lv_iconst (v := (-1)) hx hb dX3_kindHere_135 (by decide) ?_
                    cases hF
                    rw [hQ]
                    exact jb_iret hx hb hr hlocks hP hD hS dX3_kindHere_136 rfl (Nat.le_of_ble_eq_true rfl) (Nat.le_of_ble_eq_true rfl)
                  by_cases s14 : ((T_signs tx) (T_position tx).toNatClampNeg) = 105
                  · refine lv_tableIn (off := 113) (tgt := 135) hx hb dX3_kindHere_22 (by rw [s14]; decide) (by rw [s14]; decide) (by rw [s14]; rfl) (by decide) ?_
                    refine lv_iconst (v := (-1)) hx hb dX3_kindHere_135 (by decide) ?_
                    cases hF
                    rw [hQ]
                    exact jb_iret hx hb hr hlocks hP hD hS dX3_kindHere_136 rfl (Nat.le_of_ble_eq_true rfl) (Nat.le_of_ble_eq_true rfl)
                  by_cases s15 : ((T_signs tx) (T_position tx).toNatClampNeg) = 106
                  · refine lv_tableIn (off := 113) (tgt := 135) hx hb dX3_kindHere_22 (by rw [s15]; decide) (by rw [s15]; decide) (by rw [s15]; rfl) (by decide) ?_
                    refine lv_iconst (v := (-1)) hx hb dX3_kindHere_135 (by decide) ?_
                    cases hF
                    rw [hQ]
                    exact jb_iret hx hb hr hlocks hP hD hS dX3_kindHere_136 rfl (Nat.le_of_ble_eq_true rfl) (Nat.le_of_ble_eq_true rfl)
                  by_cases s16 : ((T_signs tx) (T_position tx).toNatClampNeg) = 107
                  · refine lv_tableIn (off := 113) (tgt := 135) hx hb dX3_kindHere_22 (by rw [s16]; decide) (by rw [s16]; decide) (by rw [s16]; rfl) (by decide) ?_
                    refine lv_iconst (v := (-1)) hx hb dX3_kindHere_135 (by decide) ?_
                    cases hF
                    rw [hQ]
                    exact jb_iret hx hb hr hlocks hP hD hS dX3_kindHere_136 rfl (Nat.le_of_ble_eq_true rfl) (Nat.le_of_ble_eq_true rfl)
                  by_cases s17 : ((T_signs tx) (T_position tx).toNatClampNeg) = 108
                  · refine lv_tableIn (off := 113) (tgt := 135) hx hb dX3_kindHere_22 (by rw [s17]; decide) (by rw [s17]; decide) (by rw [s17]; rfl) (by decide) ?_
                    refine lv_iconst (v := (-1)) hx hb dX3_kindHere_135 (by decide) ?_
                    cases hF
                    rw [hQ]
                    exact jb_iret hx hb hr hlocks hP hD hS dX3_kindHere_136 rfl (Nat.le_of_ble_eq_true rfl) (Nat.le_of_ble_eq_true rfl)
                  by_cases s18 : ((T_signs tx) (T_position tx).toNatClampNeg) = 110
                  · refine lv_tableIn (off := 113) (tgt := 135) hx hb dX3_kindHere_22 (by rw [s18]; decide) (by rw [s18]; decide) (by rw [s18]; rfl) (by decide) ?_
                    refine lv_iconst (v := (-1)) hx hb dX3_kindHere_135 (by decide) ?_
                    cases hF
                    rw [hQ]
                    exact jb_iret hx hb hr hlocks hP hD hS dX3_kindHere_136 rfl (Nat.le_of_ble_eq_true rfl) (Nat.le_of_ble_eq_true rfl)
                  by_cases s19 : ((T_signs tx) (T_position tx).toNatClampNeg) = 111
                  · refine lv_tableIn (off := 113) (tgt := 135) hx hb dX3_kindHere_22 (by rw [s19]; decide) (by rw [s19]; decide) (by rw [s19]; rfl) (by decide) ?_
                    refine lv_iconst (v := (-1)) hx hb dX3_kindHere_135 (by decide) ?_
                    cases hF
                    rw [hQ]
                    exact jb_iret hx hb hr hlocks hP hD hS dX3_kindHere_136 rfl (Nat.le_of_ble_eq_true rfl) (Nat.le_of_ble_eq_true rfl)
                  by_cases s20 : ((T_signs tx) (T_position tx).toNatClampNeg) = 113
                  · refine lv_tableIn (off := 113) (tgt := 135) hx hb dX3_kindHere_22 (by rw [s20]; decide) (by rw [s20]; decide) (by rw [s20]; rfl) (by decide) ?_
                    refine lv_iconst (v := (-1)) hx hb dX3_kindHere_135 (by decide) ?_
                    cases hF
                    rw [hQ]
                    exact jb_iret hx hb hr hlocks hP hD hS dX3_kindHere_136 rfl (Nat.le_of_ble_eq_true rfl) (Nat.le_of_ble_eq_true rfl)
                  by_cases s21 : ((T_signs tx) (T_position tx).toNatClampNeg) = 116
                  · refine lv_tableIn (off := 113) (tgt := 135) hx hb dX3_kindHere_22 (by rw [s21]; decide) (by rw [s21]; decide) (by rw [s21]; rfl) (by decide) ?_
                    refine lv_iconst (v := (-1)) hx hb dX3_kindHere_135 (by decide) ?_
                    cases hF
                    rw [hQ]
                    exact jb_iret hx hb hr hlocks hP hD hS dX3_kindHere_136 rfl (Nat.le_of_ble_eq_true rfl) (Nat.le_of_ble_eq_true rfl)
                  by_cases s22 : ((T_signs tx) (T_position tx).toNatClampNeg) = 117
                  · refine lv_tableIn (off := 113) (tgt := 135) hx hb dX3_kindHere_22 (by rw [s22]; decide) (by rw [s22]; decide) (by rw [s22]; rfl) (by decide) ?_
                    refine lv_iconst (v := (-1)) hx hb dX3_kindHere_135 (by decide) ?_
                    cases hF
                    rw [hQ]
                    exact jb_iret hx hb hr hlocks hP hD hS dX3_kindHere_136 rfl (Nat.le_of_ble_eq_true rfl) (Nat.le_of_ble_eq_true rfl)
                  by_cases s23 : ((T_signs tx) (T_position tx).toNatClampNeg) = 118
                  · refine lv_tableIn (off := 113) (tgt := 135) hx hb dX3_kindHere_22 (by rw [s23]; decide) (by rw [s23]; decide) (by rw [s23]; rfl) (by decide) ?_
                    refine lv_iconst (v := (-1)) hx hb dX3_kindHere_135 (by decide) ?_
                    cases hF
                    rw [hQ]
                    exact jb_iret hx hb hr hlocks hP hD hS dX3_kindHere_136 rfl (Nat.le_of_ble_eq_true rfl) (Nat.le_of_ble_eq_true rfl)
                  have ts3 := jb_toInt (n := 99) s3 (by decide)
                  have ts4 := jb_toInt (n := 101) s4 (by decide)
                  have ts5 := jb_toInt (n := 109) s5 (by decide)
                  have ts6 := jb_toInt (n := 112) s6 (by decide)
                  have ts7 := jb_toInt (n := 114) s7 (by decide)
                  have ts8 := jb_toInt (n := 115) s8 (by decide)
                  have ts9 := jb_toInt (n := 119) s9 (by decide)
                  have ts10 := jb_toInt (n := 100) s10 (by decide)
                  have ts11 := jb_toInt (n := 102) s11 (by decide)
                  have ts12 := jb_toInt (n := 103) s12 (by decide)
                  have ts13 := jb_toInt (n := 104) s13 (by decide)
                  have ts14 := jb_toInt (n := 105) s14 (by decide)
                  have ts15 := jb_toInt (n := 106) s15 (by decide)
                  have ts16 := jb_toInt (n := 107) s16 (by decide)
                  have ts17 := jb_toInt (n := 108) s17 (by decide)
                  have ts18 := jb_toInt (n := 110) s18 (by decide)
                  have ts19 := jb_toInt (n := 111) s19 (by decide)
                  have ts20 := jb_toInt (n := 113) s20 (by decide)
                  have ts21 := jb_toInt (n := 116) s21 (by decide)
                  have ts22 := jb_toInt (n := 117) s22 (by decide)
                  have ts23 := jb_toInt (n := 118) s23 (by decide)
                  refine lv_tableOut (tgt := 135) hx hb dX3_kindHere_22 (by omega) (by decide) ?_
                  refine lv_iconst (v := (-1)) hx hb dX3_kindHere_135 (by decide) ?_
                  cases hF
                  rw [hQ]
                  exact jb_iret hx hb hr hlocks hP hD hS dX3_kindHere_136 rfl (Nat.le_of_ble_eq_true rfl) (Nat.le_of_ble_eq_true rfl)
  · have hF := ob_neg c1 hF
    refine lv_iconst (v := (-1)) hx hb dX3_kindHere_11 (by decide) ?_
    cases hF
    rw [hQ]
    exact jb_iret hx hb hr hlocks hP hD hS dX3_kindHere_12 rfl (Nat.le_of_ble_eq_true rfl) (Nat.le_of_ble_eq_true rfl)
def F_X3_readCommand (tx : Tv) : Option (Bool × Tv) := (F_X3_kindHere tx).bind (fun z1 => if z1 = (-1) then some (false, tx) else if (T_commands tx) < 60 then ck (inb (T_commands tx) 60) (ck (inb (T_commands tx) 60) (ck (inb (T_commands tx) 60) ((F_X3_patternOf z1).bind (fun z2 => (F_X3_readPattern (mkT (T_signs tx) (T_length tx) (T_position tx) (upd (T_kinds tx) (T_commands tx).toNatClampNeg z1) (upd (T_firsts tx) (T_commands tx).toNatClampNeg 0) (upd (T_seconds tx) (T_commands tx).toNatClampNeg 0) (T_commands tx)) z2).bind (fun z3 => if ¬ (bi z3.1) = 0 then some (true, (mkT (T_signs z3.2) (T_length z3.2) (T_position z3.2) (T_kinds z3.2) (T_firsts z3.2) (T_seconds z3.2) ((T_commands z3.2) + 1))) else some (false, z3.2)))))) else some (false, tx))
set_option maxHeartbeats 4000000 in
set_option maxRecDepth 100000 in
theorem c_X3_readCommand (g : GG) (l : Launch) (a : Nat → Nat) (tx : Tv) (z : Bool × Tv) (hF : F_X3_readCommand tx = some z) : MI g l yX3_readCommand cX3_readCommand 2 (some .boolean) ({ frames := 5, cells := 0, slots := 0, locals := 110 } : Room) [.ref (a 0)] [wT g a tx] 0 0 (bi z.1) [wT g a z.2] := by
  refine MI.bg (by decide) (Nat.le_of_ble_eq_true rfl) ?_
  intro p e s m below meth c A Q hQ hx hb hr hml hown hts hlocks hmn hK hE hA hP hD hS ls hl
  rw [F_X3_readCommand] at hF
  have hl : lv_has ls 2 [(0, .ref (a 0))] := hl
  refine lv_aload_n hx hb dX3_readCommand_0 rfl (lv_at hl 0 rfl) ?_
  obtain ⟨z1, hz1, hF⟩ := ob_bind hF
  refine cl_i (csR := []) (csF := [wT g a tx]) (rest := []) hx hb hml hown hts hK hE hA hl hP hD hS (c_X3_kindHere g l a tx z1 hz1) [0] [] [0] ⟨rfl, rfl, rfl, rfl, rfl, rfl, rfl⟩ ⟨0, 7, _, _, rfl, rfl, rfl⟩ 0 (jb_giV mw_1161 mw_1163 ms_25 mw_5 mw_1164) ⟨rfl, rfl⟩ (by decide +kernel) ⟨⟨(Nat.le_of_ble_eq_true rfl), (Nat.le_of_ble_eq_true rfl)⟩, (Nat.le_of_ble_eq_true rfl), (Nat.le_of_ble_eq_true rfl)⟩ ⟨rfl, rfl⟩ (Nat.le_of_ble_eq_true rfl) dX3_readCommand_1 (fun H locs hP hD hS => ?_)
  refine lv_istore_n (lv' := [(1, .int z1), (0, .ref (a 0))]) hx hb dX3_readCommand_4 rfl hl (by decide) rfl (fun ls hl => ?_)
  refine lv_iload_n hx hb dX3_readCommand_5 rfl (lv_at hl 0 rfl) ?_
  refine lv_iconst (v := (-1)) hx hb dX3_readCommand_6 (by decide) ?_
  refine lv_icmp_eq (tgt := 19) hx hb dX3_readCommand_7 (by decide) (fun c2 => ?_) (fun c2 => ?_)
  · have hF := ob_pos c2 hF
    refine lv_iconst (v := 0) hx hb dX3_readCommand_19 (by decide) ?_
    cases hF
    rw [hQ]
    exact jb_zret hx hb hr rfl hlocks hP hD hS dX3_readCommand_20 rfl (Nat.le_of_ble_eq_true rfl) (Nat.le_of_ble_eq_true rfl)
  · have hF := ob_neg c2 hF
    refine lv_aload_n hx hb dX3_readCommand_10 rfl (lv_at hl 1 rfl) ?_
    refine va_get (D := g.1) (ci := 7) (v := .int (T_commands tx)) (C := RX3) (T := TX3) (N := 7) hx hb hts inX3 hown hK hP 0 rfl rfl 6 (by decide) (hts _ mw_172) (fun _ h9 => h9) rfl dX3_readCommand_11 ?_
    refine lv_bipush (v := 60) hx hb dX3_readCommand_14 (by decide) ?_
    refine lv_icmp_lt (tgt := 21) hx hb dX3_readCommand_16 (by decide) (fun c3 => ?_) (fun c3 => ?_)
    · have hF := ob_pos c3 hF
      refine lv_aload_n hx hb dX3_readCommand_21 rfl (lv_at hl 1 rfl) ?_
      refine va_get (D := g.1) (ci := 7) (v := .ref (a 2)) (C := RX3) (T := TX3) (N := 7) hx hb hts inX3 hown hK hP 0 rfl rfl 3 (by decide) (hts _ mw_166) (fun _ h9 => h9) rfl dX3_readCommand_22 ?_
      refine lv_aload_n hx hb dX3_readCommand_25 rfl (lv_at hl 1 rfl) ?_
      refine va_get (D := g.1) (ci := 7) (v := .int (T_commands tx)) (C := RX3) (T := TX3) (N := 7) hx hb hts inX3 hown hK hP 0 rfl rfl 6 (by decide) (hts _ mw_172) (fun _ h9 => h9) rfl dX3_readCommand_26 ?_
      refine lv_iload_n hx hb dX3_readCommand_29 rfl (lv_at hl 0 rfl) ?_
      have h4 := inb_in (ck_t hF)
      have hF := ck_s hF
      refine va_iast hx hb hK hP hD hS 2 0 rfl rfl h4 dX3_readCommand_30 (fun H locs hP hD hS => ?_)
      have hP : va_P g.1 vwCl ([wTc g a (T_signs tx) (T_length tx) (T_position tx) (upd (T_kinds tx) (T_commands tx).toNatClampNeg z1) (T_firsts tx) (T_seconds tx) (T_commands tx)] : List va_W).flatten _ := hP
      have hD : va_D A ([wTc g a (T_signs tx) (T_length tx) (T_position tx) (upd (T_kinds tx) (T_commands tx).toNatClampNeg z1) (T_firsts tx) (T_seconds tx) (T_commands tx)] : List va_W).flatten := hD
      refine lv_aload_n hx hb dX3_readCommand_31 rfl (lv_at hl 1 rfl) ?_
      refine va_get (D := g.1) (ci := 7) (v := .ref (a 3)) (C := RX3) (T := TX3) (N := 7) hx hb hts inX3 hown hK hP 0 rfl rfl 4 (by decide) (hts _ mw_168) (fun _ h9 => h9) rfl dX3_readCommand_32 ?_
      refine lv_aload_n hx hb dX3_readCommand_35 rfl (lv_at hl 1 rfl) ?_
      refine va_get (D := g.1) (ci := 7) (v := .int (T_commands tx)) (C := RX3) (T := TX3) (N := 7) hx hb hts inX3 hown hK hP 0 rfl rfl 6 (by decide) (hts _ mw_172) (fun _ h9 => h9) rfl dX3_readCommand_36 ?_
      refine lv_iconst (v := 0) hx hb dX3_readCommand_39 (by decide) ?_
      have h5 := inb_in (ck_t hF)
      have hF := ck_s hF
      refine va_iast hx hb hK hP hD hS 3 0 rfl rfl h5 dX3_readCommand_40 (fun H locs hP hD hS => ?_)
      have hP : va_P g.1 vwCl ([wTc g a (T_signs tx) (T_length tx) (T_position tx) (upd (T_kinds tx) (T_commands tx).toNatClampNeg z1) (upd (T_firsts tx) (T_commands tx).toNatClampNeg 0) (T_seconds tx) (T_commands tx)] : List va_W).flatten _ := hP
      have hD : va_D A ([wTc g a (T_signs tx) (T_length tx) (T_position tx) (upd (T_kinds tx) (T_commands tx).toNatClampNeg z1) (upd (T_firsts tx) (T_commands tx).toNatClampNeg 0) (T_seconds tx) (T_commands tx)] : List va_W).flatten := hD
      refine lv_aload_n hx hb dX3_readCommand_41 rfl (lv_at hl 1 rfl) ?_
      refine va_get (D := g.1) (ci := 7) (v := .ref (a 4)) (C := RX3) (T := TX3) (N := 7) hx hb hts inX3 hown hK hP 0 rfl rfl 5 (by decide) (hts _ mw_170) (fun _ h9 => h9) rfl dX3_readCommand_42 ?_
      refine lv_aload_n hx hb dX3_readCommand_45 rfl (lv_at hl 1 rfl) ?_
      refine va_get (D := g.1) (ci := 7) (v := .int (T_commands tx)) (C := RX3) (T := TX3) (N := 7) hx hb hts inX3 hown hK hP 0 rfl rfl 6 (by decide) (hts _ mw_172) (fun _ h9 => h9) rfl dX3_readCommand_46 ?_
      refine lv_iconst (v := 0) hx hb dX3_readCommand_49 (by decide) ?_
      have h6 := inb_in (ck_t hF)
      have hF := ck_s hF
      refine va_iast hx hb hK hP hD hS 4 0 rfl rfl h6 dX3_readCommand_50 (fun H locs hP hD hS => ?_)
      have hP : va_P g.1 vwCl ([wTc g a (T_signs tx) (T_length tx) (T_position tx) (upd (T_kinds tx) (T_commands tx).toNatClampNeg z1) (upd (T_firsts tx) (T_commands tx).toNatClampNeg 0) (upd (T_seconds tx) (T_commands tx).toNatClampNeg 0) (T_commands tx)] : List va_W).flatten _ := hP
      have hD : va_D A ([wTc g a (T_signs tx) (T_length tx) (T_position tx) (upd (T_kinds tx) (T_commands tx).toNatClampNeg z1) (upd (T_firsts tx) (T_commands tx).toNatClampNeg 0) (upd (T_seconds tx) (T_commands tx).toNatClampNeg 0) (T_commands tx)] : List va_W).flatten := hD
      refine lv_aload_n hx hb dX3_readCommand_51 rfl (lv_at hl 1 rfl) ?_
      refine lv_iload_n hx hb dX3_readCommand_52 rfl (lv_at hl 0 rfl) ?_
      obtain ⟨z7, hz7, hF⟩ := ob_bind hF
      refine cl_srG (csR := [wTc g a (T_signs tx) (T_length tx) (T_position tx) (upd (T_kinds tx) (T_commands tx).toNatClampNeg z1) (upd (T_firsts tx) (T_commands tx).toNatClampNeg 0) (upd (T_seconds tx) (T_commands tx).toNatClampNeg 0) (T_commands tx)]) (csF := [wTc g a (T_signs tx) (T_length tx) (T_position tx) (upd (T_kinds tx) (T_commands tx).toNatClampNeg z1) (upd (T_firsts tx) (T_commands tx).toNatClampNeg 0) (upd (T_seconds tx) (T_commands tx).toNatClampNeg 0) (T_commands tx)]) (rest := [.ref (a 0)]) hx hb hml hown hts hK hE hA hl hP hD hS (c_X3_patternOf g l  z1 z7 hz7) [] [0] [0] ⟨rfl, rfl, rfl, rfl, rfl, rfl, rfl⟩ 1 (jb_giG mw_1165 mw_1166 mw_5 mw_1167) ⟨rfl, rfl⟩ (by decide +kernel) ⟨⟨(Nat.le_of_ble_eq_true rfl), (Nat.le_of_ble_eq_true rfl)⟩, (Nat.le_of_ble_eq_true rfl), (Nat.le_of_ble_eq_true rfl)⟩ ⟨rfl, rfl⟩ (Nat.le_of_ble_eq_true rfl) dX3_readCommand_53 (fun H locs hP hD hS => ?_)
      obtain ⟨z8, hz8, hF⟩ := ob_bind hF
      refine cl_i (csR := []) (csF := [wT g a z8.2]) (rest := []) hx hb hml hown hts hK hE hA hl hP hD hS (c_X3_readPattern g l a (mkT (T_signs tx) (T_length tx) (T_position tx) (upd (T_kinds tx) (T_commands tx).toNatClampNeg z1) (upd (T_firsts tx) (T_commands tx).toNatClampNeg 0) (upd (T_seconds tx) (T_commands tx).toNatClampNeg 0) (T_commands tx)) z7 z8 hz8) [0] [] [0] ⟨rfl, rfl, rfl, rfl, rfl, rfl, rfl⟩ ⟨0, 7, _, _, rfl, rfl, rfl⟩ 1 (jb_giV mw_1175 mw_1177 ms_26 mw_5 mw_1178) ⟨rfl, rfl⟩ (by decide +kernel) ⟨⟨(Nat.le_of_ble_eq_true rfl), (Nat.le_of_ble_eq_true rfl)⟩, (Nat.le_of_ble_eq_true rfl), (Nat.le_of_ble_eq_true rfl)⟩ ⟨rfl, rfl⟩ (Nat.le_of_ble_eq_true rfl) dX3_readCommand_56 (fun H locs hP hD hS => ?_)
      refine lv_if_ne (tgt := 64) hx hb dX3_readCommand_59 (by decide) (fun c9 => ?_) (fun c9 => ?_)
      · have hF := ob_pos c9 hF
        refine lv_aload_n hx hb dX3_readCommand_64 rfl (lv_at hl 1 rfl) ?_
        refine lv_dup hx hb dX3_readCommand_65 rfl ?_
        refine va_get (D := g.1) (ci := 7) (v := .int (T_commands z8.2)) (C := RX3) (T := TX3) (N := 7) hx hb hts inX3 hown hK hP 0 rfl rfl 6 (by decide) (hts _ mw_172) (fun _ h9 => h9) rfl dX3_readCommand_66 ?_
        refine lv_iconst (v := 1) hx hb dX3_readCommand_69 (by decide) ?_
        refine lv_iadd hx hb dX3_readCommand_70 ?_
        refine va_put (D := g.1) (ci := 7) (v := .int ((T_commands z8.2) + 1)) (ty := .int) (C := RX3) (T := TX3) (N := 7) hx hb hts inX3 tyX3 tyX3_ok nmX3 hown hK hP hD hS 0 rfl rfl 6 (by decide) (hts _ mw_172) (fun _ h9 => h9) rfl (by decide +kernel) rfl rfl (Nat.le_of_ble_eq_true rfl) dX3_readCommand_71 (fun H locs hP hD hS => ?_)
        have hP : va_P g.1 vwCl ([wTc g a (T_signs z8.2) (T_length z8.2) (T_position z8.2) (T_kinds z8.2) (T_firsts z8.2) (T_seconds z8.2) ((T_commands z8.2) + 1)] : List va_W).flatten _ := hP
        have hD : va_D A ([wTc g a (T_signs z8.2) (T_length z8.2) (T_position z8.2) (T_kinds z8.2) (T_firsts z8.2) (T_seconds z8.2) ((T_commands z8.2) + 1)] : List va_W).flatten := hD
        refine lv_iconst (v := 1) hx hb dX3_readCommand_74 (by decide) ?_
        cases hF
        rw [hQ]
        exact jb_zret hx hb hr rfl hlocks hP hD hS dX3_readCommand_75 rfl (Nat.le_of_ble_eq_true rfl) (Nat.le_of_ble_eq_true rfl)
      · have hF := ob_nneg c9 hF
        refine lv_iconst (v := 0) hx hb dX3_readCommand_62 (by decide) ?_
        cases hF
        rw [hQ]
        exact jb_zret hx hb hr rfl hlocks hP hD hS dX3_readCommand_63 rfl (Nat.le_of_ble_eq_true rfl) (Nat.le_of_ble_eq_true rfl)
    · have hF := ob_neg c3 hF
      refine lv_iconst (v := 0) hx hb dX3_readCommand_19 (by decide) ?_
      cases hF
      rw [hQ]
      exact jb_zret hx hb hr rfl hlocks hP hD hS dX3_readCommand_20 rfl (Nat.le_of_ble_eq_true rfl) (Nat.le_of_ble_eq_true rfl)
def F_X3_parse_L17  (k : Tv → Int32 → Int32 → Option (Bool × Tv)) : Nat → Tv → Int32 → Int32 → Option (Bool × Tv)
  | 0, _, _, _ => none
  | n + 1, b0, x1, x2 => if 60 ≤ x2 then k b0 x1 x2 else if x1 = 0 then k b0 x1 x2 else if (T_length b0) ≤ (T_position b0) then k b0 x1 x2 else (F_X3_readSign b0 59).bind (fun z2 => if (bi z2.1) = 0 then F_X3_parse_L17  k n z2.2 0 (x2 + 1) else (F_X3_readCommand z2.2).bind (fun z3 => if (bi z3.1) = 0 then F_X3_parse_L17  k n z3.2 0 (x2 + 1) else F_X3_parse_L17  k n z3.2 1 (x2 + 1)))
def F_X3_parse (tx : Tv) : Option (Bool × Tv) := (F_X3_readCommand (mkT (T_signs tx) (T_length tx) 0 (T_kinds tx) (T_firsts tx) (T_seconds tx) 0)).bind (fun z1 => F_X3_parse_L17  (fun b4 x5 x6 => ck (isb x5) (some (tob x5, b4))) 1000 z1.2 (bi z1.1) 1)
set_option maxHeartbeats 4000000 in
set_option maxRecDepth 100000 in
theorem c_X3_parse (g : GG) (l : Launch) (a : Nat → Nat) (tx : Tv) (z : Bool × Tv) (hF : F_X3_parse tx = some z) : MI g l yX3_parse cX3_parse 3 (some .boolean) ({ frames := 6, cells := 0, slots := 0, locals := 131 } : Room) [.ref (a 0)] [wT g a tx] 0 0 (bi z.1) [wT g a z.2] := by
  refine MI.bg (by decide) (Nat.le_of_ble_eq_true rfl) ?_
  intro p e s m below meth c A Q hQ hx hb hr hml hown hts hlocks hmn hK hE hA hP hD hS ls hl
  rw [F_X3_parse] at hF
  have hl : lv_has ls 3 [(0, .ref (a 0))] := hl
  refine lv_aload_n hx hb dX3_parse_0 rfl (lv_at hl 0 rfl) ?_
  refine lv_iconst (v := 0) hx hb dX3_parse_1 (by decide) ?_
  refine va_put (D := g.1) (ci := 7) (v := .int 0) (ty := .int) (C := RX3) (T := TX3) (N := 7) hx hb hts inX3 tyX3 tyX3_ok nmX3 hown hK hP hD hS 0 rfl rfl 2 (by decide) (hts _ mw_164) (fun _ h9 => h9) rfl (by decide +kernel) rfl rfl (Nat.le_of_ble_eq_true rfl) dX3_parse_2 (fun H locs hP hD hS => ?_)
  have hP : va_P g.1 vwCl ([wTc g a (T_signs tx) (T_length tx) 0 (T_kinds tx) (T_firsts tx) (T_seconds tx) (T_commands tx)] : List va_W).flatten _ := hP
  have hD : va_D A ([wTc g a (T_signs tx) (T_length tx) 0 (T_kinds tx) (T_firsts tx) (T_seconds tx) (T_commands tx)] : List va_W).flatten := hD
  refine lv_aload_n hx hb dX3_parse_5 rfl (lv_at hl 0 rfl) ?_
  refine lv_iconst (v := 0) hx hb dX3_parse_6 (by decide) ?_
  refine va_put (D := g.1) (ci := 7) (v := .int 0) (ty := .int) (C := RX3) (T := TX3) (N := 7) hx hb hts inX3 tyX3 tyX3_ok nmX3 hown hK hP hD hS 0 rfl rfl 6 (by decide) (hts _ mw_172) (fun _ h9 => h9) rfl (by decide +kernel) rfl rfl (Nat.le_of_ble_eq_true rfl) dX3_parse_7 (fun H locs hP hD hS => ?_)
  have hP : va_P g.1 vwCl ([wTc g a (T_signs tx) (T_length tx) 0 (T_kinds tx) (T_firsts tx) (T_seconds tx) 0] : List va_W).flatten _ := hP
  have hD : va_D A ([wTc g a (T_signs tx) (T_length tx) 0 (T_kinds tx) (T_firsts tx) (T_seconds tx) 0] : List va_W).flatten := hD
  refine lv_aload_n hx hb dX3_parse_10 rfl (lv_at hl 0 rfl) ?_
  obtain ⟨z1, hz1, hF⟩ := ob_bind hF
  refine cl_i (csR := []) (csF := [wT g a z1.2]) (rest := []) hx hb hml hown hts hK hE hA hl hP hD hS (c_X3_readCommand g l a (mkT (T_signs tx) (T_length tx) 0 (T_kinds tx) (T_firsts tx) (T_seconds tx) 0) z1 hz1) [0] [] [0] ⟨rfl, rfl, rfl, rfl, rfl, rfl, rfl⟩ ⟨0, 7, _, _, rfl, rfl, rfl⟩ 0 (jb_giV mw_1157 mw_1159 ms_24 mw_5 mw_1160) ⟨rfl, rfl⟩ (by decide +kernel) ⟨⟨(Nat.le_of_ble_eq_true rfl), (Nat.le_of_ble_eq_true rfl)⟩, (Nat.le_of_ble_eq_true rfl), (Nat.le_of_ble_eq_true rfl)⟩ ⟨rfl, rfl⟩ (Nat.le_of_ble_eq_true rfl) dX3_parse_11 (fun H locs hP hD hS => ?_)
  refine lv_istore_n (lv' := [(1, .int (bi z1.1)), (0, .ref (a 0))]) hx hb dX3_parse_14 rfl hl (by decide) rfl (fun ls hl => ?_)
  refine lv_iconst (v := 1) hx hb dX3_parse_15 (by decide) ?_
  refine lv_istore_n (lv' := [(2, .int 1), (1, .int (bi z1.1)), (0, .ref (a 0))]) hx hb dX3_parse_16 rfl hl (by decide) rfl (fun ls hl => ?_)
  obtain ⟨k4, ek4, hF⟩ := ob_k (F := fun k9 => F_X3_parse_L17  k9 1000 z1.2 (bi z1.1) 1) hF
  have loop4 : ∀ (n9 : Nat) (b2 : Tv) (x3 : Int32) (x4 : Int32), F_X3_parse_L17  k4 n9 b2 x3 x4 = some z → ∀ (H : Heap) (locs : List Loc), va_P g.1 vwCl ([wT g a b2] : List va_W).flatten H → va_D A ([wT g a b2] : List va_W).flatten → va_S A s.heap H locs → ∀ ls : Array Slot, lv_has ls 3 [(0, .ref (a 0)), (1, .int x3), (2, .int x4)] → W p l e ({ frames := 6, cells := 0, slots := 0, locals := 131 } : Room) s m ([.ref (a 0)] : List Value).toArray below meth c H locs 0 0 Q (F0 m 17 ls []) := by
    intro n9
    induction n9 with
    | zero => intro b2 x3 x4 hF; rw [F_X3_parse_L17] at hF; cases hF
    | succ n9 ih4 =>
      intro b2 x3 x4 hF H locs hP hD hS ls hl
      rw [F_X3_parse_L17] at hF
      refine lv_iload_n hx hb dX3_parse_17 rfl (lv_at hl 2 rfl) ?_
      refine lv_bipush (v := 60) hx hb dX3_parse_18 (by decide) ?_
      refine lv_icmp_ge (tgt := 66) hx hb dX3_parse_20 (by decide) (fun c5 => ?_) (fun c5 => ?_)
      · have hF := ob_pos c5 hF
        rw [ek4] at hF
        refine lv_iload_n hx hb dX3_parse_66 rfl (lv_at hl 1 rfl) ?_
        have hch := ck_t hF
        have hF := ck_s hF
        cases hF
        rw [hQ]
        exact jb_zret hx hb hr (isb_n hch) hlocks hP hD hS dX3_parse_67 (isb_e hch) (Nat.le_of_ble_eq_true rfl) (Nat.le_of_ble_eq_true rfl)
      · have hF := ob_neg c5 hF
        refine lv_iload_n hx hb dX3_parse_23 rfl (lv_at hl 1 rfl) ?_
        refine lv_if_eq (tgt := 66) hx hb dX3_parse_24 (by decide) (fun c6 => ?_) (fun c6 => ?_)
        · have hF := ob_pos c6 hF
          rw [ek4] at hF
          refine lv_iload_n hx hb dX3_parse_66 rfl (lv_at hl 1 rfl) ?_
          have hch := ck_t hF
          have hF := ck_s hF
          cases hF
          rw [hQ]
          exact jb_zret hx hb hr (isb_n hch) hlocks hP hD hS dX3_parse_67 (isb_e hch) (Nat.le_of_ble_eq_true rfl) (Nat.le_of_ble_eq_true rfl)
        · have hF := ob_neg c6 hF
          refine lv_aload_n hx hb dX3_parse_27 rfl (lv_at hl 0 rfl) ?_
          refine va_get (D := g.1) (ci := 7) (v := .int (T_position b2)) (C := RX3) (T := TX3) (N := 7) hx hb hts inX3 hown hK hP 0 rfl rfl 2 (by decide) (hts _ mw_164) (fun _ h9 => h9) rfl dX3_parse_28 ?_
          refine lv_aload_n hx hb dX3_parse_31 rfl (lv_at hl 0 rfl) ?_
          refine va_get (D := g.1) (ci := 7) (v := .int (T_length b2)) (C := RX3) (T := TX3) (N := 7) hx hb hts inX3 hown hK hP 0 rfl rfl 1 (by decide) (hts _ mw_162) (fun _ h9 => h9) rfl dX3_parse_32 ?_
          refine lv_icmp_ge (tgt := 66) hx hb dX3_parse_35 (by decide) (fun c7 => ?_) (fun c7 => ?_)
          · have hF := ob_pos c7 hF
            rw [ek4] at hF
            refine lv_iload_n hx hb dX3_parse_66 rfl (lv_at hl 1 rfl) ?_
            have hch := ck_t hF
            have hF := ck_s hF
            cases hF
            rw [hQ]
            exact jb_zret hx hb hr (isb_n hch) hlocks hP hD hS dX3_parse_67 (isb_e hch) (Nat.le_of_ble_eq_true rfl) (Nat.le_of_ble_eq_true rfl)
          · have hF := ob_neg c7 hF
            refine lv_aload_n hx hb dX3_parse_38 rfl (lv_at hl 0 rfl) ?_
            refine lv_bipush (v := 59) hx hb dX3_parse_39 (by decide) ?_
            obtain ⟨z8, hz8, hF⟩ := ob_bind hF
            refine cl_i (csR := []) (csF := [wT g a z8.2]) (rest := []) hx hb hml hown hts hK hE hA hl hP hD hS (c_X3_readSign g l a b2 59 z8 hz8) [0] [] [0] ⟨rfl, rfl, rfl, rfl, rfl, rfl, rfl⟩ ⟨0, 7, _, _, rfl, rfl, rfl⟩ 1 (jb_giV mw_1208 mw_1210 ms_30 mw_5 mw_1211) ⟨rfl, rfl⟩ (by decide +kernel) ⟨⟨(Nat.le_of_ble_eq_true rfl), (Nat.le_of_ble_eq_true rfl)⟩, (Nat.le_of_ble_eq_true rfl), (Nat.le_of_ble_eq_true rfl)⟩ ⟨rfl, rfl⟩ (Nat.le_of_ble_eq_true rfl) dX3_parse_41 (fun H locs hP hD hS => ?_)
            refine lv_if_eq (tgt := 58) hx hb dX3_parse_44 (by decide) (fun c9 => ?_) (fun c9 => ?_)
            · have hF := ob_pos c9 hF
              refine lv_iconst (v := 0) hx hb dX3_parse_58 (by decide) ?_
              refine lv_istore_n (lv' := [(1, .int 0), (0, .ref (a 0)), (2, .int x4)]) hx hb dX3_parse_59 rfl hl (by decide) rfl (fun ls hl => ?_)
              refine lv_iinc (v := x4 + 1) (lv' := [(2, .int (x4 + 1)), (1, .int 0), (0, .ref (a 0))]) hx hb dX3_parse_60 hl (k := 2) rfl (by rfl) (by decide) rfl (fun ls hl => ?_)
              refine lv_goto (tgt := 17) hx hb dX3_parse_63 (by decide) ?_
              exact ih4 _ _ _ hF _ _ hP hD hS ls (lv_sub hl [2, 1, 0] rfl)
            · have hF := ob_neg c9 hF
              refine lv_aload_n hx hb dX3_parse_47 rfl (lv_at hl 0 rfl) ?_
              obtain ⟨z10, hz10, hF⟩ := ob_bind hF
              refine cl_i (csR := []) (csF := [wT g a z10.2]) (rest := []) hx hb hml hown hts hK hE hA hl hP hD hS (c_X3_readCommand g l a z8.2 z10 hz10) [0] [] [0] ⟨rfl, rfl, rfl, rfl, rfl, rfl, rfl⟩ ⟨0, 7, _, _, rfl, rfl, rfl⟩ 0 (jb_giV mw_1157 mw_1159 ms_24 mw_5 mw_1160) ⟨rfl, rfl⟩ (by decide +kernel) ⟨⟨(Nat.le_of_ble_eq_true rfl), (Nat.le_of_ble_eq_true rfl)⟩, (Nat.le_of_ble_eq_true rfl), (Nat.le_of_ble_eq_true rfl)⟩ ⟨rfl, rfl⟩ (Nat.le_of_ble_eq_true rfl) dX3_parse_48 (fun H locs hP hD hS => ?_)
              refine lv_if_eq (tgt := 58) hx hb dX3_parse_51 (by decide) (fun c11 => ?_) (fun c11 => ?_)
              · have hF := ob_pos c11 hF
                refine lv_iconst (v := 0) hx hb dX3_parse_58 (by decide) ?_
                refine lv_istore_n (lv' := [(1, .int 0), (0, .ref (a 0)), (2, .int x4)]) hx hb dX3_parse_59 rfl hl (by decide) rfl (fun ls hl => ?_)
                refine lv_iinc (v := x4 + 1) (lv' := [(2, .int (x4 + 1)), (1, .int 0), (0, .ref (a 0))]) hx hb dX3_parse_60 hl (k := 2) rfl (by rfl) (by decide) rfl (fun ls hl => ?_)
                refine lv_goto (tgt := 17) hx hb dX3_parse_63 (by decide) ?_
                exact ih4 _ _ _ hF _ _ hP hD hS ls (lv_sub hl [2, 1, 0] rfl)
              · have hF := ob_neg c11 hF
                refine lv_iconst (v := 1) hx hb dX3_parse_54 (by decide) ?_
                refine lv_goto (tgt := 59) hx hb dX3_parse_55 (by decide) ?_
                refine lv_istore_n (lv' := [(1, .int 1), (0, .ref (a 0)), (2, .int x4)]) hx hb dX3_parse_59 rfl hl (by decide) rfl (fun ls hl => ?_)
                refine lv_iinc (v := x4 + 1) (lv' := [(2, .int (x4 + 1)), (1, .int 1), (0, .ref (a 0))]) hx hb dX3_parse_60 hl (k := 2) rfl (by rfl) (by decide) rfl (fun ls hl => ?_)
                refine lv_goto (tgt := 17) hx hb dX3_parse_63 (by decide) ?_
                exact ih4 _ _ _ hF _ _ hP hD hS ls (lv_sub hl [2, 1, 0] rfl)
  exact loop4 1000 _ _ _ hF _ _ hP hD hS ls (lv_sub hl [2, 1, 0] rfl)
