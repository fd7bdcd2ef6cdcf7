theorem mw_712 : Cond.methodLink RX0 64 arraycopyName ∈ WW := WT_in 712 (by decide +kernel) (by decide +kernel)
theorem mw_383 : Cond.native arraycopyName ∈ WW := WT_in 383 (by decide +kernel) (by decide +kernel)
theorem mw_382 : Cond.static arraycopyName ∈ WW := WT_in 382 (by decide +kernel) (by decide +kernel)
theorem mw_18 : Cond.initialized "java/lang/System" ∈ WW := WT_in 18 (by decide +kernel) (by decide +kernel)
theorem mw_805 : Cond.methodLink RX1 25 yX0_copyFrom ∈ WW := WT_in 805 (by decide +kernel) (by decide +kernel)
theorem mw_709 : Cond.instanceMethod yX0_copyFrom ∈ WW := WT_in 709 (by decide +kernel) (by decide +kernel)
theorem mw_710 : Cond.selects RX0 yX0_copyFrom yX0_copyFrom ∈ WW := WT_in 710 (by decide +kernel) (by decide +kernel)
theorem mw_711 : Cond.code yX0_copyFrom cX0_copyFrom 2 none ∈ WW := WT_in 711 (by decide +kernel) (by decide +kernel)
theorem mw_130 : Cond.fieldLink RX1 17 "JamBridge$History" "newest" "I" ∈ WW := WT_in 130 (by decide +kernel) (by decide +kernel)
theorem mw_129 : Cond.fieldLink RX1 11 "JamBridge$History" "states" "[LJamBridge$Bridge;" ∈ WW := WT_in 129 (by decide +kernel) (by decide +kernel)
theorem mw_131 : Cond.fieldLink RX1 21 "JamBridge$History" "count" "I" ∈ WW := WT_in 131 (by decide +kernel) (by decide +kernel)
theorem mw_806 : Cond.methodLink RX1 29 yJ9_min_7cf53 ∈ WW := WT_in 806 (by decide +kernel) (by decide +kernel)
def F_X0_copyFrom (b : Bv) (o : Bv) : Option (Bv) := some (mkB (B_spans o) (va_cpy (B_lengths o) (B_lengths b) (0 : Int32).toNatClampNeg (0 : Int32).toNatClampNeg (10 : Int32).toNatClampNeg) (va_cpy (B_jars o) (B_jars b) (0 : Int32).toNatClampNeg (0 : Int32).toNatClampNeg (10 : Int32).toNatClampNeg) (va_cpy (B_ages o) (B_ages b) (0 : Int32).toNatClampNeg (0 : Int32).toNatClampNeg (10 : Int32).toNatClampNeg) (va_cpy (B_cracks o) (B_cracks b) (0 : Int32).toNatClampNeg (0 : Int32).toNatClampNeg (10 : Int32).toNatClampNeg) (va_cpy (B_stresses o) (B_stresses b) (0 : Int32).toNatClampNeg (0 : Int32).toNatClampNeg (10 : Int32).toNatClampNeg) (B_vehicles o) (va_cpy (B_numbers o) (B_numbers b) (0 : Int32).toNatClampNeg (0 : Int32).toNatClampNeg (8 : Int32).toNatClampNeg) (va_cpy (B_weights o) (B_weights b) (0 : Int32).toNatClampNeg (0 : Int32).toNatClampNeg (8 : Int32).toNatClampNeg) (va_cpy (B_places o) (B_places b) (0 : Int32).toNatClampNeg (0 : Int32).toNatClampNeg (8 : Int32).toNatClampNeg) (B_nextNumber o) (B_hour o) (B_rate o) (B_till o) (B_paid o) (B_crossed o) (B_sunk o))
set_option maxHeartbeats 4000000 in
set_option maxRecDepth 100000 in
theorem c_X0_copyFrom (g : GG) (l : Launch) (a : Nat → Nat) (a2 : Nat → Nat) (b : Bv) (o : Bv) (z : Bv) (hF : F_X0_copyFrom b o = some z) : MV g l yX0_copyFrom cX0_copyFrom 2 none ({ frames := 2, cells := 0, slots := 0, locals := 100 } : Room) [.ref (a 0), .ref (a2 0)] [wB g a b, wB g a2 o] 0 0 [wB g a z, wB g a2 o] := by
  refine MV.bg (by decide) (Nat.le_of_ble_eq_true rfl) ?_
  intro p e s m below meth c A Q hQ hx hb hr hml hown hts hlocks hmn hK hE hA hP hD hS ls hl
  rw [F_X0_copyFrom] at hF
  have hl : lv_has ls 2 [(0, .ref (a 0)), (1, .ref (a2 0))] := hl
  refine lv_aload_n hx hb dX0_copyFrom_0 rfl (lv_at hl 0 rfl) ?_
  refine lv_aload_n hx hb dX0_copyFrom_1 rfl (lv_at hl 1 rfl) ?_
  refine va_get (D := g.1) (ci := 4) (v := .int (B_spans o)) (C := RX0) (T := TX0) (N := 17) hx hb hts inX0 hown hK hP 9 rfl rfl 0 (by decide) (hts _ mw_44) (fun _ h9 => h9) rfl dX0_copyFrom_2 ?_
  refine va_put (D := g.1) (ci := 4) (v := .int (B_spans o)) (ty := .int) (C := RX0) (T := TX0) (N := 17) hx hb hts inX0 tyX0 tyX0_ok nmX0 hown hK hP hD hS 0 rfl rfl 0 (by decide) (hts _ mw_44) (fun _ h9 => h9) rfl (by decide +kernel) rfl rfl (Nat.le_of_ble_eq_true rfl) dX0_copyFrom_5 (fun H locs hP hD hS => ?_)
  have hP : va_P g.1 vwCl ([wBc g a (B_spans o) (B_lengths b) (B_jars b) (B_ages b) (B_cracks b) (B_stresses b) (B_vehicles b) (B_numbers b) (B_weights b) (B_places b) (B_nextNumber b) (B_hour b) (B_rate b) (B_till b) (B_paid b) (B_crossed b) (B_sunk b), wB g a2 o] : List va_W).flatten _ := hP
  have hD : va_D A ([wBc g a (B_spans o) (B_lengths b) (B_jars b) (B_ages b) (B_cracks b) (B_stresses b) (B_vehicles b) (B_numbers b) (B_weights b) (B_places b) (B_nextNumber b) (B_hour b) (B_rate b) (B_till b) (B_paid b) (B_crossed b) (B_sunk b), wB g a2 o] : List va_W).flatten := hD
  refine lv_aload_n hx hb dX0_copyFrom_8 rfl (lv_at hl 1 rfl) ?_
  refine va_get (D := g.1) (ci := 4) (v := .ref (a2 1)) (C := RX0) (T := TX0) (N := 17) hx hb hts inX0 hown hK hP 9 rfl rfl 1 (by decide) (hts _ mw_47) (fun _ h9 => h9) rfl dX0_copyFrom_9 ?_
  refine lv_iconst (v := 0) hx hb dX0_copyFrom_12 (by decide) ?_
  refine lv_aload_n hx hb dX0_copyFrom_13 rfl (lv_at hl 0 rfl) ?_
  refine va_get (D := g.1) (ci := 4) (v := .ref (a 1)) (C := RX0) (T := TX0) (N := 17) hx hb hts inX0 hown hK hP 0 rfl rfl 1 (by decide) (hts _ mw_47) (fun _ h9 => h9) rfl dX0_copyFrom_14 ?_
  refine lv_iconst (v := 0) hx hb dX0_copyFrom_17 (by decide) ?_
  refine lv_bipush (v := 10) hx hb dX0_copyFrom_18 (by decide) ?_
  refine va_copyi hx hb (hml.trans hl.1.symm) hown (hts _ mw_712) (hts _ mw_383) (hts _ mw_382) (hts _ mw_18) hK hP hD hS 10 1 0 0 rfl rfl rfl rfl rfl (by decide) (by decide) (by decide) (by decide) (by decide) (fun _ _ => rfl) (Nat.le_of_ble_eq_true rfl) (by decide +kernel) dX0_copyFrom_20 (fun H locs hP hD hS => ?_)
  have hP : va_P g.1 vwCl ([wBc g a (B_spans o) (va_cpy (B_lengths o) (B_lengths b) (0 : Int32).toNatClampNeg (0 : Int32).toNatClampNeg (10 : Int32).toNatClampNeg) (B_jars b) (B_ages b) (B_cracks b) (B_stresses b) (B_vehicles b) (B_numbers b) (B_weights b) (B_places b) (B_nextNumber b) (B_hour b) (B_rate b) (B_till b) (B_paid b) (B_crossed b) (B_sunk b), wB g a2 o] : List va_W).flatten _ := hP
  have hD : va_D A ([wBc g a (B_spans o) (va_cpy (B_lengths o) (B_lengths b) (0 : Int32).toNatClampNeg (0 : Int32).toNatClampNeg (10 : Int32).toNatClampNeg) (B_jars b) (B_ages b) (B_cracks b) (B_stresses b) (B_vehicles b) (B_numbers b) (B_weights b) (B_places b) (B_nextNumber b) (B_hour b) (B_rate b) (B_till b) (B_paid b) (B_crossed b) (B_sunk b), wB g a2 o] : List va_W).flatten := hD
  refine lv_aload_n hx hb dX0_copyFrom_23 rfl (lv_at hl 1 rfl) ?_
  refine va_get (D := g.1) (ci := 4) (v := .ref (a2 2)) (C := RX0) (T := TX0) (N := 17) hx hb hts inX0 hown hK hP 9 rfl rfl 2 (by decide) (hts _ mw_49) (fun _ h9 => h9) rfl dX0_copyFrom_24 ?_
  refine lv_iconst (v := 0) hx hb dX0_copyFrom_27 (by decide) ?_
  refine lv_aload_n hx hb dX0_copyFrom_28 rfl (lv_at hl 0 rfl) ?_
  refine va_get (D := g.1) (ci := 4) (v := .ref (a 2)) (C := RX0) (T := TX0) (N := 17) hx hb hts inX0 hown hK hP 0 rfl rfl 2 (by decide) (hts _ mw_49) (fun _ h9 => h9) rfl dX0_copyFrom_29 ?_
  refine lv_iconst (v := 0) hx hb dX0_copyFrom_32 (by decide) ?_
  refine lv_bipush (v := 10) hx hb dX0_copyFrom_33 (by decide) ?_
  refine va_copyi hx hb (hml.trans hl.1.symm) hown (hts _ mw_712) (hts _ mw_383) (hts _ mw_382) (hts _ mw_18) hK hP hD hS 11 2 0 0 rfl rfl rfl rfl rfl (by decide) (by decide) (by decide) (by decide) (by decide) (fun _ _ => rfl) (Nat.le_of_ble_eq_true rfl) (by decide +kernel) dX0_copyFrom_35 (fun H locs hP hD hS => ?_)
  have hP : va_P g.1 vwCl ([wBc g a (B_spans o) (va_cpy (B_lengths o) (B_lengths b) (0 : Int32).toNatClampNeg (0 : Int32).toNatClampNeg (10 : Int32).toNatClampNeg) (va_cpy (B_jars o) (B_jars b) (0 : Int32).toNatClampNeg (0 : Int32).toNatClampNeg (10 : Int32).toNatClampNeg) (B_ages b) (B_cracks b) (B_stresses b) (B_vehicles b) (B_numbers b) (B_weights b) (B_places b) (B_nextNumber b) (B_hour b) (B_rate b) (B_till b) (B_paid b) (B_crossed b) (B_sunk b), wB g a2 o] : List va_W).flatten _ := hP
  have hD : va_D A ([wBc g a (B_spans o) (va_cpy (B_lengths o) (B_lengths b) (0 : Int32).toNatClampNeg (0 : Int32).toNatClampNeg (10 : Int32).toNatClampNeg) (va_cpy (B_jars o) (B_jars b) (0 : Int32).toNatClampNeg (0 : Int32).toNatClampNeg (10 : Int32).toNatClampNeg) (B_ages b) (B_cracks b) (B_stresses b) (B_vehicles b) (B_numbers b) (B_weights b) (B_places b) (B_nextNumber b) (B_hour b) (B_rate b) (B_till b) (B_paid b) (B_crossed b) (B_sunk b), wB g a2 o] : List va_W).flatten := hD
  refine lv_aload_n hx hb dX0_copyFrom_38 rfl (lv_at hl 1 rfl) ?_
  refine va_get (D := g.1) (ci := 4) (v := .ref (a2 3)) (C := RX0) (T := TX0) (N := 17) hx hb hts inX0 hown hK hP 9 rfl rfl 3 (by decide) (hts _ mw_52) (fun _ h9 => h9) rfl dX0_copyFrom_39 ?_
  refine lv_iconst (v := 0) hx hb dX0_copyFrom_42 (by decide) ?_
  refine lv_aload_n hx hb dX0_copyFrom_43 rfl (lv_at hl 0 rfl) ?_
  refine va_get (D := g.1) (ci := 4) (v := .ref (a 3)) (C := RX0) (T := TX0) (N := 17) hx hb hts inX0 hown hK hP 0 rfl rfl 3 (by decide) (hts _ mw_52) (fun _ h9 => h9) rfl dX0_copyFrom_44 ?_
  refine lv_iconst (v := 0) hx hb dX0_copyFrom_47 (by decide) ?_
  refine lv_bipush (v := 10) hx hb dX0_copyFrom_48 (by decide) ?_
  refine va_copyi hx hb (hml.trans hl.1.symm) hown (hts _ mw_712) (hts _ mw_383) (hts _ mw_382) (hts _ mw_18) hK hP hD hS 12 3 0 0 rfl rfl rfl rfl rfl (by decide) (by decide) (by decide) (by decide) (by decide) (fun _ _ => rfl) (Nat.le_of_ble_eq_true rfl) (by decide +kernel) dX0_copyFrom_50 (fun H locs hP hD hS => ?_)
  have hP : va_P g.1 vwCl ([wBc g a (B_spans o) (va_cpy (B_lengths o) (B_lengths b) (0 : Int32).toNatClampNeg (0 : Int32).toNatClampNeg (10 : Int32).toNatClampNeg) (va_cpy (B_jars o) (B_jars b) (0 : Int32).toNatClampNeg (0 : Int32).toNatClampNeg (10 : Int32).toNatClampNeg) (va_cpy (B_ages o) (B_ages b) (0 : Int32).toNatClampNeg (0 : Int32).toNatClampNeg (10 : Int32).toNatClampNeg) (B_cracks b) (B_stresses b) (B_vehicles b) (B_numbers b) (B_weights b) (B_places b) (B_nextNumber b) (B_hour b) (B_rate b) (B_till b) (B_paid b) (B_crossed b) (B_sunk b), wB g a2 o] : List va_W).flatten _ := hP
  have hD : va_D A ([wBc g a (B_spans o) (va_cpy (B_lengths o) (B_lengths b) (0 : Int32).toNatClampNeg (0 : Int32).toNatClampNeg (10 : Int32).toNatClampNeg) (va_cpy (B_jars o) (B_jars b) (0 : Int32).toNatClampNeg (0 : Int32).toNatClampNeg (10 : Int32).toNatClampNeg) (va_cpy (B_ages o) (B_ages b) (0 : Int32).toNatClampNeg (0 : Int32).toNatClampNeg (10 : Int32).toNatClampNeg) (B_cracks b) (B_stresses b) (B_vehicles b) (B_numbers b) (B_weights b) (B_places b) (B_nextNumber b) (B_hour b) (B_rate b) (B_till b) (B_paid b) (B_crossed b) (B_sunk b), wB g a2 o] : List va_W).flatten := hD
  refine lv_aload_n hx hb dX0_copyFrom_53 rfl (lv_at hl 1 rfl) ?_
  refine va_get (D := g.1) (ci := 4) (v := .ref (a2 4)) (C := RX0) (T := TX0) (N := 17) hx hb hts inX0 hown hK hP 9 rfl rfl 4 (by decide) (hts _ mw_54) (fun _ h9 => h9) rfl dX0_copyFrom_54 ?_
  refine lv_iconst (v := 0) hx hb dX0_copyFrom_57 (by decide) ?_
  refine lv_aload_n hx hb dX0_copyFrom_58 rfl (lv_at hl 0 rfl) ?_
  refine va_get (D := g.1) (ci := 4) (v := .ref (a 4)) (C := RX0) (T := TX0) (N := 17) hx hb hts inX0 hown hK hP 0 rfl rfl 4 (by decide) (hts _ mw_54) (fun _ h9 => h9) rfl dX0_copyFrom_59 ?_
  refine lv_iconst (v := 0) hx hb dX0_copyFrom_62 (by decide) ?_
  refine lv_bipush (v := 10) hx hb dX0_copyFrom_63 (by decide) ?_
  refine va_copyi hx hb (hml.trans hl.1.symm) hown (hts _ mw_712) (hts _ mw_383) (hts _ mw_382) (hts _ mw_18) hK hP hD hS 13 4 0 0 rfl rfl rfl rfl rfl (by decide) (by decide) (by decide) (by decide) (by decide) (fun _ _ => rfl) (Nat.le_of_ble_eq_true rfl) (by decide +kernel) dX0_copyFrom_65 (fun H locs hP hD hS => ?_)
  have hP : va_P g.1 vwCl ([wBc g a (B_spans o) (va_cpy (B_lengths o) (B_lengths b) (0 : Int32).toNatClampNeg (0 : Int32).toNatClampNeg (10 : Int32).toNatClampNeg) (va_cpy (B_jars o) (B_jars b) (0 : Int32).toNatClampNeg (0 : Int32).toNatClampNeg (10 : Int32).toNatClampNeg) (va_cpy (B_ages o) (B_ages b) (0 : Int32).toNatClampNeg (0 : Int32).toNatClampNeg (10 : Int32).toNatClampNeg) (va_cpy (B_cracks o) (B_cracks b) (0 : Int32).toNatClampNeg (0 : Int32).toNatClampNeg (10 : Int32).toNatClampNeg) (B_stresses b) (B_vehicles b) (B_numbers b) (B_weights b) (B_places b) (B_nextNumber b) (B_hour b) (B_rate b) (B_till b) (B_paid b) (B_crossed b) (B_sunk b), wB g a2 o] : List va_W).flatten _ := hP
  have hD : va_D A ([wBc g a (B_spans o) (va_cpy (B_lengths o) (B_lengths b) (0 : Int32).toNatClampNeg (0 : Int32).toNatClampNeg (10 : Int32).toNatClampNeg) (va_cpy (B_jars o) (B_jars b) (0 : Int32).toNatClampNeg (0 : Int32).toNatClampNeg (10 : Int32).toNatClampNeg) (va_cpy (B_ages o) (B_ages b) (0 : Int32).toNatClampNeg (0 : Int32).toNatClampNeg (10 : Int32).toNatClampNeg) (va_cpy (B_cracks o) (B_cracks b) (0 : Int32).toNatClampNeg (0 : Int32).toNatClampNeg (10 : Int32).toNatClampNeg) (B_stresses b) (B_vehicles b) (B_numbers b) (B_weights b) (B_places b) (B_nextNumber b) (B_hour b) (B_rate b) (B_till b) (B_paid b) (B_crossed b) (B_sunk b), wB g a2 o] : List va_W).flatten := hD
  refine lv_aload_n hx hb dX0_copyFrom_68 rfl (lv_at hl 1 rfl) ?_
  refine va_get (D := g.1) (ci := 4) (v := .ref (a2 5)) (C := RX0) (T := TX0) (N := 17) hx hb hts inX0 hown hK hP 9 rfl rfl 5 (by decide) (hts _ mw_57) (fun _ h9 => h9) rfl dX0_copyFrom_69 ?_
  refine lv_iconst (v := 0) hx hb dX0_copyFrom_72 (by decide) ?_
  refine lv_aload_n hx hb dX0_copyFrom_73 rfl (lv_at hl 0 rfl) ?_
  refine va_get (D := g.1) (ci := 4) (v := .ref (a 5)) (C := RX0) (T := TX0) (N := 17) hx hb hts inX0 hown hK hP 0 rfl rfl 5 (by decide) (hts _ mw_57) (fun _ h9 => h9) rfl dX0_copyFrom_74 ?_
  refine lv_iconst (v := 0) hx hb dX0_copyFrom_77 (by decide) ?_
  refine lv_bipush (v := 10) hx hb dX0_copyFrom_78 (by decide) ?_
  refine va_copyi hx hb (hml.trans hl.1.symm) hown (hts _ mw_712) (hts _ mw_383) (hts _ mw_382) (hts _ mw_18) hK hP hD hS 14 5 0 0 rfl rfl rfl rfl rfl (by decide) (by decide) (by decide) (by decide) (by decide) (fun _ _ => rfl) (Nat.le_of_ble_eq_true rfl) (by decide +kernel) dX0_copyFrom_80 (fun H locs hP hD hS => ?_)
  have hP : va_P g.1 vwCl ([wBc g a (B_spans o) (va_cpy (B_lengths o) (B_lengths b) (0 : Int32).toNatClampNeg (0 : Int32).toNatClampNeg (10 : Int32).toNatClampNeg) (va_cpy (B_jars o) (B_jars b) (0 : Int32).toNatClampNeg (0 : Int32).toNatClampNeg (10 : Int32).toNatClampNeg) (va_cpy (B_ages o) (B_ages b) (0 : Int32).toNatClampNeg (0 : Int32).toNatClampNeg (10 : Int32).toNatClampNeg) (va_cpy (B_cracks o) (B_cracks b) (0 : Int32).toNatClampNeg (0 : Int32).toNatClampNeg (10 : Int32).toNatClampNeg) (va_cpy (B_stresses o) (B_stresses b) (0 : Int32).toNatClampNeg (0 : Int32).toNatClampNeg (10 : Int32).toNatClampNeg) (B_vehicles b) (B_numbers b) (B_weights b) (B_places b) (B_nextNumber b) (B_hour b) (B_rate b) (B_till b) (B_paid b) (B_crossed b) (B_sunk b), wB g a2 o] : List va_W).flatten _ := hP
  have hD : va_D A ([wBc g a (B_spans o) (va_cpy (B_lengths o) (B_lengths b) (0 : Int32).toNatClampNeg (0 : Int32).toNatClampNeg (10 : Int32).toNatClampNeg) (va_cpy (B_jars o) (B_jars b) (0 : Int32).toNatClampNeg (0 : Int32).toNatClampNeg (10 : Int32).toNatClampNeg) (va_cpy (B_ages o) (B_ages b) (0 : Int32).toNatClampNeg (0 : Int32).toNatClampNeg (10 : Int32).toNatClampNeg) (va_cpy (B_cracks o) (B_cracks b) (0 : Int32).toNatClampNeg (0 : Int32).toNatClampNeg (10 : Int32).toNatClampNeg) (va_cpy (B_stresses o) (B_stresses b) (0 : Int32).toNatClampNeg (0 : Int32).toNatClampNeg (10 : Int32).toNatClampNeg) (B_vehicles b) (B_numbers b) (B_weights b) (B_places b) (B_nextNumber b) (B_hour b) (B_rate b) (B_till b) (B_paid b) (B_crossed b) (B_sunk b), wB g a2 o] : List va_W).flatten := hD
  refine lv_aload_n hx hb dX0_copyFrom_83 rfl (lv_at hl 0 rfl) ?_
  refine lv_aload_n hx hb dX0_copyFrom_84 rfl (lv_at hl 1 rfl) ?_
  refine va_get (D := g.1) (ci := 4) (v := .int (B_vehicles o)) (C := RX0) (T := TX0) (N := 17) hx hb hts inX0 hown hK hP 9 rfl rfl 6 (by decide) (hts _ mw_59) (fun _ h9 => h9) rfl dX0_copyFrom_85 ?_
  refine va_put (D := g.1) (ci := 4) (v := .int (B_vehicles o)) (ty := .int) (C := RX0) (T := TX0) (N := 17) hx hb hts inX0 tyX0 tyX0_ok nmX0 hown hK hP hD hS 0 rfl rfl 6 (by decide) (hts _ mw_59) (fun _ h9 => h9) rfl (by decide +kernel) rfl rfl (Nat.le_of_ble_eq_true rfl) dX0_copyFrom_88 (fun H locs hP hD hS => ?_)
  have hP : va_P g.1 vwCl ([wBc g a (B_spans o) (va_cpy (B_lengths o) (B_lengths b) (0 : Int32).toNatClampNeg (0 : Int32).toNatClampNeg (10 : Int32).toNatClampNeg) (va_cpy (B_jars o) (B_jars b) (0 : Int32).toNatClampNeg (0 : Int32).toNatClampNeg (10 : Int32).toNatClampNeg) (va_cpy (B_ages o) (B_ages b) (0 : Int32).toNatClampNeg (0 : Int32).toNatClampNeg (10 : Int32).toNatClampNeg) (va_cpy (B_cracks o) (B_cracks b) (0 : Int32).toNatClampNeg (0 : Int32).toNatClampNeg (10 : Int32).toNatClampNeg) (va_cpy (B_stresses o) (B_stresses b) (0 : Int32).toNatClampNeg (0 : Int32).toNatClampNeg (10 : Int32).toNatClampNeg) (B_vehicles o) (B_numbers b) (B_weights b) (B_places b) (B_nextNumber b) (B_hour b) (B_rate b) (B_till b) (B_paid b) (B_crossed b) (B_sunk b), wB g a2 o] : List va_W).flatten _ := hP
  have hD : va_D A ([wBc g a (B_spans o) (va_cpy (B_lengths o) (B_lengths b) (0 : Int32).toNatClampNeg (0 : Int32).toNatClampNeg (10 : Int32).toNatClampNeg) (va_cpy (B_jars o) (B_jars b) (0 : Int32).toNatClampNeg (0 : Int32).toNatClampNeg (10 : Int32).toNatClampNeg) (va_cpy (B_ages o) (B_ages b) (0 : Int32).toNatClampNeg (0 : Int32).toNatClampNeg (10 : Int32).toNatClampNeg) (va_cpy (B_cracks o) (B_cracks b) (0 : Int32).toNatClampNeg (0 : Int32).toNatClampNeg (10 : Int32).toNatClampNeg) (va_cpy (B_stresses o) (B_stresses b) (0 : Int32).toNatClampNeg (0 : Int32).toNatClampNeg (10 : Int32).toNatClampNeg) (B_vehicles o) (B_numbers b) (B_weights b) (B_places b) (B_nextNumber b) (B_hour b) (B_rate b) (B_till b) (B_paid b) (B_crossed b) (B_sunk b), wB g a2 o] : List va_W).flatten := hD
  refine lv_aload_n hx hb dX0_copyFrom_91 rfl (lv_at hl 1 rfl) ?_
  refine va_get (D := g.1) (ci := 4) (v := .ref (a2 6)) (C := RX0) (T := TX0) (N := 17) hx hb hts inX0 hown hK hP 9 rfl rfl 7 (by decide) (hts _ mw_62) (fun _ h9 => h9) rfl dX0_copyFrom_92 ?_
  refine lv_iconst (v := 0) hx hb dX0_copyFrom_95 (by decide) ?_
  refine lv_aload_n hx hb dX0_copyFrom_96 rfl (lv_at hl 0 rfl) ?_
  refine va_get (D := g.1) (ci := 4) (v := .ref (a 6)) (C := RX0) (T := TX0) (N := 17) hx hb hts inX0 hown hK hP 0 rfl rfl 7 (by decide) (hts _ mw_62) (fun _ h9 => h9) rfl dX0_copyFrom_97 ?_
  refine lv_iconst (v := 0) hx hb dX0_copyFrom_100 (by decide) ?_
  refine lv_bipush (v := 8) hx hb dX0_copyFrom_101 (by decide) ?_
  refine va_copyi hx hb (hml.trans hl.1.symm) hown (hts _ mw_712) (hts _ mw_383) (hts _ mw_382) (hts _ mw_18) hK hP hD hS 15 6 0 0 rfl rfl rfl rfl rfl (by decide) (by decide) (by decide) (by decide) (by decide) (fun _ _ => rfl) (Nat.le_of_ble_eq_true rfl) (by decide +kernel) dX0_copyFrom_103 (fun H locs hP hD hS => ?_)
  have hP : va_P g.1 vwCl ([wBc g a (B_spans o) (va_cpy (B_lengths o) (B_lengths b) (0 : Int32).toNatClampNeg (0 : Int32).toNatClampNeg (10 : Int32).toNatClampNeg) (va_cpy (B_jars o) (B_jars b) (0 : Int32).toNatClampNeg (0 : Int32).toNatClampNeg (10 : Int32).toNatClampNeg) (va_cpy (B_ages o) (B_ages b) (0 : Int32).toNatClampNeg (0 : Int32).toNatClampNeg (10 : Int32).toNatClampNeg) (va_cpy (B_cracks o) (B_cracks b) (0 : Int32).toNatClampNeg (0 : Int32).toNatClampNeg (10 : Int32).toNatClampNeg) (va_cpy (B_stresses o) (B_stresses b) (0 : Int32).toNatClampNeg (0 : Int32).toNatClampNeg (10 : Int32).toNatClampNeg) (B_vehicles o) (va_cpy (B_numbers o) (B_numbers b) (0 : Int32).toNatClampNeg (0 : Int32).toNatClampNeg (8 : Int32).toNatClampNeg) (B_weights b) (B_places b) (B_nextNumber b) (B_hour b) (B_rate b) (B_till b) (B_paid b) (B_crossed b) (B_sunk b), wB g a2 o] : List va_W).flatten _ := hP
  have hD : va_D A ([wBc g a (B_spans o) (va_cpy (B_lengths o) (B_lengths b) (0 : Int32).toNatClampNeg (0 : Int32).toNatClampNeg (10 : Int32).toNatClampNeg) (va_cpy (B_jars o) (B_jars b) (0 : Int32).toNatClampNeg (0 : Int32).toNatClampNeg (10 : Int32).toNatClampNeg) (va_cpy (B_ages o) (B_ages b) (0 : Int32).toNatClampNeg (0 : Int32).toNatClampNeg (10 : Int32).toNatClampNeg) (va_cpy (B_cracks o) (B_cracks b) (0 : Int32).toNatClampNeg (0 : Int32).toNatClampNeg (10 : Int32).toNatClampNeg) (va_cpy (B_stresses o) (B_stresses b) (0 : Int32).toNatClampNeg (0 : Int32).toNatClampNeg (10 : Int32).toNatClampNeg) (B_vehicles o) (va_cpy (B_numbers o) (B_numbers b) (0 : Int32).toNatClampNeg (0 : Int32).toNatClampNeg (8 : Int32).toNatClampNeg) (B_weights b) (B_places b) (B_nextNumber b) (B_hour b) (B_rate b) (B_till b) (B_paid b) (B_crossed b) (B_sunk b), wB g a2 o] : List va_W).flatten := hD
  refine lv_aload_n hx hb dX0_copyFrom_106 rfl (lv_at hl 1 rfl) ?_
  refine va_get (D := g.1) (ci := 4) (v := .ref (a2 7)) (C := RX0) (T := TX0) (N := 17) hx hb hts inX0 hown hK hP 9 rfl rfl 8 (by decide) (hts _ mw_64) (fun _ h9 => h9) rfl dX0_copyFrom_107 ?_
  refine lv_iconst (v := 0) hx hb dX0_copyFrom_110 (by decide) ?_
  refine lv_aload_n hx hb dX0_copyFrom_111 rfl (lv_at hl 0 rfl) ?_
  refine va_get (D := g.1) (ci := 4) (v := .ref (a 7)) (C := RX0) (T := TX0) (N := 17) hx hb hts inX0 hown hK hP 0 rfl rfl 8 (by decide) (hts _ mw_64) (fun _ h9 => h9) rfl dX0_copyFrom_112 ?_
  refine lv_iconst (v := 0) hx hb dX0_copyFrom_115 (by decide) ?_
  refine lv_bipush (v := 8) hx hb dX0_copyFrom_116 (by decide) ?_
  refine va_copyi hx hb (hml.trans hl.1.symm) hown (hts _ mw_712) (hts _ mw_383) (hts _ mw_382) (hts _ mw_18) hK hP hD hS 16 7 0 0 rfl rfl rfl rfl rfl (by decide) (by decide) (by decide) (by decide) (by decide) (fun _ _ => rfl) (Nat.le_of_ble_eq_true rfl) (by decide +kernel) dX0_copyFrom_118 (fun H locs hP hD hS => ?_)
  have hP : va_P g.1 vwCl ([wBc g a (B_spans o) (va_cpy (B_lengths o) (B_lengths b) (0 : Int32).toNatClampNeg (0 : Int32).toNatClampNeg (10 : Int32).toNatClampNeg) (va_cpy (B_jars o) (B_jars b) (0 : Int32).toNatClampNeg (0 : Int32).toNatClampNeg (10 : Int32).toNatClampNeg) (va_cpy (B_ages o) (B_ages b) (0 : Int32).toNatClampNeg (0 : Int32).toNatClampNeg (10 : Int32).toNatClampNeg) (va_cpy (B_cracks o) (B_cracks b) (0 : Int32).toNatClampNeg (0 : Int32).toNatClampNeg (10 : Int32).toNatClampNeg) (va_cpy (B_stresses o) (B_stresses b) (0 : Int32).toNatClampNeg (0 : Int32).toNatClampNeg (10 : Int32).toNatClampNeg) (B_vehicles o) (va_cpy (B_numbers o) (B_numbers b) (0 : Int32).toNatClampNeg (0 : Int32).toNatClampNeg (8 : Int32).toNatClampNeg) (va_cpy (B_weights o) (B_weights b) (0 : Int32).toNatClampNeg (0 : Int32).toNatClampNeg (8 : Int32).toNatClampNeg) (B_places b) (B_nextNumber b) (B_hour b) (B_rate b) (B_till b) (B_paid b) (B_crossed b) (B_sunk b), wB g a2 o] : List va_W).flatten _ := hP
  have hD : va_D A ([wBc g a (B_spans o) (va_cpy (B_lengths o) (B_lengths b) (0 : Int32).toNatClampNeg (0 : Int32).toNatClampNeg (10 : Int32).toNatClampNeg) (va_cpy (B_jars o) (B_jars b) (0 : Int32).toNatClampNeg (0 : Int32).toNatClampNeg (10 : Int32).toNatClampNeg) (va_cpy (B_ages o) (B_ages b) (0 : Int32).toNatClampNeg (0 : Int32).toNatClampNeg (10 : Int32).toNatClampNeg) (va_cpy (B_cracks o) (B_cracks b) (0 : Int32).toNatClampNeg (0 : Int32).toNatClampNeg (10 : Int32).toNatClampNeg) (va_cpy (B_stresses o) (B_stresses b) (0 : Int32).toNatClampNeg (0 : Int32).toNatClampNeg (10 : Int32).toNatClampNeg) (B_vehicles o) (va_cpy (B_numbers o) (B_numbers b) (0 : Int32).toNatClampNeg (0 : Int32).toNatClampNeg (8 : Int32).toNatClampNeg) (va_cpy (B_weights o) (B_weights b) (0 : Int32).toNatClampNeg (0 : Int32).toNatClampNeg (8 : Int32).toNatClampNeg) (B_places b) (B_nextNumber b) (B_hour b) (B_rate b) (B_till b) (B_paid b) (B_crossed b) (B_sunk b), wB g a2 o] : List va_W).flatten := hD
  refine lv_aload_n hx hb dX0_copyFrom_121 rfl (lv_at hl 1 rfl) ?_
  refine va_get (D := g.1) (ci := 4) (v := .ref (a2 8)) (C := RX0) (T := TX0) (N := 17) hx hb hts inX0 hown hK hP 9 rfl rfl 9 (by decide) (hts _ mw_66) (fun _ h9 => h9) rfl dX0_copyFrom_122 ?_
  refine lv_iconst (v := 0) hx hb dX0_copyFrom_125 (by decide) ?_
  refine lv_aload_n hx hb dX0_copyFrom_126 rfl (lv_at hl 0 rfl) ?_
  refine va_get (D := g.1) (ci := 4) (v := .ref (a 8)) (C := RX0) (T := TX0) (N := 17) hx hb hts inX0 hown hK hP 0 rfl rfl 9 (by decide) (hts _ mw_66) (fun _ h9 => h9) rfl dX0_copyFrom_127 ?_
  refine lv_iconst (v := 0) hx hb dX0_copyFrom_130 (by decide) ?_
  refine lv_bipush (v := 8) hx hb dX0_copyFrom_131 (by decide) ?_
  refine va_copyi hx hb (hml.trans hl.1.symm) hown (hts _ mw_712) (hts _ mw_383) (hts _ mw_382) (hts _ mw_18) hK hP hD hS 17 8 0 0 rfl rfl rfl rfl rfl (by decide) (by decide) (by decide) (by decide) (by decide) (fun _ _ => rfl) (Nat.le_of_ble_eq_true rfl) (by decide +kernel) dX0_copyFrom_133 (fun H locs hP hD hS => ?_)
  have hP : va_P g.1 vwCl ([wBc g a (B_spans o) (va_cpy (B_lengths o) (B_lengths b) (0 : Int32).toNatClampNeg (0 : Int32).toNatClampNeg (10 : Int32).toNatClampNeg) (va_cpy (B_jars o) (B_jars b) (0 : Int32).toNatClampNeg (0 : Int32).toNatClampNeg (10 : Int32).toNatClampNeg) (va_cpy (B_ages o) (B_ages b) (0 : Int32).toNatClampNeg (0 : Int32).toNatClampNeg (10 : Int32).toNatClampNeg) (va_cpy (B_cracks o) (B_cracks b) (0 : Int32).toNatClampNeg (0 : Int32).toNatClampNeg (10 : Int32).toNatClampNeg) (va_cpy (B_stresses o) (B_stresses b) (0 : Int32).toNatClampNeg (0 : Int32).toNatClampNeg (10 : Int32).toNatClampNeg) (B_vehicles o) (va_cpy (B_numbers o) (B_numbers b) (0 : Int32).toNatClampNeg (0 : Int32).toNatClampNeg (8 : Int32).toNatClampNeg) (va_cpy (B_weights o) (B_weights b) (0 : Int32).toNatClampNeg (0 : Int32).toNatClampNeg (8 : Int32).toNatClampNeg) (va_cpy (B_places o) (B_places b) (0 : Int32).toNatClampNeg (0 : Int32).toNatClampNeg (8 : Int32).toNatClampNeg) (B_nextNumber b) (B_hour b) (B_rate b) (B_till b) (B_paid b) (B_crossed b) (B_sunk b), wB g a2 o] : List va_W).flatten _ := hP
  have hD : va_D A ([wBc g a (B_spans o) (va_cpy (B_lengths o) (B_lengths b) (0 : Int32).toNatClampNeg (0 : Int32).toNatClampNeg (10 : Int32).toNatClampNeg) (va_cpy (B_jars o) (B_jars b) (0 : Int32).toNatClampNeg (0 : Int32).toNatClampNeg (10 : Int32).toNatClampNeg) (va_cpy (B_ages o) (B_ages b) (0 : Int32).toNatClampNeg (0 : Int32).toNatClampNeg (10 : Int32).toNatClampNeg) (va_cpy (B_cracks o) (B_cracks b) (0 : Int32).toNatClampNeg (0 : Int32).toNatClampNeg (10 : Int32).toNatClampNeg) (va_cpy (B_stresses o) (B_stresses b) (0 : Int32).toNatClampNeg (0 : Int32).toNatClampNeg (10 : Int32).toNatClampNeg) (B_vehicles o) (va_cpy (B_numbers o) (B_numbers b) (0 : Int32).toNatClampNeg (0 : Int32).toNatClampNeg (8 : Int32).toNatClampNeg) (va_cpy (B_weights o) (B_weights b) (0 : Int32).toNatClampNeg (0 : Int32).toNatClampNeg (8 : Int32).toNatClampNeg) (va_cpy (B_places o) (B_places b) (0 : Int32).toNatClampNeg (0 : Int32).toNatClampNeg (8 : Int32).toNatClampNeg) (B_nextNumber b) (B_hour b) (B_rate b) (B_till b) (B_paid b) (B_crossed b) (B_sunk b), wB g a2 o] : List va_W).flatten := hD
  refine lv_aload_n hx hb dX0_copyFrom_136 rfl (lv_at hl 0 rfl) ?_
  refine lv_aload_n hx hb dX0_copyFrom_137 rfl (lv_at hl 1 rfl) ?_
  refine va_get (D := g.1) (ci := 4) (v := .int (B_nextNumber o)) (C := RX0) (T := TX0) (N := 17) hx hb hts inX0 hown hK hP 9 rfl rfl 10 (by decide) (hts _ mw_68) (fun _ h9 => h9) rfl dX0_copyFrom_138 ?_
  refine va_put (D := g.1) (ci := 4) (v := .int (B_nextNumber o)) (ty := .int) (C := RX0) (T := TX0) (N := 17) hx hb hts inX0 tyX0 tyX0_ok nmX0 hown hK hP hD hS 0 rfl rfl 10 (by decide) (hts _ mw_68) (fun _ h9 => h9) rfl (by decide +kernel) rfl rfl (Nat.le_of_ble_eq_true rfl) dX0_copyFrom_141 (fun H locs hP hD hS => ?_)
  have hP : va_P g.1 vwCl ([wBc g a (B_spans o) (va_cpy (B_lengths o) (B_lengths b) (0 : Int32).toNatClampNeg (0 : Int32).toNatClampNeg (10 : Int32).toNatClampNeg) (va_cpy (B_jars o) (B_jars b) (0 : Int32).toNatClampNeg (0 : Int32).toNatClampNeg (10 : Int32).toNatClampNeg) (va_cpy (B_ages o) (B_ages b) (0 : Int32).toNatClampNeg (0 : Int32).toNatClampNeg (10 : Int32).toNatClampNeg) (va_cpy (B_cracks o) (B_cracks b) (0 : Int32).toNatClampNeg (0 : Int32).toNatClampNeg (10 : Int32).toNatClampNeg) (va_cpy (B_stresses o) (B_stresses b) (0 : Int32).toNatClampNeg (0 : Int32).toNatClampNeg (10 : Int32).toNatClampNeg) (B_vehicles o) (va_cpy (B_numbers o) (B_numbers b) (0 : Int32).toNatClampNeg (0 : Int32).toNatClampNeg (8 : Int32).toNatClampNeg) (va_cpy (B_weights o) (B_weights b) (0 : Int32).toNatClampNeg (0 : Int32).toNatClampNeg (8 : Int32).toNatClampNeg) (va_cpy (B_places o) (B_places b) (0 : Int32).toNatClampNeg (0 : Int32).toNatClampNeg (8 : Int32).toNatClampNeg) (B_nextNumber o) (B_hour b) (B_rate b) (B_till b) (B_paid b) (B_crossed b) (B_sunk b), wB g a2 o] : List va_W).flatten _ := hP
  have hD : va_D A ([wBc g a (B_spans o) (va_cpy (B_lengths o) (B_lengths b) (0 : Int32).toNatClampNeg (0 : Int32).toNatClampNeg (10 : Int32).toNatClampNeg) (va_cpy (B_jars o) (B_jars b) (0 : Int32).toNatClampNeg (0 : Int32).toNatClampNeg (10 : Int32).toNatClampNeg) (va_cpy (B_ages o) (B_ages b) (0 : Int32).toNatClampNeg (0 : Int32).toNatClampNeg (10 : Int32).toNatClampNeg) (va_cpy (B_cracks o) (B_cracks b) (0 : Int32).toNatClampNeg (0 : Int32).toNatClampNeg (10 : Int32).toNatClampNeg) (va_cpy (B_stresses o) (B_stresses b) (0 : Int32).toNatClampNeg (0 : Int32).toNatClampNeg (10 : Int32).toNatClampNeg) (B_vehicles o) (va_cpy (B_numbers o) (B_numbers b) (0 : Int32).toNatClampNeg (0 : Int32).toNatClampNeg (8 : Int32).toNatClampNeg) (va_cpy (B_weights o) (B_weights b) (0 : Int32).toNatClampNeg (0 : Int32).toNatClampNeg (8 : Int32).toNatClampNeg) (va_cpy (B_places o) (B_places b) (0 : Int32).toNatClampNeg (0 : Int32).toNatClampNeg (8 : Int32).toNatClampNeg) (B_nextNumber o) (B_hour b) (B_rate b) (B_till b) (B_paid b) (B_crossed b) (B_sunk b), wB g a2 o] : List va_W).flatten := hD
  refine lv_aload_n hx hb dX0_copyFrom_144 rfl (lv_at hl 0 rfl) ?_
  refine lv_aload_n hx hb dX0_copyFrom_145 rfl (lv_at hl 1 rfl) ?_
  refine va_get (D := g.1) (ci := 4) (v := .int (B_hour o)) (C := RX0) (T := TX0) (N := 17) hx hb hts inX0 hown hK hP 9 rfl rfl 11 (by decide) (hts _ mw_69) (fun _ h9 => h9) rfl dX0_copyFrom_146 ?_
  refine va_put (D := g.1) (ci := 4) (v := .int (B_hour o)) (ty := .int) (C := RX0) (T := TX0) (N := 17) hx hb hts inX0 tyX0 tyX0_ok nmX0 hown hK hP hD hS 0 rfl rfl 11 (by decide) (hts _ mw_69) (fun _ h9 => h9) rfl (by decide +kernel) rfl rfl (Nat.le_of_ble_eq_true rfl) dX0_copyFrom_149 (fun H locs hP hD hS => ?_)
  have hP : va_P g.1 vwCl ([wBc g a (B_spans o) (va_cpy (B_lengths o) (B_lengths b) (0 : Int32).toNatClampNeg (0 : Int32).toNatClampNeg (10 : Int32).toNatClampNeg) (va_cpy (B_jars o) (B_jars b) (0 : Int32).toNatClampNeg (0 : Int32).toNatClampNeg (10 : Int32).toNatClampNeg) (va_cpy (B_ages o) (B_ages b) (0 : Int32).toNatClampNeg (0 : Int32).toNatClampNeg (10 : Int32).toNatClampNeg) (va_cpy (B_cracks o) (B_cracks b) (0 : Int32).toNatClampNeg (0 : Int32).toNatClampNeg (10 : Int32).toNatClampNeg) (va_cpy (B_stresses o) (B_stresses b) (0 : Int32).toNatClampNeg (0 : Int32).toNatClampNeg (10 : Int32).toNatClampNeg) (B_vehicles o) (va_cpy (B_numbers o) (B_numbers b) (0 : Int32).toNatClampNeg (0 : Int32).toNatClampNeg (8 : Int32).toNatClampNeg) (va_cpy (B_weights o) (B_weights b) (0 : Int32).toNatClampNeg (0 : Int32).toNatClampNeg (8 : Int32).toNatClampNeg) (va_cpy (B_places o) (B_places b) (0 : Int32).toNatClampNeg (0 : Int32).toNatClampNeg (8 : Int32).toNatClampNeg) (B_nextNumber o) (B_hour o) (B_rate b) (B_till b) (B_paid b) (B_crossed b) (B_sunk b), wB g a2 o] : List va_W).flatten _ := hP
  have hD : va_D A ([wBc g a (B_spans o) (va_cpy (B_lengths o) (B_lengths b) (0 : Int32).toNatClampNeg (0 : Int32).toNatClampNeg (10 : Int32).toNatClampNeg) (va_cpy (B_jars o) (B_jars b) (0 : Int32).toNatClampNeg (0 : Int32).toNatClampNeg (10 : Int32).toNatClampNeg) (va_cpy (B_ages o) (B_ages b) (0 : Int32).toNatClampNeg (0 : Int32).toNatClampNeg (10 : Int32).toNatClampNeg) (va_cpy (B_cracks o) (B_cracks b) (0 : Int32).toNatClampNeg (0 : Int32).toNatClampNeg (10 : Int32).toNatClampNeg) (va_cpy (B_stresses o) (B_stresses b) (0 : Int32).toNatClampNeg (0 : Int32).toNatClampNeg (10 : Int32).toNatClampNeg) (B_vehicles o) (va_cpy (B_numbers o) (B_numbers b) (0 : Int32).toNatClampNeg (0 : Int32).toNatClampNeg (8 : Int32).toNatClampNeg) (va_cpy (B_weights o) (B_weights b) (0 : Int32).toNatClampNeg (0 : Int32).toNatClampNeg (8 : Int32).toNatClampNeg) (va_cpy (B_places o) (B_places b) (0 : Int32).toNatClampNeg (0 : Int32).toNatClampNeg (8 : Int32).toNatClampNeg) (B_nextNumber o) (B_hour o) (B_rate b) (B_till b) (B_paid b) (B_crossed b) (B_sunk b), wB g a2 o] : List va_W).flatten := hD
  refine lv_aload_n hx hb dX0_copyFrom_152 rfl (lv_at hl 0 rfl) ?_
  refine lv_aload_n hx hb dX0_copyFrom_153 rfl (lv_at hl 1 rfl) ?_
  refine va_get (D := g.1) (ci := 4) (v := .int (B_rate o)) (C := RX0) (T := TX0) (N := 17) hx hb hts inX0 hown hK hP 9 rfl rfl 12 (by decide) (hts _ mw_72) (fun _ h9 => h9) rfl dX0_copyFrom_154 ?_
  refine va_put (D := g.1) (ci := 4) (v := .int (B_rate o)) (ty := .int) (C := RX0) (T := TX0) (N := 17) hx hb hts inX0 tyX0 tyX0_ok nmX0 hown hK hP hD hS 0 rfl rfl 12 (by decide) (hts _ mw_72) (fun _ h9 => h9) rfl (by decide +kernel) rfl rfl (Nat.le_of_ble_eq_true rfl) dX0_copyFrom_157 (fun H locs hP hD hS => ?_)
  have hP : va_P g.1 vwCl ([wBc g a (B_spans o) (va_cpy (B_lengths o) (B_lengths b) (0 : Int32).toNatClampNeg (0 : Int32).toNatClampNeg (10 : Int32).toNatClampNeg) (va_cpy (B_jars o) (B_jars b) (0 : Int32).toNatClampNeg (0 : Int32).toNatClampNeg (10 : Int32).toNatClampNeg) (va_cpy (B_ages o) (B_ages b) (0 : Int32).toNatClampNeg (0 : Int32).toNatClampNeg (10 : Int32).toNatClampNeg) (va_cpy (B_cracks o) (B_cracks b) (0 : Int32).toNatClampNeg (0 : Int32).toNatClampNeg (10 : Int32).toNatClampNeg) (va_cpy (B_stresses o) (B_stresses b) (0 : Int32).toNatClampNeg (0 : Int32).toNatClampNeg (10 : Int32).toNatClampNeg) (B_vehicles o) (va_cpy (B_numbers o) (B_numbers b) (0 : Int32).toNatClampNeg (0 : Int32).toNatClampNeg (8 : Int32).toNatClampNeg) (va_cpy (B_weights o) (B_weights b) (0 : Int32).toNatClampNeg (0 : Int32).toNatClampNeg (8 : Int32).toNatClampNeg) (va_cpy (B_places o) (B_places b) (0 : Int32).toNatClampNeg (0 : Int32).toNatClampNeg (8 : Int32).toNatClampNeg) (B_nextNumber o) (B_hour o) (B_rate o) (B_till b) (B_paid b) (B_crossed b) (B_sunk b), wB g a2 o] : List va_W).flatten _ := hP
  have hD : va_D A ([wBc g a (B_spans o) (va_cpy (B_lengths o) (B_lengths b) (0 : Int32).toNatClampNeg (0 : Int32).toNatClampNeg (10 : Int32).toNatClampNeg) (va_cpy (B_jars o) (B_jars b) (0 : Int32).toNatClampNeg (0 : Int32).toNatClampNeg (10 : Int32).toNatClampNeg) (va_cpy (B_ages o) (B_ages b) (0 : Int32).toNatClampNeg (0 : Int32).toNatClampNeg (10 : Int32).toNatClampNeg) (va_cpy (B_cracks o) (B_cracks b) (0 : Int32).toNatClampNeg (0 : Int32).toNatClampNeg (10 : Int32).toNatClampNeg) (va_cpy (B_stresses o) (B_stresses b) (0 : Int32).toNatClampNeg (0 : Int32).toNatClampNeg (10 : Int32).toNatClampNeg) (B_vehicles o) (va_cpy (B_numbers o) (B_numbers b) (0 : Int32).toNatClampNeg (0 : Int32).toNatClampNeg (8 : Int32).toNatClampNeg) (va_cpy (B_weights o) (B_weights b) (0 : Int32).toNatClampNeg (0 : Int32).toNatClampNeg (8 : Int32).toNatClampNeg) (va_cpy (B_places o) (B_places b) (0 : Int32).toNatClampNeg (0 : Int32).toNatClampNeg (8 : Int32).toNatClampNeg) (B_nextNumber o) (B_hour o) (B_rate o) (B_till b) (B_paid b) (B_crossed b) (B_sunk b), wB g a2 o] : List va_W).flatten := hD
  refine lv_aload_n hx hb dX0_copyFrom_160 rfl (lv_at hl 0 rfl) ?_
  refine lv_aload_n hx hb dX0_copyFrom_161 rfl (lv_at hl 1 rfl) ?_
  refine va_get (D := g.1) (ci := 4) (v := .int (B_till o)) (C := RX0) (T := TX0) (N := 17) hx hb hts inX0 hown hK hP 9 rfl rfl 13 (by decide) (hts _ mw_75) (fun _ h9 => h9) rfl dX0_copyFrom_162 ?_
  refine va_put (D := g.1) (ci := 4) (v := .int (B_till o)) (ty := .int) (C := RX0) (T := TX0) (N := 17) hx hb hts inX0 tyX0 tyX0_ok nmX0 hown hK hP hD hS 0 rfl rfl 13 (by decide) (hts _ mw_75) (fun _ h9 => h9) rfl (by decide +kernel) rfl rfl (Nat.le_of_ble_eq_true rfl) dX0_copyFrom_165 (fun H locs hP hD hS => ?_)
  have hP : va_P g.1 vwCl ([wBc g a (B_spans o) (va_cpy (B_lengths o) (B_lengths b) (0 : Int32).toNatClampNeg (0 : Int32).toNatClampNeg (10 : Int32).toNatClampNeg) (va_cpy (B_jars o) (B_jars b) (0 : Int32).toNatClampNeg (0 : Int32).toNatClampNeg (10 : Int32).toNatClampNeg) (va_cpy (B_ages o) (B_ages b) (0 : Int32).toNatClampNeg (0 : Int32).toNatClampNeg (10 : Int32).toNatClampNeg) (va_cpy (B_cracks o) (B_cracks b) (0 : Int32).toNatClampNeg (0 : Int32).toNatClampNeg (10 : Int32).toNatClampNeg) (va_cpy (B_stresses o) (B_stresses b) (0 : Int32).toNatClampNeg (0 : Int32).toNatClampNeg (10 : Int32).toNatClampNeg) (B_vehicles o) (va_cpy (B_numbers o) (B_numbers b) (0 : Int32).toNatClampNeg (0 : Int32).toNatClampNeg (8 : Int32).toNatClampNeg) (va_cpy (B_weights o) (B_weights b) (0 : Int32).toNatClampNeg (0 : Int32).toNatClampNeg (8 : Int32).toNatClampNeg) (va_cpy (B_places o) (B_places b) (0 : Int32).toNatClampNeg (0 : Int32).toNatClampNeg (8 : Int32).toNatClampNeg) (B_nextNumber o) (B_hour o) (B_rate o) (B_till o) (B_paid b) (B_crossed b) (B_sunk b), wB g a2 o] : List va_W).flatten _ := hP
  have hD : va_D A ([wBc g a (B_spans o) (va_cpy (B_lengths o) (B_lengths b) (0 : Int32).toNatClampNeg (0 : Int32).toNatClampNeg (10 : Int32).toNatClampNeg) (va_cpy (B_jars o) (B_jars b) (0 : Int32).toNatClampNeg (0 : Int32).toNatClampNeg (10 : Int32).toNatClampNeg) (va_cpy (B_ages o) (B_ages b) (0 : Int32).toNatClampNeg (0 : Int32).toNatClampNeg (10 : Int32).toNatClampNeg) (va_cpy (B_cracks o) (B_cracks b) (0 : Int32).toNatClampNeg (0 : Int32).toNatClampNeg (10 : Int32).toNatClampNeg) (va_cpy (B_stresses o) (B_stresses b) (0 : Int32).toNatClampNeg (0 : Int32).toNatClampNeg (10 : Int32).toNatClampNeg) (B_vehicles o) (va_cpy (B_numbers o) (B_numbers b) (0 : Int32).toNatClampNeg (0 : Int32).toNatClampNeg (8 : Int32).toNatClampNeg) (va_cpy (B_weights o) (B_weights b) (0 : Int32).toNatClampNeg (0 : Int32).toNatClampNeg (8 : Int32).toNatClampNeg) (va_cpy (B_places o) (B_places b) (0 : Int32).toNatClampNeg (0 : Int32).toNatClampNeg (8 : Int32).toNatClampNeg) (B_nextNumber o) (B_hour o) (B_rate o) (B_till o) (B_paid b) (B_crossed b) (B_sunk b), wB g a2 o] : List va_W).flatten := hD
  refine lv_aload_n hx hb dX0_copyFrom_168 rfl (lv_at hl 0 rfl) ?_
  refine lv_aload_n hx hb dX0_copyFrom_169 rfl (lv_at hl 1 rfl) ?_
  refine va_get (D := g.1) (ci := 4) (v := .int (B_paid o)) (C := RX0) (T := TX0) (N := 17) hx hb hts inX0 hown hK hP 9 rfl rfl 14 (by decide) (hts _ mw_78) (fun _ h9 => h9) rfl dX0_copyFrom_170 ?_
  refine va_put (D := g.1) (ci := 4) (v := .int (B_paid o)) (ty := .int) (C := RX0) (T := TX0) (N := 17) hx hb hts inX0 tyX0 tyX0_ok nmX0 hown hK hP hD hS 0 rfl rfl 14 (by decide) (hts _ mw_78) (fun _ h9 => h9) rfl (by decide +kernel) rfl rfl (Nat.le_of_ble_eq_true rfl) dX0_copyFrom_173 (fun H locs hP hD hS => ?_)
  have hP : va_P g.1 vwCl ([wBc g a (B_spans o) (va_cpy (B_lengths o) (B_lengths b) (0 : Int32).toNatClampNeg (0 : Int32).toNatClampNeg (10 : Int32).toNatClampNeg) (va_cpy (B_jars o) (B_jars b) (0 : Int32).toNatClampNeg (0 : Int32).toNatClampNeg (10 : Int32).toNatClampNeg) (va_cpy (B_ages o) (B_ages b) (0 : Int32).toNatClampNeg (0 : Int32).toNatClampNeg (10 : Int32).toNatClampNeg) (va_cpy (B_cracks o) (B_cracks b) (0 : Int32).toNatClampNeg (0 : Int32).toNatClampNeg (10 : Int32).toNatClampNeg) (va_cpy (B_stresses o) (B_stresses b) (0 : Int32).toNatClampNeg (0 : Int32).toNatClampNeg (10 : Int32).toNatClampNeg) (B_vehicles o) (va_cpy (B_numbers o) (B_numbers b) (0 : Int32).toNatClampNeg (0 : Int32).toNatClampNeg (8 : Int32).toNatClampNeg) (va_cpy (B_weights o) (B_weights b) (0 : Int32).toNatClampNeg (0 : Int32).toNatClampNeg (8 : Int32).toNatClampNeg) (va_cpy (B_places o) (B_places b) (0 : Int32).toNatClampNeg (0 : Int32).toNatClampNeg (8 : Int32).toNatClampNeg) (B_nextNumber o) (B_hour o) (B_rate o) (B_till o) (B_paid o) (B_crossed b) (B_sunk b), wB g a2 o] : List va_W).flatten _ := hP
  have hD : va_D A ([wBc g a (B_spans o) (va_cpy (B_lengths o) (B_lengths b) (0 : Int32).toNatClampNeg (0 : Int32).toNatClampNeg (10 : Int32).toNatClampNeg) (va_cpy (B_jars o) (B_jars b) (0 : Int32).toNatClampNeg (0 : Int32).toNatClampNeg (10 : Int32).toNatClampNeg) (va_cpy (B_ages o) (B_ages b) (0 : Int32).toNatClampNeg (0 : Int32).toNatClampNeg (10 : Int32).toNatClampNeg) (va_cpy (B_cracks o) (B_cracks b) (0 : Int32).toNatClampNeg (0 : Int32).toNatClampNeg (10 : Int32).toNatClampNeg) (va_cpy (B_stresses o) (B_stresses b) (0 : Int32).toNatClampNeg (0 : Int32).toNatClampNeg (10 : Int32).toNatClampNeg) (B_vehicles o) (va_cpy (B_numbers o) (B_numbers b) (0 : Int32).toNatClampNeg (0 : Int32).toNatClampNeg (8 : Int32).toNatClampNeg) (va_cpy (B_weights o) (B_weights b) (0 : Int32).toNatClampNeg (0 : Int32).toNatClampNeg (8 : Int32).toNatClampNeg) (va_cpy (B_places o) (B_places b) (0 : Int32).toNatClampNeg (0 : Int32).toNatClampNeg (8 : Int32).toNatClampNeg) (B_nextNumber o) (B_hour o) (B_rate o) (B_till o) (B_paid o) (B_crossed b) (B_sunk b), wB g a2 o] : List va_W).flatten := hD
  refine lv_aload_n hx hb dX0_copyFrom_176 rfl (lv_at hl 0 rfl) ?_
  refine lv_aload_n hx hb dX0_copyFrom_177 rfl (lv_at hl 1 rfl) ?_
  refine va_get (D := g.1) (ci := 4) (v := .int (B_crossed o)) (C := RX0) (T := TX0) (N := 17) hx hb hts inX0 hown hK hP 9 rfl rfl 15 (by decide) (hts _ mw_80) (fun _ h9 => h9) rfl dX0_copyFrom_178 ?_
  refine va_put (D := g.1) (ci := 4) (v := .int (B_crossed o)) (ty := .int) (C := RX0) (T := TX0) (N := 17) hx hb hts inX0 tyX0 tyX0_ok nmX0 hown hK hP hD hS 0 rfl rfl 15 (by decide) (hts _ mw_80) (fun _ h9 => h9) rfl (by decide +kernel) rfl rfl (Nat.le_of_ble_eq_true rfl) dX0_copyFrom_181 (fun H locs hP hD hS => ?_)
  have hP : va_P g.1 vwCl ([wBc g a (B_spans o) (va_cpy (B_lengths o) (B_lengths b) (0 : Int32).toNatClampNeg (0 : Int32).toNatClampNeg (10 : Int32).toNatClampNeg) (va_cpy (B_jars o) (B_jars b) (0 : Int32).toNatClampNeg (0 : Int32).toNatClampNeg (10 : Int32).toNatClampNeg) (va_cpy (B_ages o) (B_ages b) (0 : Int32).toNatClampNeg (0 : Int32).toNatClampNeg (10 : Int32).toNatClampNeg) (va_cpy (B_cracks o) (B_cracks b) (0 : Int32).toNatClampNeg (0 : Int32).toNatClampNeg (10 : Int32).toNatClampNeg) (va_cpy (B_stresses o) (B_stresses b) (0 : Int32).toNatClampNeg (0 : Int32).toNatClampNeg (10 : Int32).toNatClampNeg) (B_vehicles o) (va_cpy (B_numbers o) (B_numbers b) (0 : Int32).toNatClampNeg (0 : Int32).toNatClampNeg (8 : Int32).toNatClampNeg) (va_cpy (B_weights o) (B_weights b) (0 : Int32).toNatClampNeg (0 : Int32).toNatClampNeg (8 : Int32).toNatClampNeg) (va_cpy (B_places o) (B_places b) (0 : Int32).toNatClampNeg (0 : Int32).toNatClampNeg (8 : Int32).toNatClampNeg) (B_nextNumber o) (B_hour o) (B_rate o) (B_till o) (B_paid o) (B_crossed o) (B_sunk b), wB g a2 o] : List va_W).flatten _ := hP
  have hD : va_D A ([wBc g a (B_spans o) (va_cpy (B_lengths o) (B_lengths b) (0 : Int32).toNatClampNeg (0 : Int32).toNatClampNeg (10 : Int32).toNatClampNeg) (va_cpy (B_jars o) (B_jars b) (0 : Int32).toNatClampNeg (0 : Int32).toNatClampNeg (10 : Int32).toNatClampNeg) (va_cpy (B_ages o) (B_ages b) (0 : Int32).toNatClampNeg (0 : Int32).toNatClampNeg (10 : Int32).toNatClampNeg) (va_cpy (B_cracks o) (B_cracks b) (0 : Int32).toNatClampNeg (0 : Int32).toNatClampNeg (10 : Int32).toNatClampNeg) (va_cpy (B_stresses o) (B_stresses b) (0 : Int32).toNatClampNeg (0 : Int32).toNatClampNeg (10 : Int32).toNatClampNeg) (B_vehicles o) (va_cpy (B_numbers o) (B_numbers b) (0 : Int32).toNatClampNeg (0 : Int32).toNatClampNeg (8 : Int32).toNatClampNeg) (va_cpy (B_weights o) (B_weights b) (0 : Int32).toNatClampNeg (0 : Int32).toNatClampNeg (8 : Int32).toNatClampNeg) (va_cpy (B_places o) (B_places b) (0 : Int32).toNatClampNeg (0 : Int32).toNatClampNeg (8 : Int32).toNatClampNeg) (B_nextNumber o) (B_hour o) (B_rate o) (B_till o) (B_paid o) (B_crossed o) (B_sunk b), wB g a2 o] : List va_W).flatten := hD
  refine lv_aload_n hx hb dX0_copyFrom_184 rfl (lv_at hl 0 rfl) ?_
  refine lv_aload_n hx hb dX0_copyFrom_185 rfl (lv_at hl 1 rfl) ?_
  refine va_get (D := g.1) (ci := 4) (v := .int (B_sunk o)) (C := RX0) (T := TX0) (N := 17) hx hb hts inX0 hown hK hP 9 rfl rfl 16 (by decide) (hts _ mw_82) (fun _ h9 => h9) rfl dX0_copyFrom_186 ?_
  refine va_put (D := g.1) (ci := 4) (v := .int (B_sunk o)) (ty := .int) (C := RX0) (T := TX0) (N := 17) hx hb hts inX0 tyX0 tyX0_ok nmX0 hown hK hP hD hS 0 rfl rfl 16 (by decide) (hts _ mw_82) (fun _ h9 => h9) rfl (by decide +kernel) rfl rfl (Nat.le_of_ble_eq_true rfl) dX0_copyFrom_189 (fun H locs hP hD hS => ?_)
  have hP : va_P g.1 vwCl ([wBc g a (B_spans o) (va_cpy (B_lengths o) (B_lengths b) (0 : Int32).toNatClampNeg (0 : Int32).toNatClampNeg (10 : Int32).toNatClampNeg) (va_cpy (B_jars o) (B_jars b) (0 : Int32).toNatClampNeg (0 : Int32).toNatClampNeg (10 : Int32).toNatClampNeg) (va_cpy (B_ages o) (B_ages b) (0 : Int32).toNatClampNeg (0 : Int32).toNatClampNeg (10 : Int32).toNatClampNeg) (va_cpy (B_cracks o) (B_cracks b) (0 : Int32).toNatClampNeg (0 : Int32).toNatClampNeg (10 : Int32).toNatClampNeg) (va_cpy (B_stresses o) (B_stresses b) (0 : Int32).toNatClampNeg (0 : Int32).toNatClampNeg (10 : Int32).toNatClampNeg) (B_vehicles o) (va_cpy (B_numbers o) (B_numbers b) (0 : Int32).toNatClampNeg (0 : Int32).toNatClampNeg (8 : Int32).toNatClampNeg) (va_cpy (B_weights o) (B_weights b) (0 : Int32).toNatClampNeg (0 : Int32).toNatClampNeg (8 : Int32).toNatClampNeg) (va_cpy (B_places o) (B_places b) (0 : Int32).toNatClampNeg (0 : Int32).toNatClampNeg (8 : Int32).toNatClampNeg) (B_nextNumber o) (B_hour o) (B_rate o) (B_till o) (B_paid o) (B_crossed o) (B_sunk o), wB g a2 o] : List va_W).flatten _ := hP
  have hD : va_D A ([wBc g a (B_spans o) (va_cpy (B_lengths o) (B_lengths b) (0 : Int32).toNatClampNeg (0 : Int32).toNatClampNeg (10 : Int32).toNatClampNeg) (va_cpy (B_jars o) (B_jars b) (0 : Int32).toNatClampNeg (0 : Int32).toNatClampNeg (10 : Int32).toNatClampNeg) (va_cpy (B_ages o) (B_ages b) (0 : Int32).toNatClampNeg (0 : Int32).toNatClampNeg (10 : Int32).toNatClampNeg) (va_cpy (B_cracks o) (B_cracks b) (0 : Int32).toNatClampNeg (0 : Int32).toNatClampNeg (10 : Int32).toNatClampNeg) (va_cpy (B_stresses o) (B_stresses b) (0 : Int32).toNatClampNeg (0 : Int32).toNatClampNeg (10 : Int32).toNatClampNeg) (B_vehicles o) (va_cpy (B_numbers o) (B_numbers b) (0 : Int32).toNatClampNeg (0 : Int32).toNatClampNeg (8 : Int32).toNatClampNeg) (va_cpy (B_weights o) (B_weights b) (0 : Int32).toNatClampNeg (0 : Int32).toNatClampNeg (8 : Int32).toNatClampNeg) (va_cpy (B_places o) (B_places b) (0 : Int32).toNatClampNeg (0 : Int32).toNatClampNeg (8 : Int32).toNatClampNeg) (B_nextNumber o) (B_hour o) (B_rate o) (B_till o) (B_paid o) (B_crossed o) (B_sunk o), wB g a2 o] : List va_W).flatten := hD
  cases hF
  rw [hQ]
  exact jb_vret hx hb hr hlocks hP hD hS dX0_copyFrom_192 (Nat.le_of_ble_eq_true rfl) (Nat.le_of_ble_eq_true rfl)
theorem in8 {x : Int32} (h : inb x 8 = true) : x = 0 ∨ x = 1 ∨ x = 2 ∨ x = 3 ∨ x = 4 ∨ x = 5 ∨ x = 6 ∨ x = 7 := by
  obtain ⟨j, hj, rfl⟩ := vp_in_of (inb_in h) (by decide)
  have : j = 0 ∨ j = 1 ∨ j = 2 ∨ j = 3 ∨ j = 4 ∨ j = 5 ∨ j = 6 ∨ j = 7 := by omega
  rcases this with rfl | rfl | rfl | rfl | rfl | rfl | rfl | rfl <;> decide
def F_X1_keep (h : Hv) (b : Bv) : Option Hv := ck (inb ((H_newest h + 1) - (H_newest h + 1) / 8 * 8) 8) ((F_X0_copyFrom (H_st h ((H_newest h + 1) - (H_newest h + 1) / 8 * 8).toNatClampNeg) b).bind (fun z1 => some (mkH ((H_newest h + 1) - (H_newest h + 1) / 8 * 8) (imin (H_count h + 1) 8) (va_up (H_st h) ((H_newest h + 1) - (H_newest h + 1) / 8 * 8).toNatClampNeg z1))))
def F_X1_giveBack (h : Hv) (b : Bv) : Option (Hv × Bv) := if H_count h ≤ 0 then some (h, b) else ck (inb (H_newest h) 8) ((F_X0_copyFrom b (H_st h (H_newest h).toNatClampNeg)).bind (fun z1 => some (mkH (((H_newest h + 8) - 1) - ((H_newest h + 8) - 1) / 8 * 8) (H_count h - 1) (H_st h), z1)))
set_option maxHeartbeats 8000000 in
set_option maxRecDepth 100000 in
theorem c_X1_keep (g : GG) (l : Launch) (a : Nat → Nat) (a2 : Nat → Nat) (h : Hv) (b : Bv) (z : Hv) (hF : F_X1_keep h b = some z) : MV g l yX1_keep cX1_keep 2 none ({ frames := 3, cells := 0, slots := 0, locals := 121 } : Room) [.ref (a 0), .ref (a2 0)] [wH g a h, wB g a2 b] 0 0 [wH g a z, wB g a2 b] := by
  refine MV.bg (by decide) (Nat.le_of_ble_eq_true rfl) ?_
  intro p e s m below meth c A Q hQ hx hb hr hml hown hts hlocks hmn hK hE hA hP hD hS ls hl
  rw [F_X1_keep] at hF
  have hl : lv_has ls 2 [(0, .ref (a 0)), (1, .ref (a2 0))] := hl
  have hP : va_P g.1 vwCl ([wH0 g a (H_newest h) (H_count h), wHb g a 0 (H_st h 0), wHb g a 1 (H_st h 1), wHb g a 2 (H_st h 2), wHb g a 3 (H_st h 3), wHb g a 4 (H_st h 4), wHb g a 5 (H_st h 5), wHb g a 6 (H_st h 6), wHb g a 7 (H_st h 7), wB g a2 b] : List va_W).flatten _ := hP
  have hD : va_D A ([wH0 g a (H_newest h) (H_count h), wHb g a 0 (H_st h 0), wHb g a 1 (H_st h 1), wHb g a 2 (H_st h 2), wHb g a 3 (H_st h 3), wHb g a 4 (H_st h 4), wHb g a 5 (H_st h 5), wHb g a 6 (H_st h 6), wHb g a 7 (H_st h 7), wB g a2 b] : List va_W).flatten := hD
  refine lv_aload_n hx hb dX1_keep_0 rfl (lv_at hl 0 rfl) ?_
  refine lv_aload_n hx hb dX1_keep_1 rfl (lv_at hl 0 rfl) ?_
  refine va_get (D := g.1) (ci := 5) (v := .int (H_newest h)) (C := RX1) (T := TX1) (N := 3) hx hb hts inX1 hown hK hP 0 rfl rfl 1 (by decide) (hts _ mw_130) (fun _ h9 => h9) rfl dX1_keep_2 ?_
  refine lv_iconst (v := 1) hx hb dX1_keep_5 (by decide) ?_
  refine lv_iadd hx hb dX1_keep_6 ?_
  refine lv_bipush (v := 8) hx hb dX1_keep_7 (by decide) ?_
  refine lv_irem hx hb dX1_keep_9 (by decide) ?_
  have h8 := ck_t hF
  have hF := ck_s hF
  obtain ⟨z1, hz1, hF⟩ := ob_bind hF
  cases hF
  generalize ex : (H_newest h + 1) - (H_newest h + 1) / 8 * 8 = x at h8 hz1 hQ ⊢
  rcases in8 h8 with rfl | rfl | rfl | rfl | rfl | rfl | rfl | rfl
  · refine va_put (D := g.1) (ci := 5) (v := .int 0) (ty := .int) (C := RX1) (T := TX1) (N := 3) hx hb hts inX1 tyX1 tyX1_ok nmX1 hown hK hP hD hS 0 rfl rfl 1 (by decide) (hts _ mw_130) (fun _ h9 => h9) rfl (by decide +kernel) rfl rfl (Nat.le_of_ble_eq_true rfl) dX1_keep_10 (fun H locs hP hD hS => ?_)
    have hP : va_P g.1 vwCl ([wH0 g a 0 (H_count h), wHb g a 0 (H_st h 0), wHb g a 1 (H_st h 1), wHb g a 2 (H_st h 2), wHb g a 3 (H_st h 3), wHb g a 4 (H_st h 4), wHb g a 5 (H_st h 5), wHb g a 6 (H_st h 6), wHb g a 7 (H_st h 7), wB g a2 b] : List va_W).flatten _ := hP
    have hD : va_D A ([wH0 g a 0 (H_count h), wHb g a 0 (H_st h 0), wHb g a 1 (H_st h 1), wHb g a 2 (H_st h 2), wHb g a 3 (H_st h 3), wHb g a 4 (H_st h 4), wHb g a 5 (H_st h 5), wHb g a 6 (H_st h 6), wHb g a 7 (H_st h 7), wB g a2 b] : List va_W).flatten := hD
    refine lv_aload_n hx hb dX1_keep_13 rfl (lv_at hl 0 rfl) ?_
    refine va_get (D := g.1) (ci := 5) (v := .ref (a 1)) (C := RX1) (T := TX1) (N := 3) hx hb hts inX1 hown hK hP 0 rfl rfl 0 (by decide) (hts _ mw_129) (fun _ h9 => h9) rfl dX1_keep_14 ?_
    refine lv_aload_n hx hb dX1_keep_17 rfl (lv_at hl 0 rfl) ?_
    refine va_get (D := g.1) (ci := 5) (v := .int 0) (C := RX1) (T := TX1) (N := 3) hx hb hts inX1 hown hK hP 0 rfl rfl 1 (by decide) (hts _ mw_130) (fun _ h9 => h9) rfl dX1_keep_18 ?_
    refine va_aldq hx hb hK hP 1 3 rfl rfl (inb_in h8) dX1_keep_21 ?_
    refine W.eq (g2 := F0 m 22 ls [.ref (a 2)]) rfl ?_
    refine lv_aload_n hx hb dX1_keep_22 rfl (lv_at hl 1 rfl) ?_
    refine cl_v (csR := [wH0 g a 0 (H_count h), wHb g a 1 (H_st h 1), wHb g a 2 (H_st h 2), wHb g a 3 (H_st h 3), wHb g a 4 (H_st h 4), wHb g a 5 (H_st h 5), wHb g a 6 (H_st h 6), wHb g a 7 (H_st h 7)]) (csF := [wH0 g a 0 (H_count h), wHb g a 0 (z1), wHb g a 1 (H_st h 1), wHb g a 2 (H_st h 2), wHb g a 3 (H_st h 3), wHb g a 4 (H_st h 4), wHb g a 5 (H_st h 5), wHb g a 6 (H_st h 6), wHb g a 7 (H_st h 7), wB g a2 b]) (rest := []) hx hb hml hown hts hK hE hA hl hP hD hS (c_X0_copyFrom g l (fun k => a (2 + 9 * 0 + k)) a2 (H_st h 0) b z1 hz1) [1, 9] [0, 2, 3, 4, 5, 6, 7, 8] [0, 8, 1, 2, 3, 4, 5, 6, 7, 9] ⟨rfl, rfl, rfl, rfl, rfl, rfl, rfl⟩ ⟨0, 4, _, _, rfl, rfl, rfl⟩ 1 (jb_giV mw_805 mw_709 mw_710 mw_2 mw_711) ⟨rfl, rfl⟩ (by decide +kernel) ⟨⟨(Nat.le_of_ble_eq_true rfl), (Nat.le_of_ble_eq_true rfl)⟩, (Nat.le_of_ble_eq_true rfl), (Nat.le_of_ble_eq_true rfl)⟩ ⟨rfl, rfl⟩ (Nat.le_of_ble_eq_true rfl) dX1_keep_23 (fun H locs hP hD hS => ?_)
    refine lv_aload_n hx hb dX1_keep_26 rfl (lv_at hl 0 rfl) ?_
    refine lv_aload_n hx hb dX1_keep_27 rfl (lv_at hl 0 rfl) ?_
    refine va_get (D := g.1) (ci := 5) (v := .int (H_count h)) (C := RX1) (T := TX1) (N := 3) hx hb hts inX1 hown hK hP 0 rfl rfl 2 (by decide) (hts _ mw_131) (fun _ h9 => h9) rfl dX1_keep_28 ?_
    refine lv_iconst (v := 1) hx hb dX1_keep_31 (by decide) ?_
    refine lv_iadd hx hb dX1_keep_32 ?_
    refine lv_bipush (v := 8) hx hb dX1_keep_33 (by decide) ?_
    refine va_mmin hx hb (hml.trans hl.1.symm) hown (hts _ mw_806) (hts _ mw_293) (hts _ mw_11) (hts _ mw_294) (Nat.le_of_ble_eq_true rfl) (Nat.le_of_ble_eq_true rfl) (Nat.le_of_ble_eq_true rfl) (Nat.le_of_ble_eq_true rfl) dX1_keep_35 ?_
    refine va_put (D := g.1) (ci := 5) (v := .int (imin (H_count h + 1) 8)) (ty := .int) (C := RX1) (T := TX1) (N := 3) hx hb hts inX1 tyX1 tyX1_ok nmX1 hown hK hP hD hS 0 rfl rfl 2 (by decide) (hts _ mw_131) (fun _ h9 => h9) rfl (by decide +kernel) rfl rfl (Nat.le_of_ble_eq_true rfl) dX1_keep_38 (fun H locs hP hD hS => ?_)
    have hP : va_P g.1 vwCl ([wH g a (mkH 0 (imin (H_count h + 1) 8) (va_up (H_st h) (0 : Int32).toNatClampNeg z1)), wB g a2 b] : List va_W).flatten _ := hP
    have hD : va_D A ([wH g a (mkH 0 (imin (H_count h + 1) 8) (va_up (H_st h) (0 : Int32).toNatClampNeg z1)), wB g a2 b] : List va_W).flatten := hD
    rw [hQ]
    exact jb_vret hx hb hr hlocks hP hD hS dX1_keep_41 (Nat.le_of_ble_eq_true rfl) (Nat.le_of_ble_eq_true rfl)
  · refine va_put (D := g.1) (ci := 5) (v := .int 1) (ty := .int) (C := RX1) (T := TX1) (N := 3) hx hb hts inX1 tyX1 tyX1_ok nmX1 hown hK hP hD hS 0 rfl rfl 1 (by decide) (hts _ mw_130) (fun _ h9 => h9) rfl (by decide +kernel) rfl rfl (Nat.le_of_ble_eq_true rfl) dX1_keep_10 (fun H locs hP hD hS => ?_)
    have hP : va_P g.1 vwCl ([wH0 g a 1 (H_count h), wHb g a 0 (H_st h 0), wHb g a 1 (H_st h 1), wHb g a 2 (H_st h 2), wHb g a 3 (H_st h 3), wHb g a 4 (H_st h 4), wHb g a 5 (H_st h 5), wHb g a 6 (H_st h 6), wHb g a 7 (H_st h 7), wB g a2 b] : List va_W).flatten _ := hP
    have hD : va_D A ([wH0 g a 1 (H_count h), wHb g a 0 (H_st h 0), wHb g a 1 (H_st h 1), wHb g a 2 (H_st h 2), wHb g a 3 (H_st h 3), wHb g a 4 (H_st h 4), wHb g a 5 (H_st h 5), wHb g a 6 (H_st h 6), wHb g a 7 (H_st h 7), wB g a2 b] : List va_W).flatten := hD
    refine lv_aload_n hx hb dX1_keep_13 rfl (lv_at hl 0 rfl) ?_
    refine va_get (D := g.1) (ci := 5) (v := .ref (a 1)) (C := RX1) (T := TX1) (N := 3) hx hb hts inX1 hown hK hP 0 rfl rfl 0 (by decide) (hts _ mw_129) (fun _ h9 => h9) rfl dX1_keep_14 ?_
    refine lv_aload_n hx hb dX1_keep_17 rfl (lv_at hl 0 rfl) ?_
    refine va_get (D := g.1) (ci := 5) (v := .int 1) (C := RX1) (T := TX1) (N := 3) hx hb hts inX1 hown hK hP 0 rfl rfl 1 (by decide) (hts _ mw_130) (fun _ h9 => h9) rfl dX1_keep_18 ?_
    refine va_aldq hx hb hK hP 1 3 rfl rfl (inb_in h8) dX1_keep_21 ?_
    refine W.eq (g2 := F0 m 22 ls [.ref (a 11)]) rfl ?_
    refine lv_aload_n hx hb dX1_keep_22 rfl (lv_at hl 1 rfl) ?_
    refine cl_v (csR := [wH0 g a 1 (H_count h), wHb g a 0 (H_st h 0), wHb g a 2 (H_st h 2), wHb g a 3 (H_st h 3), wHb g a 4 (H_st h 4), wHb g a 5 (H_st h 5), wHb g a 6 (H_st h 6), wHb g a 7 (H_st h 7)]) (csF := [wH0 g a 1 (H_count h), wHb g a 0 (H_st h 0), wHb g a 1 (z1), wHb g a 2 (H_st h 2), wHb g a 3 (H_st h 3), wHb g a 4 (H_st h 4), wHb g a 5 (H_st h 5), wHb g a 6 (H_st h 6), wHb g a 7 (H_st h 7), wB g a2 b]) (rest := []) hx hb hml hown hts hK hE hA hl hP hD hS (c_X0_copyFrom g l (fun k => a (2 + 9 * 1 + k)) a2 (H_st h 1) b z1 hz1) [2, 9] [0, 1, 3, 4, 5, 6, 7, 8] [0, 1, 8, 2, 3, 4, 5, 6, 7, 9] ⟨rfl, rfl, rfl, rfl, rfl, rfl, rfl⟩ ⟨0, 4, _, _, rfl, rfl, rfl⟩ 1 (jb_giV mw_805 mw_709 mw_710 mw_2 mw_711) ⟨rfl, rfl⟩ (by decide +kernel) ⟨⟨(Nat.le_of_ble_eq_true rfl), (Nat.le_of_ble_eq_true rfl)⟩, (Nat.le_of_ble_eq_true rfl), (Nat.le_of_ble_eq_true rfl)⟩ ⟨rfl, rfl⟩ (Nat.le_of_ble_eq_true rfl) dX1_keep_23 (fun H locs hP hD hS => ?_)
    refine lv_aload_n hx hb dX1_keep_26 rfl (lv_at hl 0 rfl) ?_
    refine lv_aload_n hx hb dX1_keep_27 rfl (lv_at hl 0 rfl) ?_
    refine va_get (D := g.1) (ci := 5) (v := .int (H_count h)) (C := RX1) (T := TX1) (N := 3) hx hb hts inX1 hown hK hP 0 rfl rfl 2 (by decide) (hts _ mw_131) (fun _ h9 => h9) rfl dX1_keep_28 ?_
    refine lv_iconst (v := 1) hx hb dX1_keep_31 (by decide) ?_
    refine lv_iadd hx hb dX1_keep_32 ?_
    refine lv_bipush (v := 8) hx hb dX1_keep_33 (by decide) ?_
    refine va_mmin hx hb (hml.trans hl.1.symm) hown (hts _ mw_806) (hts _ mw_293) (hts _ mw_11) (hts _ mw_294) (Nat.le_of_ble_eq_true rfl) (Nat.le_of_ble_eq_true rfl) (Nat.le_of_ble_eq_true rfl) (Nat.le_of_ble_eq_true rfl) dX1_keep_35 ?_
    refine va_put (D := g.1) (ci := 5) (v := .int (imin (H_count h + 1) 8)) (ty := .int) (C := RX1) (T := TX1) (N := 3) hx hb hts inX1 tyX1 tyX1_ok nmX1 hown hK hP hD hS 0 rfl rfl 2 (by decide) (hts _ mw_131) (fun _ h9 => h9) rfl (by decide +kernel) rfl rfl (Nat.le_of_ble_eq_true rfl) dX1_keep_38 (fun H locs hP hD hS => ?_)
    have hP : va_P g.1 vwCl ([wH g a (mkH 1 (imin (H_count h + 1) 8) (va_up (H_st h) (1 : Int32).toNatClampNeg z1)), wB g a2 b] : List va_W).flatten _ := hP
    have hD : va_D A ([wH g a (mkH 1 (imin (H_count h + 1) 8) (va_up (H_st h) (1 : Int32).toNatClampNeg z1)), wB g a2 b] : List va_W).flatten := hD
    rw [hQ]
    exact jb_vret hx hb hr hlocks hP hD hS dX1_keep_41 (Nat.le_of_ble_eq_true rfl) (Nat.le_of_ble_eq_true rfl)
  · refine va_put (D := g.1) (ci := 5) (v := .int 2) (ty := .int) (C := RX1) (T := TX1) (N := 3) hx hb hts inX1 tyX1 tyX1_ok nmX1 hown hK hP hD hS 0 rfl rfl 1 (by decide) (hts _ mw_130) (fun _ h9 => h9) rfl (by decide +kernel) rfl rfl (Nat.le_of_ble_eq_true rfl) dX1_keep_10 (fun H locs hP hD hS => ?_)
    have hP : va_P g.1 vwCl ([wH0 g a 2 (H_count h), wHb g a 0 (H_st h 0), wHb g a 1 (H_st h 1), wHb g a 2 (H_st h 2), wHb g a 3 (H_st h 3), wHb g a 4 (H_st h 4), wHb g a 5 (H_st h 5), wHb g a 6 (H_st h 6), wHb g a 7 (H_st h 7), wB g a2 b] : List va_W).flatten _ := hP
    have hD : va_D A ([wH0 g a 2 (H_count h), wHb g a 0 (H_st h 0), wHb g a 1 (H_st h 1), wHb g a 2 (H_st h 2), wHb g a 3 (H_st h 3), wHb g a 4 (H_st h 4), wHb g a 5 (H_st h 5), wHb g a 6 (H_st h 6), wHb g a 7 (H_st h 7), wB g a2 b] : List va_W).flatten := hD
    refine lv_aload_n hx hb dX1_keep_13 rfl (lv_at hl 0 rfl) ?_
    refine va_get (D := g.1) (ci := 5) (v := .ref (a 1)) (C := RX1) (T := TX1) (N := 3) hx hb hts inX1 hown hK hP 0 rfl rfl 0 (by decide) (hts _ mw_129) (fun _ h9 => h9) rfl dX1_keep_14 ?_
    refine lv_aload_n hx hb dX1_keep_17 rfl (lv_at hl 0 rfl) ?_
    refine va_get (D := g.1) (ci := 5) (v := .int 2) (C := RX1) (T := TX1) (N := 3) hx hb hts inX1 hown hK hP 0 rfl rfl 1 (by decide) (hts _ mw_130) (fun _ h9 => h9) rfl dX1_keep_18 ?_
    refine va_aldq hx hb hK hP 1 3 rfl rfl (inb_in h8) dX1_keep_21 ?_
    refine W.eq (g2 := F0 m 22 ls [.ref (a 20)]) rfl ?_
    refine lv_aload_n hx hb dX1_keep_22 rfl (lv_at hl 1 rfl) ?_
    refine cl_v (csR := [wH0 g a 2 (H_count h), wHb g a 0 (H_st h 0), wHb g a 1 (H_st h 1), wHb g a 3 (H_st h 3), wHb g a 4 (H_st h 4), wHb g a 5 (H_st h 5), wHb g a 6 (H_st h 6), wHb g a 7 (H_st h 7)]) (csF := [wH0 g a 2 (H_count h), wHb g a 0 (H_st h 0), wHb g a 1 (H_st h 1), wHb g a 2 (z1), wHb g a 3 (H_st h 3), wHb g a 4 (H_st h 4), wHb g a 5 (H_st h 5), wHb g a 6 (H_st h 6), wHb g a 7 (H_st h 7), wB g a2 b]) (rest := []) hx hb hml hown hts hK hE hA hl hP hD hS (c_X0_copyFrom g l (fun k => a (2 + 9 * 2 + k)) a2 (H_st h 2) b z1 hz1) [3, 9] [0, 1, 2, 4, 5, 6, 7, 8] [0, 1, 2, 8, 3, 4, 5, 6, 7, 9] ⟨rfl, rfl, rfl, rfl, rfl, rfl, rfl⟩ ⟨0, 4, _, _, rfl, rfl, rfl⟩ 1 (jb_giV mw_805 mw_709 mw_710 mw_2 mw_711) ⟨rfl, rfl⟩ (by decide +kernel) ⟨⟨(Nat.le_of_ble_eq_true rfl), (Nat.le_of_ble_eq_true rfl)⟩, (Nat.le_of_ble_eq_true rfl), (Nat.le_of_ble_eq_true rfl)⟩ ⟨rfl, rfl⟩ (Nat.le_of_ble_eq_true rfl) dX1_keep_23 (fun H locs hP hD hS => ?_)
    refine lv_aload_n hx hb dX1_keep_26 rfl (lv_at hl 0 rfl) ?_
    refine lv_aload_n hx hb dX1_keep_27 rfl (lv_at hl 0 rfl) ?_
    refine va_get (D := g.1) (ci := 5) (v := .int (H_count h)) (C := RX1) (T := TX1) (N := 3) hx hb hts inX1 hown hK hP 0 rfl rfl 2 (by decide) (hts _ mw_131) (fun _ h9 => h9) rfl dX1_keep_28 ?_
    refine lv_iconst (v := 1) hx hb dX1_keep_31 (by decide) ?_
    refine lv_iadd hx hb dX1_keep_32 ?_
    refine lv_bipush (v := 8) hx hb dX1_keep_33 (by decide) ?_
    refine va_mmin hx hb (hml.trans hl.1.symm) hown (hts _ mw_806) (hts _ mw_293) (hts _ mw_11) (hts _ mw_294) (Nat.le_of_ble_eq_true rfl) (Nat.le_of_ble_eq_true rfl) (Nat.le_of_ble_eq_true rfl) (Nat.le_of_ble_eq_true rfl) dX1_keep_35 ?_
    refine va_put (D := g.1) (ci := 5) (v := .int (imin (H_count h + 1) 8)) (ty := .int) (C := RX1) (T := TX1) (N := 3) hx hb hts inX1 tyX1 tyX1_ok nmX1 hown hK hP hD hS 0 rfl rfl 2 (by decide) (hts _ mw_131) (fun _ h9 => h9) rfl (by decide +kernel) rfl rfl (Nat.le_of_ble_eq_true rfl) dX1_keep_38 (fun H locs hP hD hS => ?_)
    have hP : va_P g.1 vwCl ([wH g a (mkH 2 (imin (H_count h + 1) 8) (va_up (H_st h) (2 : Int32).toNatClampNeg z1)), wB g a2 b] : List va_W).flatten _ := hP
    have hD : va_D A ([wH g a (mkH 2 (imin (H_count h + 1) 8) (va_up (H_st h) (2 : Int32).toNatClampNeg z1)), wB g a2 b] : List va_W).flatten := hD
    rw [hQ]
    exact jb_vret hx hb hr hlocks hP hD hS dX1_keep_41 (Nat.le_of_ble_eq_true rfl) (Nat.le_of_ble_eq_true rfl)
  · refine va_put (D := g.1) (ci := 5) (v := .int 3) (ty := .int) (C := RX1) (T := TX1) (N := 3) hx hb hts inX1 tyX1 tyX1_ok nmX1 hown hK hP hD hS 0 rfl rfl 1 (by decide) (hts _ mw_130) (fun _ h9 => h9) rfl (by decide +kernel) rfl rfl (Nat.le_of_ble_eq_true rfl) dX1_keep_10 (fun H locs hP hD hS => ?_)
    have hP : va_P g.1 vwCl ([wH0 g a 3 (H_count h), wHb g a 0 (H_st h 0), wHb g a 1 (H_st h 1), wHb g a 2 (H_st h 2), wHb g a 3 (H_st h 3), wHb g a 4 (H_st h 4), wHb g a 5 (H_st h 5), wHb g a 6 (H_st h 6), wHb g a 7 (H_st h 7), wB g a2 b] : List va_W).flatten _ := hP
    have hD : va_D A ([wH0 g a 3 (H_count h), wHb g a 0 (H_st h 0), wHb g a 1 (H_st h 1), wHb g a 2 (H_st h 2), wHb g a 3 (H_st h 3), wHb g a 4 (H_st h 4), wHb g a 5 (H_st h 5), wHb g a 6 (H_st h 6), wHb g a 7 (H_st h 7), wB g a2 b] : List va_W).flatten := hD
    refine lv_aload_n hx hb dX1_keep_13 rfl (lv_at hl 0 rfl) ?_
    refine va_get (D := g.1) (ci := 5) (v := .ref (a 1)) (C := RX1) (T := TX1) (N := 3) hx hb hts inX1 hown hK hP 0 rfl rfl 0 (by decide) (hts _ mw_129) (fun _ h9 => h9) rfl dX1_keep_14 ?_
    refine lv_aload_n hx hb dX1_keep_17 rfl (lv_at hl 0 rfl) ?_
    refine va_get (D := g.1) (ci := 5) (v := .int 3) (C := RX1) (T := TX1) (N := 3) hx hb hts inX1 hown hK hP 0 rfl rfl 1 (by decide) (hts _ mw_130) (fun _ h9 => h9) rfl dX1_keep_18 ?_
    refine va_aldq hx hb hK hP 1 3 rfl rfl (inb_in h8) dX1_keep_21 ?_
    refine W.eq (g2 := F0 m 22 ls [.ref (a 29)]) rfl ?_
    refine lv_aload_n hx hb dX1_keep_22 rfl (lv_at hl 1 rfl) ?_
    refine cl_v (csR := [wH0 g a 3 (H_count h), wHb g a 0 (H_st h 0), wHb g a 1 (H_st h 1), wHb g a 2 (H_st h 2), wHb g a 4 (H_st h 4), wHb g a 5 (H_st h 5), wHb g a 6 (H_st h 6), wHb g a 7 (H_st h 7)]) (csF := [wH0 g a 3 (H_count h), wHb g a 0 (H_st h 0), wHb g a 1 (H_st h 1), wHb g a 2 (H_st h 2), wHb g a 3 (z1), wHb g a 4 (H_st h 4), wHb g a 5 (H_st h 5), wHb g a 6 (H_st h 6), wHb g a 7 (H_st h 7), wB g a2 b]) (rest := []) hx hb hml hown hts hK hE hA hl hP hD hS (c_X0_copyFrom g l (fun k => a (2 + 9 * 3 + k)) a2 (H_st h 3) b z1 hz1) [4, 9] [0, 1, 2, 3, 5, 6, 7, 8] [0, 1, 2, 3, 8, 4, 5, 6, 7, 9] ⟨rfl, rfl, rfl, rfl, rfl, rfl, rfl⟩ ⟨0, 4, _, _, rfl, rfl, rfl⟩ 1 (jb_giV mw_805 mw_709 mw_710 mw_2 mw_711) ⟨rfl, rfl⟩ (by decide +kernel) ⟨⟨(Nat.le_of_ble_eq_true rfl), (Nat.le_of_ble_eq_true rfl)⟩, (Nat.le_of_ble_eq_true rfl), (Nat.le_of_ble_eq_true rfl)⟩ ⟨rfl, rfl⟩ (Nat.le_of_ble_eq_true rfl) dX1_keep_23 (fun H locs hP hD hS => ?_)
    refine lv_aload_n hx hb dX1_keep_26 rfl (lv_at hl 0 rfl) ?_
    refine lv_aload_n hx hb dX1_keep_27 rfl (lv_at hl 0 rfl) ?_
    refine va_get (D := g.1) (ci := 5) (v := .int (H_count h)) (C := RX1) (T := TX1) (N := 3) hx hb hts inX1 hown hK hP 0 rfl rfl 2 (by decide) (hts _ mw_131) (fun _ h9 => h9) rfl dX1_keep_28 ?_
    refine lv_iconst (v := 1) hx hb dX1_keep_31 (by decide) ?_
    refine lv_iadd hx hb dX1_keep_32 ?_
    refine lv_bipush (v := 8) hx hb dX1_keep_33 (by decide) ?_
    refine va_mmin hx hb (hml.trans hl.1.symm) hown (hts _ mw_806) (hts _ mw_293) (hts _ mw_11) (hts _ mw_294) (Nat.le_of_ble_eq_true rfl) (Nat.le_of_ble_eq_true rfl) (Nat.le_of_ble_eq_true rfl) (Nat.le_of_ble_eq_true rfl) dX1_keep_35 ?_
    refine va_put (D := g.1) (ci := 5) (v := .int (imin (H_count h + 1) 8)) (ty := .int) (C := RX1) (T := TX1) (N := 3) hx hb hts inX1 tyX1 tyX1_ok nmX1 hown hK hP hD hS 0 rfl rfl 2 (by decide) (hts _ mw_131) (fun _ h9 => h9) rfl (by decide +kernel) rfl rfl (Nat.le_of_ble_eq_true rfl) dX1_keep_38 (fun H locs hP hD hS => ?_)
    have hP : va_P g.1 vwCl ([wH g a (mkH 3 (imin (H_count h + 1) 8) (va_up (H_st h) (3 : Int32).toNatClampNeg z1)), wB g a2 b] : List va_W).flatten _ := hP
    have hD : va_D A ([wH g a (mkH 3 (imin (H_count h + 1) 8) (va_up (H_st h) (3 : Int32).toNatClampNeg z1)), wB g a2 b] : List va_W).flatten := hD
    rw [hQ]
    exact jb_vret hx hb hr hlocks hP hD hS dX1_keep_41 (Nat.le_of_ble_eq_true rfl) (Nat.le_of_ble_eq_true rfl)
  · refine va_put (D := g.1) (ci := 5) (v := .int 4) (ty := .int) (C := RX1) (T := TX1) (N := 3) hx hb hts inX1 tyX1 tyX1_ok nmX1 hown hK hP hD hS 0 rfl rfl 1 (by decide) (hts _ mw_130) (fun _ h9 => h9) rfl (by decide +kernel) rfl rfl (Nat.le_of_ble_eq_true rfl) dX1_keep_10 (fun H locs hP hD hS => ?_)
    have hP : va_P g.1 vwCl ([wH0 g a 4 (H_count h), wHb g a 0 (H_st h 0), wHb g a 1 (H_st h 1), wHb g a 2 (H_st h 2), wHb g a 3 (H_st h 3), wHb g a 4 (H_st h 4), wHb g a 5 (H_st h 5), wHb g a 6 (H_st h 6), wHb g a 7 (H_st h 7), wB g a2 b] : List va_W).flatten _ := hP
    have hD : va_D A ([wH0 g a 4 (H_count h), wHb g a 0 (H_st h 0), wHb g a 1 (H_st h 1), wHb g a 2 (H_st h 2), wHb g a 3 (H_st h 3), wHb g a 4 (H_st h 4), wHb g a 5 (H_st h 5), wHb g a 6 (H_st h 6), wHb g a 7 (H_st h 7), wB g a2 b] : List va_W).flatten := hD
    refine lv_aload_n hx hb dX1_keep_13 rfl (lv_at hl 0 rfl) ?_
    refine va_get (D := g.1) (ci := 5) (v := .ref (a 1)) (C := RX1) (T := TX1) (N := 3) hx hb hts inX1 hown hK hP 0 rfl rfl 0 (by decide) (hts _ mw_129) (fun _ h9 => h9) rfl dX1_keep_14 ?_
    refine lv_aload_n hx hb dX1_keep_17 rfl (lv_at hl 0 rfl) ?_
    refine va_get (D := g.1) (ci := 5) (v := .int 4) (C := RX1) (T := TX1) (N := 3) hx hb hts inX1 hown hK hP 0 rfl rfl 1 (by decide) (hts _ mw_130) (fun _ h9 => h9) rfl dX1_keep_18 ?_
    refine va_aldq hx hb hK hP 1 3 rfl rfl (inb_in h8) dX1_keep_21 ?_
    refine W.eq (g2 := F0 m 22 ls [.ref (a 38)]) rfl ?_
    refine lv_aload_n hx hb dX1_keep_22 rfl (lv_at hl 1 rfl) ?_
    refine cl_v (csR := [wH0 g a 4 (H_count h), wHb g a 0 (H_st h 0), wHb g a 1 (H_st h 1), wHb g a 2 (H_st h 2), wHb g a 3 (H_st h 3), wHb g a 5 (H_st h 5), wHb g a 6 (H_st h 6), wHb g a 7 (H_st h 7)]) (csF := [wH0 g a 4 (H_count h), wHb g a 0 (H_st h 0), wHb g a 1 (H_st h 1), wHb g a 2 (H_st h 2), wHb g a 3 (H_st h 3), wHb g a 4 (z1), wHb g a 5 (H_st h 5), wHb g a 6 (H_st h 6), wHb g a 7 (H_st h 7), wB g a2 b]) (rest := []) hx hb hml hown hts hK hE hA hl hP hD hS (c_X0_copyFrom g l (fun k => a (2 + 9 * 4 + k)) a2 (H_st h 4) b z1 hz1) [5, 9] [0, 1, 2, 3, 4, 6, 7, 8] [0, 1, 2, 3, 4, 8, 5, 6, 7, 9] ⟨rfl, rfl, rfl, rfl, rfl, rfl, rfl⟩ ⟨0, 4, _, _, rfl, rfl, rfl⟩ 1 (jb_giV mw_805 mw_709 mw_710 mw_2 mw_711) ⟨rfl, rfl⟩ (by decide +kernel) ⟨⟨(Nat.le_of_ble_eq_true rfl), (Nat.le_of_ble_eq_true rfl)⟩, (Nat.le_of_ble_eq_true rfl), (Nat.le_of_ble_eq_true rfl)⟩ ⟨rfl, rfl⟩ (Nat.le_of_ble_eq_true rfl) dX1_keep_23 (fun H locs hP hD hS => ?_)
    refine lv_aload_n hx hb dX1_keep_26 rfl (lv_at hl 0 rfl) ?_
    refine lv_aload_n hx hb dX1_keep_27 rfl (lv_at hl 0 rfl) ?_
    refine va_get (D := g.1) (ci := 5) (v := .int (H_count h)) (C := RX1) (T := TX1) (N := 3) hx hb hts inX1 hown hK hP 0 rfl rfl 2 (by decide) (hts _ mw_131) (fun _ h9 => h9) rfl dX1_keep_28 ?_
    refine lv_iconst (v := 1) hx hb dX1_keep_31 (by decide) ?_
    refine lv_iadd hx hb dX1_keep_32 ?_
    refine lv_bipush (v := 8) hx hb dX1_keep_33 (by decide) ?_
    refine va_mmin hx hb (hml.trans hl.1.symm) hown (hts _ mw_806) (hts _ mw_293) (hts _ mw_11) (hts _ mw_294) (Nat.le_of_ble_eq_true rfl) (Nat.le_of_ble_eq_true rfl) (Nat.le_of_ble_eq_true rfl) (Nat.le_of_ble_eq_true rfl) dX1_keep_35 ?_
    refine va_put (D := g.1) (ci := 5) (v := .int (imin (H_count h + 1) 8)) (ty := .int) (C := RX1) (T := TX1) (N := 3) hx hb hts inX1 tyX1 tyX1_ok nmX1 hown hK hP hD hS 0 rfl rfl 2 (by decide) (hts _ mw_131) (fun _ h9 => h9) rfl (by decide +kernel) rfl rfl (Nat.le_of_ble_eq_true rfl) dX1_keep_38 (fun H locs hP hD hS => ?_)
    have hP : va_P g.1 vwCl ([wH g a (mkH 4 (imin (H_count h + 1) 8) (va_up (H_st h) (4 : Int32).toNatClampNeg z1)), wB g a2 b] : List va_W).flatten _ := hP
    have hD : va_D A ([wH g a (mkH 4 (imin (H_count h + 1) 8) (va_up (H_st h) (4 : Int32).toNatClampNeg z1)), wB g a2 b] : List va_W).flatten := hD
    rw [hQ]
    exact jb_vret hx hb hr hlocks hP hD hS dX1_keep_41 (Nat.le_of_ble_eq_true rfl) (Nat.le_of_ble_eq_true rfl)
  · refine va_put (D := g.1) (ci := 5) (v := .int 5) (ty := .int) (C := RX1) (T := TX1) (N := 3) hx hb hts inX1 tyX1 tyX1_ok nmX1 hown hK hP hD hS 0 rfl rfl 1 (by decide) (hts _ mw_130) (fun _ h9 => h9) rfl (by decide +kernel) rfl rfl (Nat.le_of_ble_eq_true rfl) dX1_keep_10 (fun H locs hP hD hS => ?_)
    have hP : va_P g.1 vwCl ([wH0 g a 5 (H_count h), wHb g a 0 (H_st h 0), wHb g a 1 (H_st h 1), wHb g a 2 (H_st h 2), wHb g a 3 (H_st h 3), wHb g a 4 (H_st h 4), wHb g a 5 (H_st h 5), wHb g a 6 (H_st h 6), wHb g a 7 (H_st h 7), wB g a2 b] : List va_W).flatten _ := hP
    have hD : va_D A ([wH0 g a 5 (H_count h), wHb g a 0 (H_st h 0), wHb g a 1 (H_st h 1), wHb g a 2 (H_st h 2), wHb g a 3 (H_st h 3), wHb g a 4 (H_st h 4), wHb g a 5 (H_st h 5), wHb g a 6 (H_st h 6), wHb g a 7 (H_st h 7), wB g a2 b] : List va_W).flatten := hD
    refine lv_aload_n hx hb dX1_keep_13 rfl (lv_at hl 0 rfl) ?_
    refine va_get (D := g.1) (ci := 5) (v := .ref (a 1)) (C := RX1) (T := TX1) (N := 3) hx hb hts inX1 hown hK hP 0 rfl rfl 0 (by decide) (hts _ mw_129) (fun _ h9 => h9) rfl dX1_keep_14 ?_
    refine lv_aload_n hx hb dX1_keep_17 rfl (lv_at hl 0 rfl) ?_
    refine va_get (D := g.1) (ci := 5) (v := .int 5) (C := RX1) (T := TX1) (N := 3) hx hb hts inX1 hown hK hP 0 rfl rfl 1 (by decide) (hts _ mw_130) (fun _ h9 => h9) rfl dX1_keep_18 ?_
    refine va_aldq hx hb hK hP 1 3 rfl rfl (inb_in h8) dX1_keep_21 ?_
    refine W.eq (g2 := F0 m 22 ls [.ref (a 47)]) rfl ?_
    refine lv_aload_n hx hb dX1_keep_22 rfl (lv_at hl 1 rfl) ?_
    refine cl_v (csR := [wH0 g a 5 (H_count h), wHb g a 0 (H_st h 0), wHb g a 1 (H_st h 1), wHb g a 2 (H_st h 2), wHb g a 3 (H_st h 3), wHb g a 4 (H_st h 4), wHb g a 6 (H_st h 6), wHb g a 7 (H_st h 7)]) (csF := [wH0 g a 5 (H_count h), wHb g a 0 (H_st h 0), wHb g a 1 (H_st h 1), wHb g a 2 (H_st h 2), wHb g a 3 (H_st h 3), wHb g a 4 (H_st h 4), wHb g a 5 (z1), wHb g a 6 (H_st h 6), wHb g a 7 (H_st h 7), wB g a2 b]) (rest := []) hx hb hml hown hts hK hE hA hl hP hD hS (c_X0_copyFrom g l (fun k => a (2 + 9 * 5 + k)) a2 (H_st h 5) b z1 hz1) [6, 9] [0, 1, 2, 3, 4, 5, 7, 8] [0, 1, 2, 3, 4, 5, 8, 6, 7, 9] ⟨rfl, rfl, rfl, rfl, rfl, rfl, rfl⟩ ⟨0, 4, _, _, rfl, rfl, rfl⟩ 1 (jb_giV mw_805 mw_709 mw_710 mw_2 mw_711) ⟨rfl, rfl⟩ (by decide +kernel) ⟨⟨(Nat.le_of_ble_eq_true rfl), (Nat.le_of_ble_eq_true rfl)⟩, (Nat.le_of_ble_eq_true rfl), (Nat.le_of_ble_eq_true rfl)⟩ ⟨rfl, rfl⟩ (Nat.le_of_ble_eq_true rfl) dX1_keep_23 (fun H locs hP hD hS => ?_)
    refine lv_aload_n hx hb dX1_keep_26 rfl (lv_at hl 0 rfl) ?_
    refine lv_aload_n hx hb dX1_keep_27 rfl (lv_at hl 0 rfl) ?_
    refine va_get (D := g.1) (ci := 5) (v := .int (H_count h)) (C := RX1) (T := TX1) (N := 3) hx hb hts inX1 hown hK hP 0 rfl rfl 2 (by decide) (hts _ mw_131) (fun _ h9 => h9) rfl dX1_keep_28 ?_
    refine lv_iconst (v := 1) hx hb dX1_keep_31 (by decide) ?_
    refine lv_iadd hx hb dX1_keep_32 ?_
    refine lv_bipush (v := 8) hx hb dX1_keep_33 (by decide) ?_
    refine va_mmin hx hb (hml.trans hl.1.symm) hown (hts _ mw_806) (hts _ mw_293) (hts _ mw_11) (hts _ mw_294) (Nat.le_of_ble_eq_true rfl) (Nat.le_of_ble_eq_true rfl) (Nat.le_of_ble_eq_true rfl) (Nat.le_of_ble_eq_true rfl) dX1_keep_35 ?_
    refine va_put (D := g.1) (ci := 5) (v := .int (imin (H_count h + 1) 8)) (ty := .int) (C := RX1) (T := TX1) (N := 3) hx hb hts inX1 tyX1 tyX1_ok nmX1 hown hK hP hD hS 0 rfl rfl 2 (by decide) (hts _ mw_131) (fun _ h9 => h9) rfl (by decide +kernel) rfl rfl (Nat.le_of_ble_eq_true rfl) dX1_keep_38 (fun H locs hP hD hS => ?_)
    have hP : va_P g.1 vwCl ([wH g a (mkH 5 (imin (H_count h + 1) 8) (va_up (H_st h) (5 : Int32).toNatClampNeg z1)), wB g a2 b] : List va_W).flatten _ := hP
    have hD : va_D A ([wH g a (mkH 5 (imin (H_count h + 1) 8) (va_up (H_st h) (5 : Int32).toNatClampNeg z1)), wB g a2 b] : List va_W).flatten := hD
    rw [hQ]
    exact jb_vret hx hb hr hlocks hP hD hS dX1_keep_41 (Nat.le_of_ble_eq_true rfl) (Nat.le_of_ble_eq_true rfl)
  · refine va_put (D := g.1) (ci := 5) (v := .int 6) (ty := .int) (C := RX1) (T := TX1) (N := 3) hx hb hts inX1 tyX1 tyX1_ok nmX1 hown hK hP hD hS 0 rfl rfl 1 (by decide) (hts _ mw_130) (fun _ h9 => h9) rfl (by decide +kernel) rfl rfl (Nat.le_of_ble_eq_true rfl) dX1_keep_10 (fun H locs hP hD hS => ?_)
    have hP : va_P g.1 vwCl ([wH0 g a 6 (H_count h), wHb g a 0 (H_st h 0), wHb g a 1 (H_st h 1), wHb g a 2 (H_st h 2), wHb g a 3 (H_st h 3), wHb g a 4 (H_st h 4), wHb g a 5 (H_st h 5), wHb g a 6 (H_st h 6), wHb g a 7 (H_st h 7), wB g a2 b] : List va_W).flatten _ := hP
    have hD : va_D A ([wH0 g a 6 (H_count h), wHb g a 0 (H_st h 0), wHb g a 1 (H_st h 1), wHb g a 2 (H_st h 2), wHb g a 3 (H_st h 3), wHb g a 4 (H_st h 4), wHb g a 5 (H_st h 5), wHb g a 6 (H_st h 6), wHb g a 7 (H_st h 7), wB g a2 b] : List va_W).flatten := hD
    refine lv_aload_n hx hb dX1_keep_13 rfl (lv_at hl 0 rfl) ?_
    refine va_get (D := g.1) (ci := 5) (v := .ref (a 1)) (C := RX1) (T := TX1) (N := 3) hx hb hts inX1 hown hK hP 0 rfl rfl 0 (by decide) (hts _ mw_129) (fun _ h9 => h9) rfl dX1_keep_14 ?_
    refine lv_aload_n hx hb dX1_keep_17 rfl (lv_at hl 0 rfl) ?_
    refine va_get (D := g.1) (ci := 5) (v := .int 6) (C := RX1) (T := TX1) (N := 3) hx hb hts inX1 hown hK hP 0 rfl rfl 1 (by decide) (hts _ mw_130) (fun _ h9 => h9) rfl dX1_keep_18 ?_
    refine va_aldq hx hb hK hP 1 3 rfl rfl (inb_in h8) dX1_keep_21 ?_
    refine W.eq (g2 := F0 m 22 ls [.ref (a 56)]) rfl ?_
    refine lv_aload_n hx hb dX1_keep_22 rfl (lv_at hl 1 rfl) ?_
    refine cl_v (csR := [wH0 g a 6 (H_count h), wHb g a 0 (H_st h 0), wHb g a 1 (H_st h 1), wHb g a 2 (H_st h 2), wHb g a 3 (H_st h 3), wHb g a 4 (H_st h 4), wHb g a 5 (H_st h 5), wHb g a 7 (H_st h 7)]) (csF := [wH0 g a 6 (H_count h), wHb g a 0 (H_st h 0), wHb g a 1 (H_st h 1), wHb g a 2 (H_st h 2), wHb g a 3 (H_st h 3), wHb g a 4 (H_st h 4), wHb g a 5 (H_st h 5), wHb g a 6 (z1), wHb g a 7 (H_st h 7), wB g a2 b]) (rest := []) hx hb hml hown hts hK hE hA hl hP hD hS (c_X0_copyFrom g l (fun k => a (2 + 9 * 6 + k)) a2 (H_st h 6) b z1 hz1) [7, 9] [0, 1, 2, 3, 4, 5, 6, 8] [0, 1, 2, 3, 4, 5, 6, 8, 7, 9] ⟨rfl, rfl, rfl, rfl, rfl, rfl, rfl⟩ ⟨0, 4, _, _, rfl, rfl, rfl⟩ 1 (jb_giV mw_805 mw_709 mw_710 mw_2 mw_711) ⟨rfl, rfl⟩ (by decide +kernel) ⟨⟨(Nat.le_of_ble_eq_true rfl), (Nat.le_of_ble_eq_true rfl)⟩, (Nat.le_of_ble_eq_true rfl), (Nat.le_of_ble_eq_true rfl)⟩ ⟨rfl, rfl⟩ (Nat.le_of_ble_eq_true rfl) dX1_keep_23 (fun H locs hP hD hS => ?_)
    refine lv_aload_n hx hb dX1_keep_26 rfl (lv_at hl 0 rfl) ?_
    refine lv_aload_n hx hb dX1_keep_27 rfl (lv_at hl 0 rfl) ?_
    refine va_get (D := g.1) (ci := 5) (v := .int (H_count h)) (C := RX1) (T := TX1) (N := 3) hx hb hts inX1 hown hK hP 0 rfl rfl 2 (by decide) (hts _ mw_131) (fun _ h9 => h9) rfl dX1_keep_28 ?_
    refine lv_iconst (v := 1) hx hb dX1_keep_31 (by decide) ?_
    refine lv_iadd hx hb dX1_keep_32 ?_
    refine lv_bipush (v := 8) hx hb dX1_keep_33 (by decide) ?_
    refine va_mmin hx hb (hml.trans hl.1.symm) hown (hts _ mw_806) (hts _ mw_293) (hts _ mw_11) (hts _ mw_294) (Nat.le_of_ble_eq_true rfl) (Nat.le_of_ble_eq_true rfl) (Nat.le_of_ble_eq_true rfl) (Nat.le_of_ble_eq_true rfl) dX1_keep_35 ?_
    refine va_put (D := g.1) (ci := 5) (v := .int (imin (H_count h + 1) 8)) (ty := .int) (C := RX1) (T := TX1) (N := 3) hx hb hts inX1 tyX1 tyX1_ok nmX1 hown hK hP hD hS 0 rfl rfl 2 (by decide) (hts _ mw_131) (fun _ h9 => h9) rfl (by decide +kernel) rfl rfl (Nat.le_of_ble_eq_true rfl) dX1_keep_38 (fun H locs hP hD hS => ?_)
    have hP : va_P g.1 vwCl ([wH g a (mkH 6 (imin (H_count h + 1) 8) (va_up (H_st h) (6 : Int32).toNatClampNeg z1)), wB g a2 b] : List va_W).flatten _ := hP
    have hD : va_D A ([wH g a (mkH 6 (imin (H_count h + 1) 8) (va_up (H_st h) (6 : Int32).toNatClampNeg z1)), wB g a2 b] : List va_W).flatten := hD
    rw [hQ]
    exact jb_vret hx hb hr hlocks hP hD hS dX1_keep_41 (Nat.le_of_ble_eq_true rfl) (Nat.le_of_ble_eq_true rfl)
  · refine va_put (D := g.1) (ci := 5) (v := .int 7) (ty := .int) (C := RX1) (T := TX1) (N := 3) hx hb hts inX1 tyX1 tyX1_ok nmX1 hown hK hP hD hS 0 rfl rfl 1 (by decide) (hts _ mw_130) (fun _ h9 => h9) rfl (by decide +kernel) rfl rfl (Nat.le_of_ble_eq_true rfl) dX1_keep_10 (fun H locs hP hD hS => ?_)
    have hP : va_P g.1 vwCl ([wH0 g a 7 (H_count h), wHb g a 0 (H_st h 0), wHb g a 1 (H_st h 1), wHb g a 2 (H_st h 2), wHb g a 3 (H_st h 3), wHb g a 4 (H_st h 4), wHb g a 5 (H_st h 5), wHb g a 6 (H_st h 6), wHb g a 7 (H_st h 7), wB g a2 b] : List va_W).flatten _ := hP
    have hD : va_D A ([wH0 g a 7 (H_count h), wHb g a 0 (H_st h 0), wHb g a 1 (H_st h 1), wHb g a 2 (H_st h 2), wHb g a 3 (H_st h 3), wHb g a 4 (H_st h 4), wHb g a 5 (H_st h 5), wHb g a 6 (H_st h 6), wHb g a 7 (H_st h 7), wB g a2 b] : List va_W).flatten := hD
    refine lv_aload_n hx hb dX1_keep_13 rfl (lv_at hl 0 rfl) ?_
    refine va_get (D := g.1) (ci := 5) (v := .ref (a 1)) (C := RX1) (T := TX1) (N := 3) hx hb hts inX1 hown hK hP 0 rfl rfl 0 (by decide) (hts _ mw_129) (fun _ h9 => h9) rfl dX1_keep_14 ?_
    refine lv_aload_n hx hb dX1_keep_17 rfl (lv_at hl 0 rfl) ?_
    refine va_get (D := g.1) (ci := 5) (v := .int 7) (C := RX1) (T := TX1) (N := 3) hx hb hts inX1 hown hK hP 0 rfl rfl 1 (by decide) (hts _ mw_130) (fun _ h9 => h9) rfl dX1_keep_18 ?_
    refine va_aldq hx hb hK hP 1 3 rfl rfl (inb_in h8) dX1_keep_21 ?_
    refine W.eq (g2 := F0 m 22 ls [.ref (a 65)]) rfl ?_
    refine lv_aload_n hx hb dX1_keep_22 rfl (lv_at hl 1 rfl) ?_
    refine cl_v (csR := [wH0 g a 7 (H_count h), wHb g a 0 (H_st h 0), wHb g a 1 (H_st h 1), wHb g a 2 (H_st h 2), wHb g a 3 (H_st h 3), wHb g a 4 (H_st h 4), wHb g a 5 (H_st h 5), wHb g a 6 (H_st h 6)]) (csF := [wH0 g a 7 (H_count h), wHb g a 0 (H_st h 0), wHb g a 1 (H_st h 1), wHb g a 2 (H_st h 2), wHb g a 3 (H_st h 3), wHb g a 4 (H_st h 4), wHb g a 5 (H_st h 5), wHb g a 6 (H_st h 6), wHb g a 7 (z1), wB g a2 b]) (rest := []) hx hb hml hown hts hK hE hA hl hP hD hS (c_X0_copyFrom g l (fun k => a (2 + 9 * 7 + k)) a2 (H_st h 7) b z1 hz1) [8, 9] [0, 1, 2, 3, 4, 5, 6, 7] [0, 1, 2, 3, 4, 5, 6, 7, 8, 9] ⟨rfl, rfl, rfl, rfl, rfl, rfl, rfl⟩ ⟨0, 4, _, _, rfl, rfl, rfl⟩ 1 (jb_giV mw_805 mw_709 mw_710 mw_2 mw_711) ⟨rfl, rfl⟩ (by decide +kernel) ⟨⟨(Nat.le_of_ble_eq_true rfl), (Nat.le_of_ble_eq_true rfl)⟩, (Nat.le_of_ble_eq_true rfl), (Nat.le_of_ble_eq_true rfl)⟩ ⟨rfl, rfl⟩ (Nat.le_of_ble_eq_true rfl) dX1_keep_23 (fun H locs hP hD hS => ?_)
    refine lv_aload_n hx hb dX1_keep_26 rfl (lv_at hl 0 rfl) ?_
    refine lv_aload_n hx hb dX1_keep_27 rfl (lv_at hl 0 rfl) ?_
    refine va_get (D := g.1) (ci := 5) (v := .int (H_count h)) (C := RX1) (T := TX1) (N := 3) hx hb hts inX1 hown hK hP 0 rfl rfl 2 (by decide) (hts _ mw_131) (fun _ h9 => h9) rfl dX1_keep_28 ?_
    refine lv_iconst (v := 1) hx hb dX1_keep_31 (by decide) ?_
    refine lv_iadd hx hb dX1_keep_32 ?_
    refine lv_bipush (v := 8) hx hb dX1_keep_33 (by decide) ?_
    refine va_mmin hx hb (hml.trans hl.1.symm) hown (hts _ mw_806) (hts _ mw_293) (hts _ mw_11) (hts _ mw_294) (Nat.le_of_ble_eq_true rfl) (Nat.le_of_ble_eq_true rfl) (Nat.le_of_ble_eq_true rfl) (Nat.le_of_ble_eq_true rfl) dX1_keep_35 ?_
    refine va_put (D := g.1) (ci := 5) (v := .int (imin (H_count h + 1) 8)) (ty := .int) (C := RX1) (T := TX1) (N := 3) hx hb hts inX1 tyX1 tyX1_ok nmX1 hown hK hP hD hS 0 rfl rfl 2 (by decide) (hts _ mw_131) (fun _ h9 => h9) rfl (by decide +kernel) rfl rfl (Nat.le_of_ble_eq_true rfl) dX1_keep_38 (fun H locs hP hD hS => ?_)
    have hP : va_P g.1 vwCl ([wH g a (mkH 7 (imin (H_count h + 1) 8) (va_up (H_st h) (7 : Int32).toNatClampNeg z1)), wB g a2 b] : List va_W).flatten _ := hP
    have hD : va_D A ([wH g a (mkH 7 (imin (H_count h + 1) 8) (va_up (H_st h) (7 : Int32).toNatClampNeg z1)), wB g a2 b] : List va_W).flatten := hD
    rw [hQ]
    exact jb_vret hx hb hr hlocks hP hD hS dX1_keep_41 (Nat.le_of_ble_eq_true rfl) (Nat.le_of_ble_eq_true rfl)
set_option maxHeartbeats 8000000 in
set_option maxRecDepth 100000 in
theorem c_X1_giveBack (g : GG) (l : Launch) (a : Nat → Nat) (a2 : Nat → Nat) (h : Hv) (b : Bv) (z : Hv × Bv) (hF : F_X1_giveBack h b = some z) : MV g l yX1_giveBack cX1_giveBack 2 none ({ frames := 3, cells := 0, slots := 0, locals := 121 } : Room) [.ref (a 0), .ref (a2 0)] [wH g a h, wB g a2 b] 0 0 [wH g a z.1, wB g a2 z.2] := by
  refine MV.bg (by decide) (Nat.le_of_ble_eq_true rfl) ?_
  intro p e s m below meth c A Q hQ hx hb hr hml hown hts hlocks hmn hK hE hA hP hD hS ls hl
  rw [F_X1_giveBack] at hF
  have hl : lv_has ls 2 [(0, .ref (a 0)), (1, .ref (a2 0))] := hl
  have hP : va_P g.1 vwCl ([wH0 g a (H_newest h) (H_count h), wHb g a 0 (H_st h 0), wHb g a 1 (H_st h 1), wHb g a 2 (H_st h 2), wHb g a 3 (H_st h 3), wHb g a 4 (H_st h 4), wHb g a 5 (H_st h 5), wHb g a 6 (H_st h 6), wHb g a 7 (H_st h 7), wB g a2 b] : List va_W).flatten _ := hP
  have hD : va_D A ([wH0 g a (H_newest h) (H_count h), wHb g a 0 (H_st h 0), wHb g a 1 (H_st h 1), wHb g a 2 (H_st h 2), wHb g a 3 (H_st h 3), wHb g a 4 (H_st h 4), wHb g a 5 (H_st h 5), wHb g a 6 (H_st h 6), wHb g a 7 (H_st h 7), wB g a2 b] : List va_W).flatten := hD
  refine lv_aload_n hx hb dX1_giveBack_0 rfl (lv_at hl 0 rfl) ?_
  refine va_get (D := g.1) (ci := 5) (v := .int (H_count h)) (C := RX1) (T := TX1) (N := 3) hx hb hts inX1 hown hK hP 0 rfl rfl 2 (by decide) (hts _ mw_131) (fun _ h9 => h9) rfl dX1_giveBack_1 ?_
  refine lv_if_le (tgt := 46) hx hb dX1_giveBack_4 (by decide) (fun c1 => ?_) (fun c1 => ?_)
  · have hF := ob_pos c1 hF
    cases hF
    rw [hQ]
    have hP : va_P g.1 vwCl ([wH g a h, wB g a2 b] : List va_W).flatten _ := hP
    have hD : va_D A ([wH g a h, wB g a2 b] : List va_W).flatten := hD
    exact jb_vret hx hb hr hlocks hP hD hS dX1_giveBack_46 (Nat.le_of_ble_eq_true rfl) (Nat.le_of_ble_eq_true rfl)
  · have hF := ob_neg c1 hF
    have h8 := ck_t hF
    have hF := ck_s hF
    obtain ⟨z1, hz1, hF⟩ := ob_bind hF
    cases hF
    refine lv_aload_n hx hb dX1_giveBack_7 rfl (lv_at hl 1 rfl) ?_
    refine lv_aload_n hx hb dX1_giveBack_8 rfl (lv_at hl 0 rfl) ?_
    refine va_get (D := g.1) (ci := 5) (v := .ref (a 1)) (C := RX1) (T := TX1) (N := 3) hx hb hts inX1 hown hK hP 0 rfl rfl 0 (by decide) (hts _ mw_129) (fun _ h9 => h9) rfl dX1_giveBack_9 ?_
    refine lv_aload_n hx hb dX1_giveBack_12 rfl (lv_at hl 0 rfl) ?_
    refine va_get (D := g.1) (ci := 5) (v := .int (H_newest h)) (C := RX1) (T := TX1) (N := 3) hx hb hts inX1 hown hK hP 0 rfl rfl 1 (by decide) (hts _ mw_130) (fun _ h9 => h9) rfl dX1_giveBack_13 ?_
    have hnw : ∃ x, x = H_newest h := ⟨_, rfl⟩
    obtain ⟨x, ex⟩ := hnw
    rw [← ex] at h8 hz1 hQ hP hD ⊢
    rcases in8 h8 with rfl | rfl | rfl | rfl | rfl | rfl | rfl | rfl
    · refine va_aldq hx hb hK hP 1 3 rfl rfl (inb_in h8) dX1_giveBack_16 ?_
      refine W.eq (g2 := F0 m 17 ls [.ref (a 2), .ref (a2 0)]) rfl ?_
      refine cl_v (csR := [wH0 g a 0 (H_count h), wHb g a 1 (H_st h 1), wHb g a 2 (H_st h 2), wHb g a 3 (H_st h 3), wHb g a 4 (H_st h 4), wHb g a 5 (H_st h 5), wHb g a 6 (H_st h 6), wHb g a 7 (H_st h 7)]) (csF := [wH0 g a 0 (H_count h), wHb g a 0 (H_st h 0), wHb g a 1 (H_st h 1), wHb g a 2 (H_st h 2), wHb g a 3 (H_st h 3), wHb g a 4 (H_st h 4), wHb g a 5 (H_st h 5), wHb g a 6 (H_st h 6), wHb g a 7 (H_st h 7), wB g a2 z1]) (rest := []) hx hb hml hown hts hK hE hA hl hP hD hS (c_X0_copyFrom g l a2 (fun k => a (2 + 9 * 0 + k)) b (H_st h 0) z1 hz1) [9, 1] [0, 2, 3, 4, 5, 6, 7, 8] [0, 9, 1, 2, 3, 4, 5, 6, 7, 8] ⟨rfl, rfl, rfl, rfl, rfl, rfl, rfl⟩ ⟨0, 4, _, _, rfl, rfl, rfl⟩ 1 (jb_giV mw_805 mw_709 mw_710 mw_2 mw_711) ⟨rfl, rfl⟩ (by decide +kernel) ⟨⟨(Nat.le_of_ble_eq_true rfl), (Nat.le_of_ble_eq_true rfl)⟩, (Nat.le_of_ble_eq_true rfl), (Nat.le_of_ble_eq_true rfl)⟩ ⟨rfl, rfl⟩ (Nat.le_of_ble_eq_true rfl) dX1_giveBack_17 (fun H locs hP hD hS => ?_)
      refine lv_aload_n hx hb dX1_giveBack_20 rfl (lv_at hl 0 rfl) ?_
      refine lv_aload_n hx hb dX1_giveBack_21 rfl (lv_at hl 0 rfl) ?_
      refine va_get (D := g.1) (ci := 5) (v := .int 0) (C := RX1) (T := TX1) (N := 3) hx hb hts inX1 hown hK hP 0 rfl rfl 1 (by decide) (hts _ mw_130) (fun _ h9 => h9) rfl dX1_giveBack_22 ?_
      refine lv_bipush (v := 8) hx hb dX1_giveBack_25 (by decide) ?_
      refine lv_iadd hx hb dX1_giveBack_27 ?_
      refine lv_iconst (v := 1) hx hb dX1_giveBack_28 (by decide) ?_
      refine lv_isub hx hb dX1_giveBack_29 ?_
      refine lv_bipush (v := 8) hx hb dX1_giveBack_30 (by decide) ?_
      refine lv_irem hx hb dX1_giveBack_32 (by decide) ?_
      refine lv_topi (fun y ey => ?_)
      rw [← ey] at hQ
      refine va_put (D := g.1) (ci := 5) (v := .int y) (ty := .int) (C := RX1) (T := TX1) (N := 3) hx hb hts inX1 tyX1 tyX1_ok nmX1 hown hK hP hD hS 0 rfl rfl 1 (by decide) (hts _ mw_130) (fun _ h9 => h9) rfl (by decide +kernel) rfl rfl (Nat.le_of_ble_eq_true rfl) dX1_giveBack_33 (fun H locs hP hD hS => ?_)
      have hP : va_P g.1 vwCl ([wH0 g a y (H_count h), wHb g a 0 (H_st h 0), wHb g a 1 (H_st h 1), wHb g a 2 (H_st h 2), wHb g a 3 (H_st h 3), wHb g a 4 (H_st h 4), wHb g a 5 (H_st h 5), wHb g a 6 (H_st h 6), wHb g a 7 (H_st h 7), wB g a2 z1] : List va_W).flatten _ := hP
      have hD : va_D A ([wH0 g a y (H_count h), wHb g a 0 (H_st h 0), wHb g a 1 (H_st h 1), wHb g a 2 (H_st h 2), wHb g a 3 (H_st h 3), wHb g a 4 (H_st h 4), wHb g a 5 (H_st h 5), wHb g a 6 (H_st h 6), wHb g a 7 (H_st h 7), wB g a2 z1] : List va_W).flatten := hD
      refine lv_aload_n hx hb dX1_giveBack_36 rfl (lv_at hl 0 rfl) ?_
      refine lv_dup hx hb dX1_giveBack_37 rfl ?_
      refine va_get (D := g.1) (ci := 5) (v := .int (H_count h)) (C := RX1) (T := TX1) (N := 3) hx hb hts inX1 hown hK hP 0 rfl rfl 2 (by decide) (hts _ mw_131) (fun _ h9 => h9) rfl dX1_giveBack_38 ?_
      refine lv_iconst (v := 1) hx hb dX1_giveBack_41 (by decide) ?_
      refine lv_isub hx hb dX1_giveBack_42 ?_
      refine va_put (D := g.1) (ci := 5) (v := .int (H_count h - 1)) (ty := .int) (C := RX1) (T := TX1) (N := 3) hx hb hts inX1 tyX1 tyX1_ok nmX1 hown hK hP hD hS 0 rfl rfl 2 (by decide) (hts _ mw_131) (fun _ h9 => h9) rfl (by decide +kernel) rfl rfl (Nat.le_of_ble_eq_true rfl) dX1_giveBack_43 (fun H locs hP hD hS => ?_)
      have hP : va_P g.1 vwCl ([wH g a (mkH y (H_count h - 1) (H_st h)), wB g a2 z1] : List va_W).flatten _ := hP
      have hD : va_D A ([wH g a (mkH y (H_count h - 1) (H_st h)), wB g a2 z1] : List va_W).flatten := hD
      rw [hQ]
      exact jb_vret hx hb hr hlocks hP hD hS dX1_giveBack_46 (Nat.le_of_ble_eq_true rfl) (Nat.le_of_ble_eq_true rfl)
    · refine va_aldq hx hb hK hP 1 3 rfl rfl (inb_in h8) dX1_giveBack_16 ?_
      refine W.eq (g2 := F0 m 17 ls [.ref (a 11), .ref (a2 0)]) rfl ?_
      refine cl_v (csR := [wH0 g a 1 (H_count h), wHb g a 0 (H_st h 0), wHb g a 2 (H_st h 2), wHb g a 3 (H_st h 3), wHb g a 4 (H_st h 4), wHb g a 5 (H_st h 5), wHb g a 6 (H_st h 6), wHb g a 7 (H_st h 7)]) (csF := [wH0 g a 1 (H_count h), wHb g a 0 (H_st h 0), wHb g a 1 (H_st h 1), wHb g a 2 (H_st h 2), wHb g a 3 (H_st h 3), wHb g a 4 (H_st h 4), wHb g a 5 (H_st h 5), wHb g a 6 (H_st h 6), wHb g a 7 (H_st h 7), wB g a2 z1]) (rest := []) hx hb hml hown hts hK hE hA hl hP hD hS (c_X0_copyFrom g l a2 (fun k => a (2 + 9 * 1 + k)) b (H_st h 1) z1 hz1) [9, 2] [0, 1, 3, 4, 5, 6, 7, 8] [0, 1, 9, 2, 3, 4, 5, 6, 7, 8] ⟨rfl, rfl, rfl, rfl, rfl, rfl, rfl⟩ ⟨0, 4, _, _, rfl, rfl, rfl⟩ 1 (jb_giV mw_805 mw_709 mw_710 mw_2 mw_711) ⟨rfl, rfl⟩ (by decide +kernel) ⟨⟨(Nat.le_of_ble_eq_true rfl), (Nat.le_of_ble_eq_true rfl)⟩, (Nat.le_of_ble_eq_true rfl), (Nat.le_of_ble_eq_true rfl)⟩ ⟨rfl, rfl⟩ (Nat.le_of_ble_eq_true rfl) dX1_giveBack_17 (fun H locs hP hD hS => ?_)
      refine lv_aload_n hx hb dX1_giveBack_20 rfl (lv_at hl 0 rfl) ?_
      refine lv_aload_n hx hb dX1_giveBack_21 rfl (lv_at hl 0 rfl) ?_
      refine va_get (D := g.1) (ci := 5) (v := .int 1) (C := RX1) (T := TX1) (N := 3) hx hb hts inX1 hown hK hP 0 rfl rfl 1 (by decide) (hts _ mw_130) (fun _ h9 => h9) rfl dX1_giveBack_22 ?_
      refine lv_bipush (v := 8) hx hb dX1_giveBack_25 (by decide) ?_
      refine lv_iadd hx hb dX1_giveBack_27 ?_
      refine lv_iconst (v := 1) hx hb dX1_giveBack_28 (by decide) ?_
      refine lv_isub hx hb dX1_giveBack_29 ?_
      refine lv_bipush (v := 8) hx hb dX1_giveBack_30 (by decide) ?_
      refine lv_irem hx hb dX1_giveBack_32 (by decide) ?_
      refine lv_topi (fun y ey => ?_)
      rw [← ey] at hQ
      refine va_put (D := g.1) (ci := 5) (v := .int y) (ty := .int) (C := RX1) (T := TX1) (N := 3) hx hb hts inX1 tyX1 tyX1_ok nmX1 hown hK hP hD hS 0 rfl rfl 1 (by decide) (hts _ mw_130) (fun _ h9 => h9) rfl (by decide +kernel) rfl rfl (Nat.le_of_ble_eq_true rfl) dX1_giveBack_33 (fun H locs hP hD hS => ?_)
      have hP : va_P g.1 vwCl ([wH0 g a y (H_count h), wHb g a 0 (H_st h 0), wHb g a 1 (H_st h 1), wHb g a 2 (H_st h 2), wHb g a 3 (H_st h 3), wHb g a 4 (H_st h 4), wHb g a 5 (H_st h 5), wHb g a 6 (H_st h 6), wHb g a 7 (H_st h 7), wB g a2 z1] : List va_W).flatten _ := hP
      have hD : va_D A ([wH0 g a y (H_count h), wHb g a 0 (H_st h 0), wHb g a 1 (H_st h 1), wHb g a 2 (H_st h 2), wHb g a 3 (H_st h 3), wHb g a 4 (H_st h 4), wHb g a 5 (H_st h 5), wHb g a 6 (H_st h 6), wHb g a 7 (H_st h 7), wB g a2 z1] : List va_W).flatten := hD
      refine lv_aload_n hx hb dX1_giveBack_36 rfl (lv_at hl 0 rfl) ?_
      refine lv_dup hx hb dX1_giveBack_37 rfl ?_
      refine va_get (D := g.1) (ci := 5) (v := .int (H_count h)) (C := RX1) (T := TX1) (N := 3) hx hb hts inX1 hown hK hP 0 rfl rfl 2 (by decide) (hts _ mw_131) (fun _ h9 => h9) rfl dX1_giveBack_38 ?_
      refine lv_iconst (v := 1) hx hb dX1_giveBack_41 (by decide) ?_
      refine lv_isub hx hb dX1_giveBack_42 ?_
      refine va_put (D := g.1) (ci := 5) (v := .int (H_count h - 1)) (ty := .int) (C := RX1) (T := TX1) (N := 3) hx hb hts inX1 tyX1 tyX1_ok nmX1 hown hK hP hD hS 0 rfl rfl 2 (by decide) (hts _ mw_131) (fun _ h9 => h9) rfl (by decide +kernel) rfl rfl (Nat.le_of_ble_eq_true rfl) dX1_giveBack_43 (fun H locs hP hD hS => ?_)
      have hP : va_P g.1 vwCl ([wH g a (mkH y (H_count h - 1) (H_st h)), wB g a2 z1] : List va_W).flatten _ := hP
      have hD : va_D A ([wH g a (mkH y (H_count h - 1) (H_st h)), wB g a2 z1] : List va_W).flatten := hD
      rw [hQ]
      exact jb_vret hx hb hr hlocks hP hD hS dX1_giveBack_46 (Nat.le_of_ble_eq_true rfl) (Nat.le_of_ble_eq_true rfl)
    · refine va_aldq hx hb hK hP 1 3 rfl rfl (inb_in h8) dX1_giveBack_16 ?_
      refine W.eq (g2 := F0 m 17 ls [.ref (a 20), .ref (a2 0)]) rfl ?_
      refine cl_v (csR := [wH0 g a 2 (H_count h), wHb g a 0 (H_st h 0), wHb g a 1 (H_st h 1), wHb g a 3 (H_st h 3), wHb g a 4 (H_st h 4), wHb g a 5 (H_st h 5), wHb g a 6 (H_st h 6), wHb g a 7 (H_st h 7)]) (csF := [wH0 g a 2 (H_count h), wHb g a 0 (H_st h 0), wHb g a 1 (H_st h 1), wHb g a 2 (H_st h 2), wHb g a 3 (H_st h 3), wHb g a 4 (H_st h 4), wHb g a 5 (H_st h 5), wHb g a 6 (H_st h 6), wHb g a 7 (H_st h 7), wB g a2 z1]) (rest := []) hx hb hml hown hts hK hE hA hl hP hD hS (c_X0_copyFrom g l a2 (fun k => a (2 + 9 * 2 + k)) b (H_st h 2) z1 hz1) [9, 3] [0, 1, 2, 4, 5, 6, 7, 8] [0, 1, 2, 9, 3, 4, 5, 6, 7, 8] ⟨rfl, rfl, rfl, rfl, rfl, rfl, rfl⟩ ⟨0, 4, _, _, rfl, rfl, rfl⟩ 1 (jb_giV mw_805 mw_709 mw_710 mw_2 mw_711) ⟨rfl, rfl⟩ (by decide +kernel) ⟨⟨(Nat.le_of_ble_eq_true rfl), (Nat.le_of_ble_eq_true rfl)⟩, (Nat.le_of_ble_eq_true rfl), (Nat.le_of_ble_eq_true rfl)⟩ ⟨rfl, rfl⟩ (Nat.le_of_ble_eq_true rfl) dX1_giveBack_17 (fun H locs hP hD hS => ?_)
      refine lv_aload_n hx hb dX1_giveBack_20 rfl (lv_at hl 0 rfl) ?_
      refine lv_aload_n hx hb dX1_giveBack_21 rfl (lv_at hl 0 rfl) ?_
      refine va_get (D := g.1) (ci := 5) (v := .int 2) (C := RX1) (T := TX1) (N := 3) hx hb hts inX1 hown hK hP 0 rfl rfl 1 (by decide) (hts _ mw_130) (fun _ h9 => h9) rfl dX1_giveBack_22 ?_
      refine lv_bipush (v := 8) hx hb dX1_giveBack_25 (by decide) ?_
      refine lv_iadd hx hb dX1_giveBack_27 ?_
      refine lv_iconst (v := 1) hx hb dX1_giveBack_28 (by decide) ?_
      refine lv_isub hx hb dX1_giveBack_29 ?_
      refine lv_bipush (v := 8) hx hb dX1_giveBack_30 (by decide) ?_
      refine lv_irem hx hb dX1_giveBack_32 (by decide) ?_
      refine lv_topi (fun y ey => ?_)
      rw [← ey] at hQ
      refine va_put (D := g.1) (ci := 5) (v := .int y) (ty := .int) (C := RX1) (T := TX1) (N := 3) hx hb hts inX1 tyX1 tyX1_ok nmX1 hown hK hP hD hS 0 rfl rfl 1 (by decide) (hts _ mw_130) (fun _ h9 => h9) rfl (by decide +kernel) rfl rfl (Nat.le_of_ble_eq_true rfl) dX1_giveBack_33 (fun H locs hP hD hS => ?_)
      have hP : va_P g.1 vwCl ([wH0 g a y (H_count h), wHb g a 0 (H_st h 0), wHb g a 1 (H_st h 1), wHb g a 2 (H_st h 2), wHb g a 3 (H_st h 3), wHb g a 4 (H_st h 4), wHb g a 5 (H_st h 5), wHb g a 6 (H_st h 6), wHb g a 7 (H_st h 7), wB g a2 z1] : List va_W).flatten _ := hP
      have hD : va_D A ([wH0 g a y (H_count h), wHb g a 0 (H_st h 0), wHb g a 1 (H_st h 1), wHb g a 2 (H_st h 2), wHb g a 3 (H_st h 3), wHb g a 4 (H_st h 4), wHb g a 5 (H_st h 5), wHb g a 6 (H_st h 6), wHb g a 7 (H_st h 7), wB g a2 z1] : List va_W).flatten := hD
      refine lv_aload_n hx hb dX1_giveBack_36 rfl (lv_at hl 0 rfl) ?_
      refine lv_dup hx hb dX1_giveBack_37 rfl ?_
      refine va_get (D := g.1) (ci := 5) (v := .int (H_count h)) (C := RX1) (T := TX1) (N := 3) hx hb hts inX1 hown hK hP 0 rfl rfl 2 (by decide) (hts _ mw_131) (fun _ h9 => h9) rfl dX1_giveBack_38 ?_
      refine lv_iconst (v := 1) hx hb dX1_giveBack_41 (by decide) ?_
      refine lv_isub hx hb dX1_giveBack_42 ?_
      refine va_put (D := g.1) (ci := 5) (v := .int (H_count h - 1)) (ty := .int) (C := RX1) (T := TX1) (N := 3) hx hb hts inX1 tyX1 tyX1_ok nmX1 hown hK hP hD hS 0 rfl rfl 2 (by decide) (hts _ mw_131) (fun _ h9 => h9) rfl (by decide +kernel) rfl rfl (Nat.le_of_ble_eq_true rfl) dX1_giveBack_43 (fun H locs hP hD hS => ?_)
      have hP : va_P g.1 vwCl ([wH g a (mkH y (H_count h - 1) (H_st h)), wB g a2 z1] : List va_W).flatten _ := hP
      have hD : va_D A ([wH g a (mkH y (H_count h - 1) (H_st h)), wB g a2 z1] : List va_W).flatten := hD
      rw [hQ]
      exact jb_vret hx hb hr hlocks hP hD hS dX1_giveBack_46 (Nat.le_of_ble_eq_true rfl) (Nat.le_of_ble_eq_true rfl)
    · refine va_aldq hx hb hK hP 1 3 rfl rfl (inb_in h8) dX1_giveBack_16 ?_
      refine W.eq (g2 := F0 m 17 ls [.ref (a 29), .ref (a2 0)]) rfl ?_
      refine cl_v (csR := [wH0 g a 3 (H_count h), wHb g a 0 (H_st h 0), wHb g a 1 (H_st h 1), wHb g a 2 (H_st h 2), wHb g a 4 (H_st h 4), wHb g a 5 (H_st h 5), wHb g a 6 (H_st h 6), wHb g a 7 (H_st h 7)]) (csF := [wH0 g a 3 (H_count h), wHb g a 0 (H_st h 0), wHb g a 1 (H_st h 1), wHb g a 2 (H_st h 2), wHb g a 3 (H_st h 3), wHb g a 4 (H_st h 4), wHb g a 5 (H_st h 5), wHb g a 6 (H_st h 6), wHb g a 7 (H_st h 7), wB g a2 z1]) (rest := []) hx hb hml hown hts hK hE hA hl hP hD hS (c_X0_copyFrom g l a2 (fun k => a (2 + 9 * 3 + k)) b (H_st h 3) z1 hz1) [9, 4] [0, 1, 2, 3, 5, 6, 7, 8] [0, 1, 2, 3, 9, 4, 5, 6, 7, 8] ⟨rfl, rfl, rfl, rfl, rfl, rfl, rfl⟩ ⟨0, 4, _, _, rfl, rfl, rfl⟩ 1 (jb_giV mw_805 mw_709 mw_710 mw_2 mw_711) ⟨rfl, rfl⟩ (by decide +kernel) ⟨⟨(Nat.le_of_ble_eq_true rfl), (Nat.le_of_ble_eq_true rfl)⟩, (Nat.le_of_ble_eq_true rfl), (Nat.le_of_ble_eq_true rfl)⟩ ⟨rfl, rfl⟩ (Nat.le_of_ble_eq_true rfl) dX1_giveBack_17 (fun H locs hP hD hS => ?_)
      refine lv_aload_n hx hb dX1_giveBack_20 rfl (lv_at hl 0 rfl) ?_
      refine lv_aload_n hx hb dX1_giveBack_21 rfl (lv_at hl 0 rfl) ?_
      refine va_get (D := g.1) (ci := 5) (v := .int 3) (C := RX1) (T := TX1) (N := 3) hx hb hts inX1 hown hK hP 0 rfl rfl 1 (by decide) (hts _ mw_130) (fun _ h9 => h9) rfl dX1_giveBack_22 ?_
      refine lv_bipush (v := 8) hx hb dX1_giveBack_25 (by decide) ?_
      refine lv_iadd hx hb dX1_giveBack_27 ?_
      refine lv_iconst (v := 1) hx hb dX1_giveBack_28 (by decide) ?_
      refine lv_isub hx hb dX1_giveBack_29 ?_
      refine lv_bipush (v := 8) hx hb dX1_giveBack_30 (by decide) ?_
      refine lv_irem hx hb dX1_giveBack_32 (by decide) ?_
      refine lv_topi (fun y ey => ?_)
      rw [← ey] at hQ
      refine va_put (D := g.1) (ci := 5) (v := .int y) (ty := .int) (C := RX1) (T := TX1) (N := 3) hx hb hts inX1 tyX1 tyX1_ok nmX1 hown hK hP hD hS 0 rfl rfl 1 (by decide) (hts _ mw_130) (fun _ h9 => h9) rfl (by decide +kernel) rfl rfl (Nat.le_of_ble_eq_true rfl) dX1_giveBack_33 (fun H locs hP hD hS => ?_)
      have hP : va_P g.1 vwCl ([wH0 g a y (H_count h), wHb g a 0 (H_st h 0), wHb g a 1 (H_st h 1), wHb g a 2 (H_st h 2), wHb g a 3 (H_st h 3), wHb g a 4 (H_st h 4), wHb g a 5 (H_st h 5), wHb g a 6 (H_st h 6), wHb g a 7 (H_st h 7), wB g a2 z1] : List va_W).flatten _ := hP
      have hD : va_D A ([wH0 g a y (H_count h), wHb g a 0 (H_st h 0), wHb g a 1 (H_st h 1), wHb g a 2 (H_st h 2), wHb g a 3 (H_st h 3), wHb g a 4 (H_st h 4), wHb g a 5 (H_st h 5), wHb g a 6 (H_st h 6), wHb g a 7 (H_st h 7), wB g a2 z1] : List va_W).flatten := hD
      refine lv_aload_n hx hb dX1_giveBack_36 rfl (lv_at hl 0 rfl) ?_
      refine lv_dup hx hb dX1_giveBack_37 rfl ?_
      refine va_get (D := g.1) (ci := 5) (v := .int (H_count h)) (C := RX1) (T := TX1) (N := 3) hx hb hts inX1 hown hK hP 0 rfl rfl 2 (by decide) (hts _ mw_131) (fun _ h9 => h9) rfl dX1_giveBack_38 ?_
      refine lv_iconst (v := 1) hx hb dX1_giveBack_41 (by decide) ?_
      refine lv_isub hx hb dX1_giveBack_42 ?_
      refine va_put (D := g.1) (ci := 5) (v := .int (H_count h - 1)) (ty := .int) (C := RX1) (T := TX1) (N := 3) hx hb hts inX1 tyX1 tyX1_ok nmX1 hown hK hP hD hS 0 rfl rfl 2 (by decide) (hts _ mw_131) (fun _ h9 => h9) rfl (by decide +kernel) rfl rfl (Nat.le_of_ble_eq_true rfl) dX1_giveBack_43 (fun H locs hP hD hS => ?_)
      have hP : va_P g.1 vwCl ([wH g a (mkH y (H_count h - 1) (H_st h)), wB g a2 z1] : List va_W).flatten _ := hP
      have hD : va_D A ([wH g a (mkH y (H_count h - 1) (H_st h)), wB g a2 z1] : List va_W).flatten := hD
      rw [hQ]
      exact jb_vret hx hb hr hlocks hP hD hS dX1_giveBack_46 (Nat.le_of_ble_eq_true rfl) (Nat.le_of_ble_eq_true rfl)
    · refine va_aldq hx hb hK hP 1 3 rfl rfl (inb_in h8) dX1_giveBack_16 ?_
      refine W.eq (g2 := F0 m 17 ls [.ref (a 38), .ref (a2 0)]) rfl ?_
      refine cl_v (csR := [wH0 g a 4 (H_count h), wHb g a 0 (H_st h 0), wHb g a 1 (H_st h 1), wHb g a 2 (H_st h 2), wHb g a 3 (H_st h 3), wHb g a 5 (H_st h 5), wHb g a 6 (H_st h 6), wHb g a 7 (H_st h 7)]) (csF := [wH0 g a 4 (H_count h), wHb g a 0 (H_st h 0), wHb g a 1 (H_st h 1), wHb g a 2 (H_st h 2), wHb g a 3 (H_st h 3), wHb g a 4 (H_st h 4), wHb g a 5 (H_st h 5), wHb g a 6 (H_st h 6), wHb g a 7 (H_st h 7), wB g a2 z1]) (rest := []) hx hb hml hown hts hK hE hA hl hP hD hS (c_X0_copyFrom g l a2 (fun k => a (2 + 9 * 4 + k)) b (H_st h 4) z1 hz1) [9, 5] [0, 1, 2, 3, 4, 6, 7, 8] [0, 1, 2, 3, 4, 9, 5, 6, 7, 8] ⟨rfl, rfl, rfl, rfl, rfl, rfl, rfl⟩ ⟨0, 4, _, _, rfl, rfl, rfl⟩ 1 (jb_giV mw_805 mw_709 mw_710 mw_2 mw_711) ⟨rfl, rfl⟩ (by decide +kernel) ⟨⟨(Nat.le_of_ble_eq_true rfl), (Nat.le_of_ble_eq_true rfl)⟩, (Nat.le_of_ble_eq_true rfl), (Nat.le_of_ble_eq_true rfl)⟩ ⟨rfl, rfl⟩ (Nat.le_of_ble_eq_true rfl) dX1_giveBack_17 (fun H locs hP hD hS => ?_)
      refine lv_aload_n hx hb dX1_giveBack_20 rfl (lv_at hl 0 rfl) ?_
      refine lv_aload_n hx hb dX1_giveBack_21 rfl (lv_at hl 0 rfl) ?_
      refine va_get (D := g.1) (ci := 5) (v := .int 4) (C := RX1) (T := TX1) (N := 3) hx hb hts inX1 hown hK hP 0 rfl rfl 1 (by decide) (hts _ mw_130) (fun _ h9 => h9) rfl dX1_giveBack_22 ?_
      refine lv_bipush (v := 8) hx hb dX1_giveBack_25 (by decide) ?_
      refine lv_iadd hx hb dX1_giveBack_27 ?_
      refine lv_iconst (v := 1) hx hb dX1_giveBack_28 (by decide) ?_
      refine lv_isub hx hb dX1_giveBack_29 ?_
      refine lv_bipush (v := 8) hx hb dX1_giveBack_30 (by decide) ?_
      refine lv_irem hx hb dX1_giveBack_32 (by decide) ?_
      refine lv_topi (fun y ey => ?_)
      rw [← ey] at hQ
      refine va_put (D := g.1) (ci := 5) (v := .int y) (ty := .int) (C := RX1) (T := TX1) (N := 3) hx hb hts inX1 tyX1 tyX1_ok nmX1 hown hK hP hD hS 0 rfl rfl 1 (by decide) (hts _ mw_130) (fun _ h9 => h9) rfl (by decide +kernel) rfl rfl (Nat.le_of_ble_eq_true rfl) dX1_giveBack_33 (fun H locs hP hD hS => ?_)
      have hP : va_P g.1 vwCl ([wH0 g a y (H_count h), wHb g a 0 (H_st h 0), wHb g a 1 (H_st h 1), wHb g a 2 (H_st h 2), wHb g a 3 (H_st h 3), wHb g a 4 (H_st h 4), wHb g a 5 (H_st h 5), wHb g a 6 (H_st h 6), wHb g a 7 (H_st h 7), wB g a2 z1] : List va_W).flatten _ := hP
      have hD : va_D A ([wH0 g a y (H_count h), wHb g a 0 (H_st h 0), wHb g a 1 (H_st h 1), wHb g a 2 (H_st h 2), wHb g a 3 (H_st h 3), wHb g a 4 (H_st h 4), wHb g a 5 (H_st h 5), wHb g a 6 (H_st h 6), wHb g a 7 (H_st h 7), wB g a2 z1] : List va_W).flatten := hD
      refine lv_aload_n hx hb dX1_giveBack_36 rfl (lv_at hl 0 rfl) ?_
      refine lv_dup hx hb dX1_giveBack_37 rfl ?_
      refine va_get (D := g.1) (ci := 5) (v := .int (H_count h)) (C := RX1) (T := TX1) (N := 3) hx hb hts inX1 hown hK hP 0 rfl rfl 2 (by decide) (hts _ mw_131) (fun _ h9 => h9) rfl dX1_giveBack_38 ?_
      refine lv_iconst (v := 1) hx hb dX1_giveBack_41 (by decide) ?_
      refine lv_isub hx hb dX1_giveBack_42 ?_
      refine va_put (D := g.1) (ci := 5) (v := .int (H_count h - 1)) (ty := .int) (C := RX1) (T := TX1) (N := 3) hx hb hts inX1 tyX1 tyX1_ok nmX1 hown hK hP hD hS 0 rfl rfl 2 (by decide) (hts _ mw_131) (fun _ h9 => h9) rfl (by decide +kernel) rfl rfl (Nat.le_of_ble_eq_true rfl) dX1_giveBack_43 (fun H locs hP hD hS => ?_)
      have hP : va_P g.1 vwCl ([wH g a (mkH y (H_count h - 1) (H_st h)), wB g a2 z1] : List va_W).flatten _ := hP
      have hD : va_D A ([wH g a (mkH y (H_count h - 1) (H_st h)), wB g a2 z1] : List va_W).flatten := hD
      rw [hQ]
      exact jb_vret hx hb hr hlocks hP hD hS dX1_giveBack_46 (Nat.le_of_ble_eq_true rfl) (Nat.le_of_ble_eq_true rfl)
    · refine va_aldq hx hb hK hP 1 3 rfl rfl (inb_in h8) dX1_giveBack_16 ?_
      refine W.eq (g2 := F0 m 17 ls [.ref (a 47), .ref (a2 0)]) rfl ?_
      refine cl_v (csR := [wH0 g a 5 (H_count h), wHb g a 0 (H_st h 0), wHb g a 1 (H_st h 1), wHb g a 2 (H_st h 2), wHb g a 3 (H_st h 3), wHb g a 4 (H_st h 4), wHb g a 6 (H_st h 6), wHb g a 7 (H_st h 7)]) (csF := [wH0 g a 5 (H_count h), wHb g a 0 (H_st h 0), wHb g a 1 (H_st h 1), wHb g a 2 (H_st h 2), wHb g a 3 (H_st h 3), wHb g a 4 (H_st h 4), wHb g a 5 (H_st h 5), wHb g a 6 (H_st h 6), wHb g a 7 (H_st h 7), wB g a2 z1]) (rest := []) hx hb hml hown hts hK hE hA hl hP hD hS (c_X0_copyFrom g l a2 (fun k => a (2 + 9 * 5 + k)) b (H_st h 5) z1 hz1) [9, 6] [0, 1, 2, 3, 4, 5, 7, 8] [0, 1, 2, 3, 4, 5, 9, 6, 7, 8] ⟨rfl, rfl, rfl, rfl, rfl, rfl, rfl⟩ ⟨0, 4, _, _, rfl, rfl, rfl⟩ 1 (jb_giV mw_805 mw_709 mw_710 mw_2 mw_711) ⟨rfl, rfl⟩ (by decide +kernel) ⟨⟨(Nat.le_of_ble_eq_true rfl), (Nat.le_of_ble_eq_true rfl)⟩, (Nat.le_of_ble_eq_true rfl), (Nat.le_of_ble_eq_true rfl)⟩ ⟨rfl, rfl⟩ (Nat.le_of_ble_eq_true rfl) dX1_giveBack_17 (fun H locs hP hD hS => ?_)
      refine lv_aload_n hx hb dX1_giveBack_20 rfl (lv_at hl 0 rfl) ?_
      refine lv_aload_n hx hb dX1_giveBack_21 rfl (lv_at hl 0 rfl) ?_
      refine va_get (D := g.1) (ci := 5) (v := .int 5) (C := RX1) (T := TX1) (N := 3) hx hb hts inX1 hown hK hP 0 rfl rfl 1 (by decide) (hts _ mw_130) (fun _ h9 => h9) rfl dX1_giveBack_22 ?_
      refine lv_bipush (v := 8) hx hb dX1_giveBack_25 (by decide) ?_
      refine lv_iadd hx hb dX1_giveBack_27 ?_
      refine lv_iconst (v := 1) hx hb dX1_giveBack_28 (by decide) ?_
      refine lv_isub hx hb dX1_giveBack_29 ?_
      refine lv_bipush (v := 8) hx hb dX1_giveBack_30 (by decide) ?_
      refine lv_irem hx hb dX1_giveBack_32 (by decide) ?_
      refine lv_topi (fun y ey => ?_)
      rw [← ey] at hQ
      refine va_put (D := g.1) (ci := 5) (v := .int y) (ty := .int) (C := RX1) (T := TX1) (N := 3) hx hb hts inX1 tyX1 tyX1_ok nmX1 hown hK hP hD hS 0 rfl rfl 1 (by decide) (hts _ mw_130) (fun _ h9 => h9) rfl (by decide +kernel) rfl rfl (Nat.le_of_ble_eq_true rfl) dX1_giveBack_33 (fun H locs hP hD hS => ?_)
      have hP : va_P g.1 vwCl ([wH0 g a y (H_count h), wHb g a 0 (H_st h 0), wHb g a 1 (H_st h 1), wHb g a 2 (H_st h 2), wHb g a 3 (H_st h 3), wHb g a 4 (H_st h 4), wHb g a 5 (H_st h 5), wHb g a 6 (H_st h 6), wHb g a 7 (H_st h 7), wB g a2 z1] : List va_W).flatten _ := hP
      have hD : va_D A ([wH0 g a y (H_count h), wHb g a 0 (H_st h 0), wHb g a 1 (H_st h 1), wHb g a 2 (H_st h 2), wHb g a 3 (H_st h 3), wHb g a 4 (H_st h 4), wHb g a 5 (H_st h 5), wHb g a 6 (H_st h 6), wHb g a 7 (H_st h 7), wB g a2 z1] : List va_W).flatten := hD
      refine lv_aload_n hx hb dX1_giveBack_36 rfl (lv_at hl 0 rfl) ?_
      refine lv_dup hx hb dX1_giveBack_37 rfl ?_
      refine va_get (D := g.1) (ci := 5) (v := .int (H_count h)) (C := RX1) (T := TX1) (N := 3) hx hb hts inX1 hown hK hP 0 rfl rfl 2 (by decide) (hts _ mw_131) (fun _ h9 => h9) rfl dX1_giveBack_38 ?_
      refine lv_iconst (v := 1) hx hb dX1_giveBack_41 (by decide) ?_
      refine lv_isub hx hb dX1_giveBack_42 ?_
      refine va_put (D := g.1) (ci := 5) (v := .int (H_count h - 1)) (ty := .int) (C := RX1) (T := TX1) (N := 3) hx hb hts inX1 tyX1 tyX1_ok nmX1 hown hK hP hD hS 0 rfl rfl 2 (by decide) (hts _ mw_131) (fun _ h9 => h9) rfl (by decide +kernel) rfl rfl (Nat.le_of_ble_eq_true rfl) dX1_giveBack_43 (fun H locs hP hD hS => ?_)
      have hP : va_P g.1 vwCl ([wH g a (mkH y (H_count h - 1) (H_st h)), wB g a2 z1] : List va_W).flatten _ := hP
      have hD : va_D A ([wH g a (mkH y (H_count h - 1) (H_st h)), wB g a2 z1] : List va_W).flatten := hD
      rw [hQ]
      exact jb_vret hx hb hr hlocks hP hD hS dX1_giveBack_46 (Nat.le_of_ble_eq_true rfl) (Nat.le_of_ble_eq_true rfl)
    · refine va_aldq hx hb hK hP 1 3 rfl rfl (inb_in h8) dX1_giveBack_16 ?_
      refine W.eq (g2 := F0 m 17 ls [.ref (a 56), .ref (a2 0)]) rfl ?_
      refine cl_v (csR := [wH0 g a 6 (H_count h), wHb g a 0 (H_st h 0), wHb g a 1 (H_st h 1), wHb g a 2 (H_st h 2), wHb g a 3 (H_st h 3), wHb g a 4 (H_st h 4), wHb g a 5 (H_st h 5), wHb g a 7 (H_st h 7)]) (csF := [wH0 g a 6 (H_count h), wHb g a 0 (H_st h 0), wHb g a 1 (H_st h 1), wHb g a 2 (H_st h 2), wHb g a 3 (H_st h 3), wHb g a 4 (H_st h 4), wHb g a 5 (H_st h 5), wHb g a 6 (H_st h 6), wHb g a 7 (H_st h 7), wB g a2 z1]) (rest := []) hx hb hml hown hts hK hE hA hl hP hD hS (c_X0_copyFrom g l a2 (fun k => a (2 + 9 * 6 + k)) b (H_st h 6) z1 hz1) [9, 7] [0, 1, 2, 3, 4, 5, 6, 8] [0, 1, 2, 3, 4, 5, 6, 9, 7, 8] ⟨rfl, rfl, rfl, rfl, rfl, rfl, rfl⟩ ⟨0, 4, _, _, rfl, rfl, rfl⟩ 1 (jb_giV mw_805 mw_709 mw_710 mw_2 mw_711) ⟨rfl, rfl⟩ (by decide +kernel) ⟨⟨(Nat.le_of_ble_eq_true rfl), (Nat.le_of_ble_eq_true rfl)⟩, (Nat.le_of_ble_eq_true rfl), (Nat.le_of_ble_eq_true rfl)⟩ ⟨rfl, rfl⟩ (Nat.le_of_ble_eq_true rfl) dX1_giveBack_17 (fun H locs hP hD hS => ?_)
      refine lv_aload_n hx hb dX1_giveBack_20 rfl (lv_at hl 0 rfl) ?_
      refine lv_aload_n hx hb dX1_giveBack_21 rfl (lv_at hl 0 rfl) ?_
      refine va_get (D := g.1) (ci := 5) (v := .int 6) (C := RX1) (T := TX1) (N := 3) hx hb hts inX1 hown hK hP 0 rfl rfl 1 (by decide) (hts _ mw_130) (fun _ h9 => h9) rfl dX1_giveBack_22 ?_
      refine lv_bipush (v := 8) hx hb dX1_giveBack_25 (by decide) ?_
      refine lv_iadd hx hb dX1_giveBack_27 ?_
      refine lv_iconst (v := 1) hx hb dX1_giveBack_28 (by decide) ?_
      refine lv_isub hx hb dX1_giveBack_29 ?_
      refine lv_bipush (v := 8) hx hb dX1_giveBack_30 (by decide) ?_
      refine lv_irem hx hb dX1_giveBack_32 (by decide) ?_
      refine lv_topi (fun y ey => ?_)
      rw [← ey] at hQ
      refine va_put (D := g.1) (ci := 5) (v := .int y) (ty := .int) (C := RX1) (T := TX1) (N := 3) hx hb hts inX1 tyX1 tyX1_ok nmX1 hown hK hP hD hS 0 rfl rfl 1 (by decide) (hts _ mw_130) (fun _ h9 => h9) rfl (by decide +kernel) rfl rfl (Nat.le_of_ble_eq_true rfl) dX1_giveBack_33 (fun H locs hP hD hS => ?_)
      have hP : va_P g.1 vwCl ([wH0 g a y (H_count h), wHb g a 0 (H_st h 0), wHb g a 1 (H_st h 1), wHb g a 2 (H_st h 2), wHb g a 3 (H_st h 3), wHb g a 4 (H_st h 4), wHb g a 5 (H_st h 5), wHb g a 6 (H_st h 6), wHb g a 7 (H_st h 7), wB g a2 z1] : List va_W).flatten _ := hP
      have hD : va_D A ([wH0 g a y (H_count h), wHb g a 0 (H_st h 0), wHb g a 1 (H_st h 1), wHb g a 2 (H_st h 2), wHb g a 3 (H_st h 3), wHb g a 4 (H_st h 4), wHb g a 5 (H_st h 5), wHb g a 6 (H_st h 6), wHb g a 7 (H_st h 7), wB g a2 z1] : List va_W).flatten := hD
      refine lv_aload_n hx hb dX1_giveBack_36 rfl (lv_at hl 0 rfl) ?_
      refine lv_dup hx hb dX1_giveBack_37 rfl ?_
      refine va_get (D := g.1) (ci := 5) (v := .int (H_count h)) (C := RX1) (T := TX1) (N := 3) hx hb hts inX1 hown hK hP 0 rfl rfl 2 (by decide) (hts _ mw_131) (fun _ h9 => h9) rfl dX1_giveBack_38 ?_
      refine lv_iconst (v := 1) hx hb dX1_giveBack_41 (by decide) ?_
      refine lv_isub hx hb dX1_giveBack_42 ?_
      refine va_put (D := g.1) (ci := 5) (v := .int (H_count h - 1)) (ty := .int) (C := RX1) (T := TX1) (N := 3) hx hb hts inX1 tyX1 tyX1_ok nmX1 hown hK hP hD hS 0 rfl rfl 2 (by decide) (hts _ mw_131) (fun _ h9 => h9) rfl (by decide +kernel) rfl rfl (Nat.le_of_ble_eq_true rfl) dX1_giveBack_43 (fun H locs hP hD hS => ?_)
      have hP : va_P g.1 vwCl ([wH g a (mkH y (H_count h - 1) (H_st h)), wB g a2 z1] : List va_W).flatten _ := hP
      have hD : va_D A ([wH g a (mkH y (H_count h - 1) (H_st h)), wB g a2 z1] : List va_W).flatten := hD
      rw [hQ]
      exact jb_vret hx hb hr hlocks hP hD hS dX1_giveBack_46 (Nat.le_of_ble_eq_true rfl) (Nat.le_of_ble_eq_true rfl)
    · refine va_aldq hx hb hK hP 1 3 rfl rfl (inb_in h8) dX1_giveBack_16 ?_
      refine W.eq (g2 := F0 m 17 ls [.ref (a 65), .ref (a2 0)]) rfl ?_
      refine cl_v (csR := [wH0 g a 7 (H_count h), wHb g a 0 (H_st h 0), wHb g a 1 (H_st h 1), wHb g a 2 (H_st h 2), wHb g a 3 (H_st h 3), wHb g a 4 (H_st h 4), wHb g a 5 (H_st h 5), wHb g a 6 (H_st h 6)]) (csF := [wH0 g a 7 (H_count h), wHb g a 0 (H_st h 0), wHb g a 1 (H_st h 1), wHb g a 2 (H_st h 2), wHb g a 3 (H_st h 3), wHb g a 4 (H_st h 4), wHb g a 5 (H_st h 5), wHb g a 6 (H_st h 6), wHb g a 7 (H_st h 7), wB g a2 z1]) (rest := []) hx hb hml hown hts hK hE hA hl hP hD hS (c_X0_copyFrom g l a2 (fun k => a (2 + 9 * 7 + k)) b (H_st h 7) z1 hz1) [9, 8] [0, 1, 2, 3, 4, 5, 6, 7] [0, 1, 2, 3, 4, 5, 6, 7, 9, 8] ⟨rfl, rfl, rfl, rfl, rfl, rfl, rfl⟩ ⟨0, 4, _, _, rfl, rfl, rfl⟩ 1 (jb_giV mw_805 mw_709 mw_710 mw_2 mw_711) ⟨rfl, rfl⟩ (by decide +kernel) ⟨⟨(Nat.le_of_ble_eq_true rfl), (Nat.le_of_ble_eq_true rfl)⟩, (Nat.le_of_ble_eq_true rfl), (Nat.le_of_ble_eq_true rfl)⟩ ⟨rfl, rfl⟩ (Nat.le_of_ble_eq_true rfl) dX1_giveBack_17 (fun H locs hP hD hS => ?_)
      refine lv_aload_n hx hb dX1_giveBack_20 rfl (lv_at hl 0 rfl) ?_
      refine lv_aload_n hx hb dX1_giveBack_21 rfl (lv_at hl 0 rfl) ?_
      refine va_get (D := g.1) (ci := 5) (v := .int 7) (C := RX1) (T := TX1) (N := 3) hx hb hts inX1 hown hK hP 0 rfl rfl 1 (by decide) (hts _ mw_130) (fun _ h9 => h9) rfl dX1_giveBack_22 ?_
      refine lv_bipush (v := 8) hx hb dX1_giveBack_25 (by decide) ?_
      refine lv_iadd hx hb dX1_giveBack_27 ?_
      refine lv_iconst (v := 1) hx hb dX1_giveBack_28 (by decide) ?_
      refine lv_isub hx hb dX1_giveBack_29 ?_
      refine lv_bipush (v := 8) hx hb dX1_giveBack_30 (by decide) ?_
      refine lv_irem hx hb dX1_giveBack_32 (by decide) ?_
      refine lv_topi (fun y ey => ?_)
      rw [← ey] at hQ
      refine va_put (D := g.1) (ci := 5) (v := .int y) (ty := .int) (C := RX1) (T := TX1) (N := 3) hx hb hts inX1 tyX1 tyX1_ok nmX1 hown hK hP hD hS 0 rfl rfl 1 (by decide) (hts _ mw_130) (fun _ h9 => h9) rfl (by decide +kernel) rfl rfl (Nat.le_of_ble_eq_true rfl) dX1_giveBack_33 (fun H locs hP hD hS => ?_)
      have hP : va_P g.1 vwCl ([wH0 g a y (H_count h), wHb g a 0 (H_st h 0), wHb g a 1 (H_st h 1), wHb g a 2 (H_st h 2), wHb g a 3 (H_st h 3), wHb g a 4 (H_st h 4), wHb g a 5 (H_st h 5), wHb g a 6 (H_st h 6), wHb g a 7 (H_st h 7), wB g a2 z1] : List va_W).flatten _ := hP
      have hD : va_D A ([wH0 g a y (H_count h), wHb g a 0 (H_st h 0), wHb g a 1 (H_st h 1), wHb g a 2 (H_st h 2), wHb g a 3 (H_st h 3), wHb g a 4 (H_st h 4), wHb g a 5 (H_st h 5), wHb g a 6 (H_st h 6), wHb g a 7 (H_st h 7), wB g a2 z1] : List va_W).flatten := hD
      refine lv_aload_n hx hb dX1_giveBack_36 rfl (lv_at hl 0 rfl) ?_
      refine lv_dup hx hb dX1_giveBack_37 rfl ?_
      refine va_get (D := g.1) (ci := 5) (v := .int (H_count h)) (C := RX1) (T := TX1) (N := 3) hx hb hts inX1 hown hK hP 0 rfl rfl 2 (by decide) (hts _ mw_131) (fun _ h9 => h9) rfl dX1_giveBack_38 ?_
      refine lv_iconst (v := 1) hx hb dX1_giveBack_41 (by decide) ?_
      refine lv_isub hx hb dX1_giveBack_42 ?_
      refine va_put (D := g.1) (ci := 5) (v := .int (H_count h - 1)) (ty := .int) (C := RX1) (T := TX1) (N := 3) hx hb hts inX1 tyX1 tyX1_ok nmX1 hown hK hP hD hS 0 rfl rfl 2 (by decide) (hts _ mw_131) (fun _ h9 => h9) rfl (by decide +kernel) rfl rfl (Nat.le_of_ble_eq_true rfl) dX1_giveBack_43 (fun H locs hP hD hS => ?_)
      have hP : va_P g.1 vwCl ([wH g a (mkH y (H_count h - 1) (H_st h)), wB g a2 z1] : List va_W).flatten _ := hP
      have hD : va_D A ([wH g a (mkH y (H_count h - 1) (H_st h)), wB g a2 z1] : List va_W).flatten := hD
      rw [hQ]
      exact jb_vret hx hb hr hlocks hP hD hS dX1_giveBack_46 (Nat.le_of_ble_eq_true rfl) (Nat.le_of_ble_eq_true rfl)
