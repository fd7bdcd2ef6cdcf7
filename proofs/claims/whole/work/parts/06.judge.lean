theorem mw_146 : Cond.fieldLink RX2 9 "JamBridge$Judge" "reason" "I" ∈ WW := WT_in 146 (by decide +kernel) (by decide +kernel)
theorem mw_148 : Cond.fieldLink RX2 15 "JamBridge$Judge" "detail" "I" ∈ WW := WT_in 148 (by decide +kernel) (by decide +kernel)
theorem mw_734 : Cond.methodLink RX2 43 yX2_because ∈ WW := WT_in 734 (by decide +kernel) (by decide +kernel)
theorem mw_736 : Cond.instanceMethod yX2_because ∈ WW := WT_in 736 (by decide +kernel) (by decide +kernel)
theorem ms_3 : Cond.selects RX2 yX2_because yX2_because ∈ WW := WS_in 3 (by decide +kernel) (by decide +kernel)
theorem mw_4 : Cond.initialized RX2 ∈ WW := WT_in 4 (by decide +kernel) (by decide +kernel)
theorem mw_737 : Cond.code yX2_because cX2_because 3 none ∈ WW := WT_in 737 (by decide +kernel) (by decide +kernel)
theorem mw_742 : Cond.methodLink RX2 58 yX0_hasSpan ∈ WW := WT_in 742 (by decide +kernel) (by decide +kernel)
theorem mw_747 : Cond.methodLink RX2 72 yX0_strengthOf ∈ WW := WT_in 747 (by decide +kernel) (by decide +kernel)
theorem mw_748 : Cond.methodLink RX2 76 yX0_loadOf ∈ WW := WT_in 748 (by decide +kernel) (by decide +kernel)
theorem mw_730 : Cond.methodLink RX2 18 yX2_judgeNewSpan ∈ WW := WT_in 730 (by decide +kernel) (by decide +kernel)
theorem mw_732 : Cond.instanceMethod yX2_judgeNewSpan ∈ WW := WT_in 732 (by decide +kernel) (by decide +kernel)
theorem ms_2 : Cond.selects RX2 yX2_judgeNewSpan yX2_judgeNewSpan ∈ WW := WS_in 2 (by decide +kernel) (by decide +kernel)
theorem mw_733 : Cond.code yX2_judgeNewSpan cX2_judgeNewSpan 3 none ∈ WW := WT_in 733 (by decide +kernel) (by decide +kernel)
theorem mw_738 : Cond.methodLink RX2 22 yX2_judgeJars ∈ WW := WT_in 738 (by decide +kernel) (by decide +kernel)
theorem mw_740 : Cond.instanceMethod yX2_judgeJars ∈ WW := WT_in 740 (by decide +kernel) (by decide +kernel)
theorem ms_4 : Cond.selects RX2 yX2_judgeJars yX2_judgeJars ∈ WW := WS_in 4 (by decide +kernel) (by decide +kernel)
theorem mw_741 : Cond.code yX2_judgeJars cX2_judgeJars 4 none ∈ WW := WT_in 741 (by decide +kernel) (by decide +kernel)
theorem mw_743 : Cond.methodLink RX2 26 yX2_judgeVehicle ∈ WW := WT_in 743 (by decide +kernel) (by decide +kernel)
theorem mw_745 : Cond.instanceMethod yX2_judgeVehicle ∈ WW := WT_in 745 (by decide +kernel) (by decide +kernel)
theorem ms_5 : Cond.selects RX2 yX2_judgeVehicle yX2_judgeVehicle ∈ WW := WS_in 5 (by decide +kernel) (by decide +kernel)
theorem mw_746 : Cond.code yX2_judgeVehicle cX2_judgeVehicle 4 none ∈ WW := WT_in 746 (by decide +kernel) (by decide +kernel)
theorem mw_749 : Cond.methodLink RX2 29 yX2_judgeRepair ∈ WW := WT_in 749 (by decide +kernel) (by decide +kernel)
theorem mw_751 : Cond.instanceMethod yX2_judgeRepair ∈ WW := WT_in 751 (by decide +kernel) (by decide +kernel)
theorem ms_6 : Cond.selects RX2 yX2_judgeRepair yX2_judgeRepair ∈ WW := WS_in 6 (by decide +kernel) (by decide +kernel)
theorem mw_752 : Cond.code yX2_judgeRepair cX2_judgeRepair 4 none ∈ WW := WT_in 752 (by decide +kernel) (by decide +kernel)
theorem mw_753 : Cond.methodLink RX2 32 yX2_judgeRate ∈ WW := WT_in 753 (by decide +kernel) (by decide +kernel)
theorem mw_755 : Cond.instanceMethod yX2_judgeRate ∈ WW := WT_in 755 (by decide +kernel) (by decide +kernel)
theorem ms_7 : Cond.selects RX2 yX2_judgeRate yX2_judgeRate ∈ WW := WS_in 7 (by decide +kernel) (by decide +kernel)
theorem mw_756 : Cond.code yX2_judgeRate cX2_judgeRate 3 none ∈ WW := WT_in 756 (by decide +kernel) (by decide +kernel)
theorem mw_757 : Cond.methodLink RX2 35 yX2_judgeHours ∈ WW := WT_in 757 (by decide +kernel) (by decide +kernel)
theorem mw_759 : Cond.instanceMethod yX2_judgeHours ∈ WW := WT_in 759 (by decide +kernel) (by decide +kernel)
theorem ms_8 : Cond.selects RX2 yX2_judgeHours yX2_judgeHours ∈ WW := WS_in 8 (by decide +kernel) (by decide +kernel)
theorem mw_760 : Cond.code yX2_judgeHours cX2_judgeHours 2 none ∈ WW := WT_in 760 (by decide +kernel) (by decide +kernel)
theorem mw_761 : Cond.methodLink RX2 39 yX2_judgeRemoval ∈ WW := WT_in 761 (by decide +kernel) (by decide +kernel)
theorem mw_763 : Cond.instanceMethod yX2_judgeRemoval ∈ WW := WT_in 763 (by decide +kernel) (by decide +kernel)
theorem ms_9 : Cond.selects RX2 yX2_judgeRemoval yX2_judgeRemoval ∈ WW := WS_in 9 (by decide +kernel) (by decide +kernel)
theorem mw_764 : Cond.code yX2_judgeRemoval cX2_judgeRemoval 2 none ∈ WW := WT_in 764 (by decide +kernel) (by decide +kernel)
def F_X2_because (j : Jv) (p0 : Int32) (p1 : Int32) : Option (Jv) := some (mkJ p0 p1)
set_option maxHeartbeats 4000000 in
set_option maxRecDepth 100000 in
theorem c_X2_because (g : GG) (l : Launch) (a : Nat → Nat) (j : Jv) (p0 : Int32) (p1 : Int32) (z : Jv) (hF : F_X2_because j p0 p1 = some z) : MV g l yX2_because cX2_because 3 none ({ frames := 0, cells := 0, slots := 0, locals := 0 } : Room) [.ref (a 0), .int p0, .int p1] [wJ g a j] 0 0 [wJ g a z] := by
  refine MV.bg (by decide) (Nat.le_of_ble_eq_true rfl) ?_
  intro p e s m below meth c A Q hQ hx hb hr hml hown hts hlocks hmn hK hE hA hP hD hS ls hl
  rw [F_X2_because] at hF
  have hl : lv_has ls 3 [(0, .ref (a 0)), (1, .int p0), (2, .int p1)] := hl
  refine lv_aload_n hx hb dX2_because_0 rfl (lv_at hl 0 rfl) ?_
  refine lv_iload_n hx hb dX2_because_1 rfl (lv_at hl 1 rfl) ?_
  refine va_put (D := g.1) (ci := 6) (v := .int p0) (ty := .int) (C := RX2) (T := TX2) (N := 2) hx hb hts inX2 tyX2 tyX2_ok nmX2 hown hK hP hD hS 0 rfl rfl 0 (by decide) (hts _ mw_146) (fun _ h9 => h9) rfl (by decide +kernel) rfl rfl (Nat.le_of_ble_eq_true rfl) dX2_because_2 (fun H locs hP hD hS => ?_)
  have hP : va_P g.1 vwCl ([wJc g a p0 (J_detail j)] : List va_W).flatten _ := hP
  have hD : va_D A ([wJc g a p0 (J_detail j)] : List va_W).flatten := hD
  refine lv_aload_n hx hb dX2_because_5 rfl (lv_at hl 0 rfl) ?_
  refine lv_iload_n hx hb dX2_because_6 rfl (lv_at hl 2 rfl) ?_
  refine va_put (D := g.1) (ci := 6) (v := .int p1) (ty := .int) (C := RX2) (T := TX2) (N := 2) hx hb hts inX2 tyX2 tyX2_ok nmX2 hown hK hP hD hS 0 rfl rfl 1 (by decide) (hts _ mw_148) (fun _ h9 => h9) rfl (by decide +kernel) rfl rfl (Nat.le_of_ble_eq_true rfl) dX2_because_7 (fun H locs hP hD hS => ?_)
  have hP : va_P g.1 vwCl ([wJc g a p0 p1] : List va_W).flatten _ := hP
  have hD : va_D A ([wJc g a p0 p1] : List va_W).flatten := hD
  cases hF
  rw [hQ]
  exact jb_vret hx hb hr hlocks hP hD hS dX2_because_10 (Nat.le_of_ble_eq_true rfl) (Nat.le_of_ble_eq_true rfl)
def F_X2_judgeHours (j : Jv) (p0 : Int32) : Option (Jv) := if p0 < 1 then (F_X2_because j 9 0).bind (fun z1 => some z1) else if p0 ≤ 48 then some j else (F_X2_because j 9 0).bind (fun z2 => some z2)
set_option maxHeartbeats 4000000 in
set_option maxRecDepth 100000 in
theorem c_X2_judgeHours (g : GG) (l : Launch) (a : Nat → Nat) (j : Jv) (p0 : Int32) (z : Jv) (hF : F_X2_judgeHours j p0 = some z) : MV g l yX2_judgeHours cX2_judgeHours 2 none ({ frames := 1, cells := 0, slots := 0, locals := 22 } : Room) [.ref (a 0), .int p0] [wJ g a j] 0 0 [wJ g a z] := by
  refine MV.bg (by decide) (Nat.le_of_ble_eq_true rfl) ?_
  intro p e s m below meth c A Q hQ hx hb hr hml hown hts hlocks hmn hK hE hA hP hD hS ls hl
  rw [F_X2_judgeHours] at hF
  have hl : lv_has ls 2 [(0, .ref (a 0)), (1, .int p0)] := hl
  refine lv_iload_n hx hb dX2_judgeHours_0 rfl (lv_at hl 1 rfl) ?_
  refine lv_iconst (v := 1) hx hb dX2_judgeHours_1 (by decide) ?_
  refine lv_icmp_lt (tgt := 11) hx hb dX2_judgeHours_2 (by decide) (fun c1 => ?_) (fun c1 => ?_)
  · have hF := ob_pos c1 hF
    refine lv_aload_n hx hb dX2_judgeHours_11 rfl (lv_at hl 0 rfl) ?_
    refine lv_bipush (v := 9) hx hb dX2_judgeHours_12 (by decide) ?_
    refine lv_iconst (v := 0) hx hb dX2_judgeHours_14 (by decide) ?_
    obtain ⟨z2, hz2, hF⟩ := ob_bind hF
    refine cl_v (csR := []) (csF := [wJ g a z2]) (rest := []) hx hb hml hown hts hK hE hA hl hP hD hS (c_X2_because g l a j 9 0 z2 hz2) [0] [] [0] ⟨rfl, rfl, rfl, rfl, rfl, rfl, rfl⟩ ⟨0, 6, _, _, rfl, rfl, rfl⟩ 2 (jb_giV mw_734 mw_736 ms_3 mw_4 mw_737) ⟨rfl, rfl⟩ (by decide +kernel) ⟨⟨(Nat.le_of_ble_eq_true rfl), (Nat.le_of_ble_eq_true rfl)⟩, (Nat.le_of_ble_eq_true rfl), (Nat.le_of_ble_eq_true rfl)⟩ ⟨rfl, rfl⟩ (Nat.le_of_ble_eq_true rfl) dX2_judgeHours_15 (fun H locs hP hD hS => ?_)
    cases hF
    rw [hQ]
    exact jb_vret hx hb hr hlocks hP hD hS dX2_judgeHours_18 (Nat.le_of_ble_eq_true rfl) (Nat.le_of_ble_eq_true rfl)
  · have hF := ob_neg c1 hF
    refine lv_iload_n hx hb dX2_judgeHours_5 rfl (lv_at hl 1 rfl) ?_
    refine lv_bipush (v := 48) hx hb dX2_judgeHours_6 (by decide) ?_
    refine lv_icmp_le (tgt := 18) hx hb dX2_judgeHours_8 (by decide) (fun c3 => ?_) (fun c3 => ?_)
    · have hF := ob_pos c3 hF
      cases hF
      rw [hQ]
      exact jb_vret hx hb hr hlocks hP hD hS dX2_judgeHours_18 (Nat.le_of_ble_eq_true rfl) (Nat.le_of_ble_eq_true rfl)
    · have hF := ob_neg c3 hF
      refine lv_aload_n hx hb dX2_judgeHours_11 rfl (lv_at hl 0 rfl) ?_
      refine lv_bipush (v := 9) hx hb dX2_judgeHours_12 (by decide) ?_
      refine lv_iconst (v := 0) hx hb dX2_judgeHours_14 (by decide) ?_
      obtain ⟨z4, hz4, hF⟩ := ob_bind hF
      refine cl_v (csR := []) (csF := [wJ g a z4]) (rest := []) hx hb hml hown hts hK hE hA hl hP hD hS (c_X2_because g l a j 9 0 z4 hz4) [0] [] [0] ⟨rfl, rfl, rfl, rfl, rfl, rfl, rfl⟩ ⟨0, 6, _, _, rfl, rfl, rfl⟩ 2 (jb_giV mw_734 mw_736 ms_3 mw_4 mw_737) ⟨rfl, rfl⟩ (by decide +kernel) ⟨⟨(Nat.le_of_ble_eq_true rfl), (Nat.le_of_ble_eq_true rfl)⟩, (Nat.le_of_ble_eq_true rfl), (Nat.le_of_ble_eq_true rfl)⟩ ⟨rfl, rfl⟩ (Nat.le_of_ble_eq_true rfl) dX2_judgeHours_15 (fun H locs hP hD hS => ?_)
      cases hF
      rw [hQ]
      exact jb_vret hx hb hr hlocks hP hD hS dX2_judgeHours_18 (Nat.le_of_ble_eq_true rfl) (Nat.le_of_ble_eq_true rfl)
def F_X2_judgeNewSpan (j : Jv) (b : Bv) (p1 : Int32) : Option (Jv) := if p1 < 1 then (F_X2_because j 9 0).bind (fun z1 => some z1) else if p1 ≤ 20 then if (B_vehicles b) ≤ 0 then if (B_spans b) < 10 then some j else (F_X2_because j 1 10).bind (fun z2 => some z2) else (F_X2_because j 4 (B_vehicles b)).bind (fun z3 => some z3) else (F_X2_because j 9 0).bind (fun z4 => some z4)
set_option maxHeartbeats 4000000 in
set_option maxRecDepth 100000 in
theorem c_X2_judgeNewSpan (g : GG) (l : Launch) (a : Nat → Nat) (a2 : Nat → Nat) (j : Jv) (b : Bv) (p1 : Int32) (z : Jv) (hF : F_X2_judgeNewSpan j b p1 = some z) : MV g l yX2_judgeNewSpan cX2_judgeNewSpan 3 none ({ frames := 1, cells := 0, slots := 0, locals := 22 } : Room) [.ref (a 0), .ref (a2 0), .int p1] [wJ g a j, wB g a2 b] 0 0 [wJ g a z, wB g a2 b] := by
  refine MV.bg (by decide) (Nat.le_of_ble_eq_true rfl) ?_
  intro p e s m below meth c A Q hQ hx hb hr hml hown hts hlocks hmn hK hE hA hP hD hS ls hl
  rw [F_X2_judgeNewSpan] at hF
  have hl : lv_has ls 3 [(0, .ref (a 0)), (1, .ref (a2 0)), (2, .int p1)] := hl
  refine lv_iload_n hx hb dX2_judgeNewSpan_0 rfl (lv_at hl 2 rfl) ?_
  refine lv_iconst (v := 1) hx hb dX2_judgeNewSpan_1 (by decide) ?_
  refine lv_icmp_lt (tgt := 11) hx hb dX2_judgeNewSpan_2 (by decide) (fun c1 => ?_) (fun c1 => ?_)
  · have hF := ob_pos c1 hF
    refine lv_aload_n hx hb dX2_judgeNewSpan_11 rfl (lv_at hl 0 rfl) ?_
    refine lv_bipush (v := 9) hx hb dX2_judgeNewSpan_12 (by decide) ?_
    refine lv_iconst (v := 0) hx hb dX2_judgeNewSpan_14 (by decide) ?_
    obtain ⟨z2, hz2, hF⟩ := ob_bind hF
    refine cl_v (csR := [wB g a2 b]) (csF := [wJ g a z2, wB g a2 b]) (rest := []) hx hb hml hown hts hK hE hA hl hP hD hS (c_X2_because g l a j 9 0 z2 hz2) [0] [1] [1, 0] ⟨rfl, rfl, rfl, rfl, rfl, rfl, rfl⟩ ⟨0, 6, _, _, rfl, rfl, rfl⟩ 2 (jb_giV mw_734 mw_736 ms_3 mw_4 mw_737) ⟨rfl, rfl⟩ (by decide +kernel) ⟨⟨(Nat.le_of_ble_eq_true rfl), (Nat.le_of_ble_eq_true rfl)⟩, (Nat.le_of_ble_eq_true rfl), (Nat.le_of_ble_eq_true rfl)⟩ ⟨rfl, rfl⟩ (Nat.le_of_ble_eq_true rfl) dX2_judgeNewSpan_15 (fun H locs hP hD hS => ?_)
    refine lv_goto (tgt := 56) hx hb dX2_judgeNewSpan_18 (by decide) ?_
    cases hF
    rw [hQ]
    exact jb_vret hx hb hr hlocks hP hD hS dX2_judgeNewSpan_56 (Nat.le_of_ble_eq_true rfl) (Nat.le_of_ble_eq_true rfl)
  · have hF := ob_neg c1 hF
    refine lv_iload_n hx hb dX2_judgeNewSpan_5 rfl (lv_at hl 2 rfl) ?_
    refine lv_bipush (v := 20) hx hb dX2_judgeNewSpan_6 (by decide) ?_
    refine lv_icmp_le (tgt := 21) hx hb dX2_judgeNewSpan_8 (by decide) (fun c3 => ?_) (fun c3 => ?_)
    · have hF := ob_pos c3 hF
      refine lv_aload_n hx hb dX2_judgeNewSpan_21 rfl (lv_at hl 1 rfl) ?_
      refine va_getN (D := g.1) (ci := 4) (v := .int (B_vehicles b)) (C := RX0) (T := TX0) (N := 17) hx hb hts inX0 hown hK hP 1 rfl rfl 6 (by decide) (hE.nf 9 rfl) (fun _ h9 => h9) rfl dX2_judgeNewSpan_22 ?_
      refine lv_if_le (tgt := 40) hx hb dX2_judgeNewSpan_25 (by decide) (fun c4 => ?_) (fun c4 => ?_)
      · have hF := ob_pos c4 hF
        refine lv_aload_n hx hb dX2_judgeNewSpan_40 rfl (lv_at hl 1 rfl) ?_
        refine va_getN (D := g.1) (ci := 4) (v := .int (B_spans b)) (C := RX0) (T := TX0) (N := 17) hx hb hts inX0 hown hK hP 1 rfl rfl 0 (by decide) (hE.nf 0 rfl) (fun _ h9 => h9) rfl dX2_judgeNewSpan_41 ?_
        refine lv_bipush (v := 10) hx hb dX2_judgeNewSpan_44 (by decide) ?_
        refine lv_icmp_lt (tgt := 56) hx hb dX2_judgeNewSpan_46 (by decide) (fun c5 => ?_) (fun c5 => ?_)
        · have hF := ob_pos c5 hF
          cases hF
          rw [hQ]
          exact jb_vret hx hb hr hlocks hP hD hS dX2_judgeNewSpan_56 (Nat.le_of_ble_eq_true rfl) (Nat.le_of_ble_eq_true rfl)
        · have hF := ob_neg c5 hF
          refine lv_aload_n hx hb dX2_judgeNewSpan_49 rfl (lv_at hl 0 rfl) ?_
          refine lv_iconst (v := 1) hx hb dX2_judgeNewSpan_50 (by decide) ?_
          refine lv_bipush (v := 10) hx hb dX2_judgeNewSpan_51 (by decide) ?_
          obtain ⟨z6, hz6, hF⟩ := ob_bind hF
          refine cl_v (csR := [wB g a2 b]) (csF := [wJ g a z6, wB g a2 b]) (rest := []) hx hb hml hown hts hK hE hA hl hP hD hS (c_X2_because g l a j 1 10 z6 hz6) [0] [1] [1, 0] ⟨rfl, rfl, rfl, rfl, rfl, rfl, rfl⟩ ⟨0, 6, _, _, rfl, rfl, rfl⟩ 2 (jb_giV mw_734 mw_736 ms_3 mw_4 mw_737) ⟨rfl, rfl⟩ (by decide +kernel) ⟨⟨(Nat.le_of_ble_eq_true rfl), (Nat.le_of_ble_eq_true rfl)⟩, (Nat.le_of_ble_eq_true rfl), (Nat.le_of_ble_eq_true rfl)⟩ ⟨rfl, rfl⟩ (Nat.le_of_ble_eq_true rfl) dX2_judgeNewSpan_53 (fun H locs hP hD hS => ?_)
          cases hF
          rw [hQ]
          exact jb_vret hx hb hr hlocks hP hD hS dX2_judgeNewSpan_56 (Nat.le_of_ble_eq_true rfl) (Nat.le_of_ble_eq_true rfl)
      · have hF := ob_neg c4 hF
        refine lv_aload_n hx hb dX2_judgeNewSpan_28 rfl (lv_at hl 0 rfl) ?_
        refine lv_iconst (v := 4) hx hb dX2_judgeNewSpan_29 (by decide) ?_
        refine lv_aload_n hx hb dX2_judgeNewSpan_30 rfl (lv_at hl 1 rfl) ?_
        refine va_getN (D := g.1) (ci := 4) (v := .int (B_vehicles b)) (C := RX0) (T := TX0) (N := 17) hx hb hts inX0 hown hK hP 1 rfl rfl 6 (by decide) (hE.nf 9 rfl) (fun _ h9 => h9) rfl dX2_judgeNewSpan_31 ?_
        obtain ⟨z7, hz7, hF⟩ := ob_bind hF
        refine cl_v (csR := [wB g a2 b]) (csF := [wJ g a z7, wB g a2 b]) (rest := []) hx hb hml hown hts hK hE hA hl hP hD hS (c_X2_because g l a j 4 (B_vehicles b) z7 hz7) [0] [1] [1, 0] ⟨rfl, rfl, rfl, rfl, rfl, rfl, rfl⟩ ⟨0, 6, _, _, rfl, rfl, rfl⟩ 2 (jb_giV mw_734 mw_736 ms_3 mw_4 mw_737) ⟨rfl, rfl⟩ (by decide +kernel) ⟨⟨(Nat.le_of_ble_eq_true rfl), (Nat.le_of_ble_eq_true rfl)⟩, (Nat.le_of_ble_eq_true rfl), (Nat.le_of_ble_eq_true rfl)⟩ ⟨rfl, rfl⟩ (Nat.le_of_ble_eq_true rfl) dX2_judgeNewSpan_34 (fun H locs hP hD hS => ?_)
        refine lv_goto (tgt := 56) hx hb dX2_judgeNewSpan_37 (by decide) ?_
        cases hF
        rw [hQ]
        exact jb_vret hx hb hr hlocks hP hD hS dX2_judgeNewSpan_56 (Nat.le_of_ble_eq_true rfl) (Nat.le_of_ble_eq_true rfl)
    · have hF := ob_neg c3 hF
      refine lv_aload_n hx hb dX2_judgeNewSpan_11 rfl (lv_at hl 0 rfl) ?_
      refine lv_bipush (v := 9) hx hb dX2_judgeNewSpan_12 (by decide) ?_
      refine lv_iconst (v := 0) hx hb dX2_judgeNewSpan_14 (by decide) ?_
      obtain ⟨z8, hz8, hF⟩ := ob_bind hF
      refine cl_v (csR := [wB g a2 b]) (csF := [wJ g a z8, wB g a2 b]) (rest := []) hx hb hml hown hts hK hE hA hl hP hD hS (c_X2_because g l a j 9 0 z8 hz8) [0] [1] [1, 0] ⟨rfl, rfl, rfl, rfl, rfl, rfl, rfl⟩ ⟨0, 6, _, _, rfl, rfl, rfl⟩ 2 (jb_giV mw_734 mw_736 ms_3 mw_4 mw_737) ⟨rfl, rfl⟩ (by decide +kernel) ⟨⟨(Nat.le_of_ble_eq_true rfl), (Nat.le_of_ble_eq_true rfl)⟩, (Nat.le_of_ble_eq_true rfl), (Nat.le_of_ble_eq_true rfl)⟩ ⟨rfl, rfl⟩ (Nat.le_of_ble_eq_true rfl) dX2_judgeNewSpan_15 (fun H locs hP hD hS => ?_)
      refine lv_goto (tgt := 56) hx hb dX2_judgeNewSpan_18 (by decide) ?_
      cases hF
      rw [hQ]
      exact jb_vret hx hb hr hlocks hP hD hS dX2_judgeNewSpan_56 (Nat.le_of_ble_eq_true rfl) (Nat.le_of_ble_eq_true rfl)
def F_X2_judgeRemoval (j : Jv) (b : Bv) : Option (Jv) := if ¬ (B_spans b) = 0 then if (B_vehicles b) ≤ 0 then some j else (F_X2_because j 4 (B_vehicles b)).bind (fun z1 => some z1) else (F_X2_because j 3 (B_hour b)).bind (fun z2 => some z2)
set_option maxHeartbeats 4000000 in
set_option maxRecDepth 100000 in
theorem c_X2_judgeRemoval (g : GG) (l : Launch) (a : Nat → Nat) (a2 : Nat → Nat) (j : Jv) (b : Bv) (z : Jv) (hF : F_X2_judgeRemoval j b = some z) : MV g l yX2_judgeRemoval cX2_judgeRemoval 2 none ({ frames := 1, cells := 0, slots := 0, locals := 22 } : Room) [.ref (a 0), .ref (a2 0)] [wJ g a j, wB g a2 b] 0 0 [wJ g a z, wB g a2 b] := by
  refine MV.bg (by decide) (Nat.le_of_ble_eq_true rfl) ?_
  intro p e s m below meth c A Q hQ hx hb hr hml hown hts hlocks hmn hK hE hA hP hD hS ls hl
  rw [F_X2_judgeRemoval] at hF
  have hl : lv_has ls 2 [(0, .ref (a 0)), (1, .ref (a2 0))] := hl
  refine lv_aload_n hx hb dX2_judgeRemoval_0 rfl (lv_at hl 1 rfl) ?_
  refine va_getN (D := g.1) (ci := 4) (v := .int (B_spans b)) (C := RX0) (T := TX0) (N := 17) hx hb hts inX0 hown hK hP 1 rfl rfl 0 (by decide) (hE.nf 0 rfl) (fun _ h9 => h9) rfl dX2_judgeRemoval_1 ?_
  refine lv_if_ne (tgt := 19) hx hb dX2_judgeRemoval_4 (by decide) (fun c1 => ?_) (fun c1 => ?_)
  · have hF := ob_pos c1 hF
    refine lv_aload_n hx hb dX2_judgeRemoval_19 rfl (lv_at hl 1 rfl) ?_
    refine va_getN (D := g.1) (ci := 4) (v := .int (B_vehicles b)) (C := RX0) (T := TX0) (N := 17) hx hb hts inX0 hown hK hP 1 rfl rfl 6 (by decide) (hE.nf 9 rfl) (fun _ h9 => h9) rfl dX2_judgeRemoval_20 ?_
    refine lv_if_le (tgt := 35) hx hb dX2_judgeRemoval_23 (by decide) (fun c2 => ?_) (fun c2 => ?_)
    · have hF := ob_pos c2 hF
      cases hF
      rw [hQ]
      exact jb_vret hx hb hr hlocks hP hD hS dX2_judgeRemoval_35 (Nat.le_of_ble_eq_true rfl) (Nat.le_of_ble_eq_true rfl)
    · have hF := ob_neg c2 hF
      refine lv_aload_n hx hb dX2_judgeRemoval_26 rfl (lv_at hl 0 rfl) ?_
      refine lv_iconst (v := 4) hx hb dX2_judgeRemoval_27 (by decide) ?_
      refine lv_aload_n hx hb dX2_judgeRemoval_28 rfl (lv_at hl 1 rfl) ?_
      refine va_getN (D := g.1) (ci := 4) (v := .int (B_vehicles b)) (C := RX0) (T := TX0) (N := 17) hx hb hts inX0 hown hK hP 1 rfl rfl 6 (by decide) (hE.nf 9 rfl) (fun _ h9 => h9) rfl dX2_judgeRemoval_29 ?_
      obtain ⟨z3, hz3, hF⟩ := ob_bind hF
      refine cl_v (csR := [wB g a2 b]) (csF := [wJ g a z3, wB g a2 b]) (rest := []) hx hb hml hown hts hK hE hA hl hP hD hS (c_X2_because g l a j 4 (B_vehicles b) z3 hz3) [0] [1] [1, 0] ⟨rfl, rfl, rfl, rfl, rfl, rfl, rfl⟩ ⟨0, 6, _, _, rfl, rfl, rfl⟩ 2 (jb_giV mw_734 mw_736 ms_3 mw_4 mw_737) ⟨rfl, rfl⟩ (by decide +kernel) ⟨⟨(Nat.le_of_ble_eq_true rfl), (Nat.le_of_ble_eq_true rfl)⟩, (Nat.le_of_ble_eq_true rfl), (Nat.le_of_ble_eq_true rfl)⟩ ⟨rfl, rfl⟩ (Nat.le_of_ble_eq_true rfl) dX2_judgeRemoval_32 (fun H locs hP hD hS => ?_)
      cases hF
      rw [hQ]
      exact jb_vret hx hb hr hlocks hP hD hS dX2_judgeRemoval_35 (Nat.le_of_ble_eq_true rfl) (Nat.le_of_ble_eq_true rfl)
  · have hF := ob_nneg c1 hF
    refine lv_aload_n hx hb dX2_judgeRemoval_7 rfl (lv_at hl 0 rfl) ?_
    refine lv_iconst (v := 3) hx hb dX2_judgeRemoval_8 (by decide) ?_
    refine lv_aload_n hx hb dX2_judgeRemoval_9 rfl (lv_at hl 1 rfl) ?_
    refine va_getN (D := g.1) (ci := 4) (v := .int (B_hour b)) (C := RX0) (T := TX0) (N := 17) hx hb hts inX0 hown hK hP 1 rfl rfl 11 (by decide) (hE.nf 14 rfl) (fun _ h9 => h9) rfl dX2_judgeRemoval_10 ?_
    obtain ⟨z4, hz4, hF⟩ := ob_bind hF
    refine cl_v (csR := [wB g a2 b]) (csF := [wJ g a z4, wB g a2 b]) (rest := []) hx hb hml hown hts hK hE hA hl hP hD hS (c_X2_because g l a j 3 (B_hour b) z4 hz4) [0] [1] [1, 0] ⟨rfl, rfl, rfl, rfl, rfl, rfl, rfl⟩ ⟨0, 6, _, _, rfl, rfl, rfl⟩ 2 (jb_giV mw_734 mw_736 ms_3 mw_4 mw_737) ⟨rfl, rfl⟩ (by decide +kernel) ⟨⟨(Nat.le_of_ble_eq_true rfl), (Nat.le_of_ble_eq_true rfl)⟩, (Nat.le_of_ble_eq_true rfl), (Nat.le_of_ble_eq_true rfl)⟩ ⟨rfl, rfl⟩ (Nat.le_of_ble_eq_true rfl) dX2_judgeRemoval_13 (fun H locs hP hD hS => ?_)
    refine lv_goto (tgt := 35) hx hb dX2_judgeRemoval_16 (by decide) ?_
    cases hF
    rw [hQ]
    exact jb_vret hx hb hr hlocks hP hD hS dX2_judgeRemoval_35 (Nat.le_of_ble_eq_true rfl) (Nat.le_of_ble_eq_true rfl)
def F_X2_judgeJars (j : Jv) (b : Bv) (p1 : Int32) (p2 : Int32) : Option (Jv) := (F_X0_hasSpan b p1).bind (fun z1 => if ¬ (bi z1) = 0 then if p2 < 1 then (F_X2_because j 9 0).bind (fun z2 => some z2) else if p2 ≤ 50 then if (B_vehicles b) ≤ 0 then ck (inb p1 10) (if (((B_jars b) p1.toNatClampNeg) + p2) ≤ 50 then some j else (F_X2_because j 1 50).bind (fun z3 => some z3)) else (F_X2_because j 4 (B_vehicles b)).bind (fun z4 => some z4) else (F_X2_because j 9 0).bind (fun z5 => some z5) else (F_X2_because j 10 0).bind (fun z6 => some z6))
set_option maxHeartbeats 4000000 in
set_option maxRecDepth 100000 in
theorem c_X2_judgeJars (g : GG) (l : Launch) (a : Nat → Nat) (a2 : Nat → Nat) (j : Jv) (b : Bv) (p1 : Int32) (p2 : Int32) (z : Jv) (hF : F_X2_judgeJars j b p1 p2 = some z) : MV g l yX2_judgeJars cX2_judgeJars 4 none ({ frames := 1, cells := 0, slots := 0, locals := 22 } : Room) [.ref (a 0), .ref (a2 0), .int p1, .int p2] [wJ g a j, wB g a2 b] 0 0 [wJ g a z, wB g a2 b] := by
  refine MV.bg (by decide) (Nat.le_of_ble_eq_true rfl) ?_
  intro p e s m below meth c A Q hQ hx hb hr hml hown hts hlocks hmn hK hE hA hP hD hS ls hl
  rw [F_X2_judgeJars] at hF
  have hl : lv_has ls 4 [(0, .ref (a 0)), (1, .ref (a2 0)), (2, .int p1), (3, .int p2)] := hl
  refine lv_aload_n hx hb dX2_judgeJars_0 rfl (lv_at hl 1 rfl) ?_
  refine lv_iload_n hx hb dX2_judgeJars_1 rfl (lv_at hl 2 rfl) ?_
  obtain ⟨z1, hz1, hF⟩ := ob_bind hF
  refine cl_i (csR := [wJ g a j]) (csF := [wJ g a j, wB g a2 b]) (rest := []) hx hb hml hown hts hK hE hA hl hP hD hS (c_X0_hasSpan g l a2 b p1 z1 hz1) [1] [0] [0, 1] ⟨rfl, rfl, rfl, rfl, rfl, rfl, rfl⟩ ⟨0, 4, _, _, rfl, rfl, rfl⟩ 1 (jb_giV mw_742 mw_289 mw_290 mw_2 mw_291) ⟨rfl, rfl⟩ (by decide +kernel) ⟨⟨(Nat.le_of_ble_eq_true rfl), (Nat.le_of_ble_eq_true rfl)⟩, (Nat.le_of_ble_eq_true rfl), (Nat.le_of_ble_eq_true rfl)⟩ ⟨rfl, rfl⟩ (Nat.le_of_ble_eq_true rfl) dX2_judgeJars_2 (fun H locs hP hD hS => ?_)
  refine lv_if_ne (tgt := 18) hx hb dX2_judgeJars_5 (by decide) (fun c2 => ?_) (fun c2 => ?_)
  · have hF := ob_pos c2 hF
    refine lv_iload_n hx hb dX2_judgeJars_18 rfl (lv_at hl 3 rfl) ?_
    refine lv_iconst (v := 1) hx hb dX2_judgeJars_19 (by decide) ?_
    refine lv_icmp_lt (tgt := 29) hx hb dX2_judgeJars_20 (by decide) (fun c3 => ?_) (fun c3 => ?_)
    · have hF := ob_pos c3 hF
      refine lv_aload_n hx hb dX2_judgeJars_29 rfl (lv_at hl 0 rfl) ?_
      refine lv_bipush (v := 9) hx hb dX2_judgeJars_30 (by decide) ?_
      refine lv_iconst (v := 0) hx hb dX2_judgeJars_32 (by decide) ?_
      obtain ⟨z4, hz4, hF⟩ := ob_bind hF
      refine cl_v (csR := [wB g a2 b]) (csF := [wJ g a z4, wB g a2 b]) (rest := []) hx hb hml hown hts hK hE hA hl hP hD hS (c_X2_because g l a j 9 0 z4 hz4) [0] [1] [1, 0] ⟨rfl, rfl, rfl, rfl, rfl, rfl, rfl⟩ ⟨0, 6, _, _, rfl, rfl, rfl⟩ 2 (jb_giV mw_734 mw_736 ms_3 mw_4 mw_737) ⟨rfl, rfl⟩ (by decide +kernel) ⟨⟨(Nat.le_of_ble_eq_true rfl), (Nat.le_of_ble_eq_true rfl)⟩, (Nat.le_of_ble_eq_true rfl), (Nat.le_of_ble_eq_true rfl)⟩ ⟨rfl, rfl⟩ (Nat.le_of_ble_eq_true rfl) dX2_judgeJars_33 (fun H locs hP hD hS => ?_)
      refine lv_goto (tgt := 78) hx hb dX2_judgeJars_36 (by decide) ?_
      cases hF
      rw [hQ]
      exact jb_vret hx hb hr hlocks hP hD hS dX2_judgeJars_78 (Nat.le_of_ble_eq_true rfl) (Nat.le_of_ble_eq_true rfl)
    · have hF := ob_neg c3 hF
      refine lv_iload_n hx hb dX2_judgeJars_23 rfl (lv_at hl 3 rfl) ?_
      refine lv_bipush (v := 50) hx hb dX2_judgeJars_24 (by decide) ?_
      refine lv_icmp_le (tgt := 39) hx hb dX2_judgeJars_26 (by decide) (fun c5 => ?_) (fun c5 => ?_)
      · have hF := ob_pos c5 hF
        refine lv_aload_n hx hb dX2_judgeJars_39 rfl (lv_at hl 1 rfl) ?_
        refine va_getN (D := g.1) (ci := 4) (v := .int (B_vehicles b)) (C := RX0) (T := TX0) (N := 17) hx hb hts inX0 hown hK hP 1 rfl rfl 6 (by decide) (hE.nf 9 rfl) (fun _ h9 => h9) rfl dX2_judgeJars_40 ?_
        refine lv_if_le (tgt := 58) hx hb dX2_judgeJars_43 (by decide) (fun c6 => ?_) (fun c6 => ?_)
        · have hF := ob_pos c6 hF
          refine lv_aload_n hx hb dX2_judgeJars_58 rfl (lv_at hl 1 rfl) ?_
          refine va_getN (D := g.1) (ci := 4) (v := .ref (a2 2)) (C := RX0) (T := TX0) (N := 17) hx hb hts inX0 hown hK hP 1 rfl rfl 2 (by decide) (hE.nf 3 rfl) (fun _ h9 => h9) rfl dX2_judgeJars_59 ?_
          refine lv_iload_n hx hb dX2_judgeJars_62 rfl (lv_at hl 2 rfl) ?_
          have h7 := inb_in (ck_t hF)
          have hF := ck_s hF
          refine va_iald hx hb hK hP 3 0 rfl rfl h7 dX2_judgeJars_63 ?_
          refine lv_iload_n hx hb dX2_judgeJars_64 rfl (lv_at hl 3 rfl) ?_
          refine lv_iadd hx hb dX2_judgeJars_65 ?_
          refine lv_bipush (v := 50) hx hb dX2_judgeJars_66 (by decide) ?_
          refine lv_icmp_le (tgt := 78) hx hb dX2_judgeJars_68 (by decide) (fun c8 => ?_) (fun c8 => ?_)
          · have hF := ob_pos c8 hF
            cases hF
            rw [hQ]
            exact jb_vret hx hb hr hlocks hP hD hS dX2_judgeJars_78 (Nat.le_of_ble_eq_true rfl) (Nat.le_of_ble_eq_true rfl)
          · have hF := ob_neg c8 hF
            refine lv_aload_n hx hb dX2_judgeJars_71 rfl (lv_at hl 0 rfl) ?_
            refine lv_iconst (v := 1) hx hb dX2_judgeJars_72 (by decide) ?_
            refine lv_bipush (v := 50) hx hb dX2_judgeJars_73 (by decide) ?_
            obtain ⟨z9, hz9, hF⟩ := ob_bind hF
            refine cl_v (csR := [wB g a2 b]) (csF := [wJ g a z9, wB g a2 b]) (rest := []) hx hb hml hown hts hK hE hA hl hP hD hS (c_X2_because g l a j 1 50 z9 hz9) [0] [1] [1, 0] ⟨rfl, rfl, rfl, rfl, rfl, rfl, rfl⟩ ⟨0, 6, _, _, rfl, rfl, rfl⟩ 2 (jb_giV mw_734 mw_736 ms_3 mw_4 mw_737) ⟨rfl, rfl⟩ (by decide +kernel) ⟨⟨(Nat.le_of_ble_eq_true rfl), (Nat.le_of_ble_eq_true rfl)⟩, (Nat.le_of_ble_eq_true rfl), (Nat.le_of_ble_eq_true rfl)⟩ ⟨rfl, rfl⟩ (Nat.le_of_ble_eq_true rfl) dX2_judgeJars_75 (fun H locs hP hD hS => ?_)
            cases hF
            rw [hQ]
            exact jb_vret hx hb hr hlocks hP hD hS dX2_judgeJars_78 (Nat.le_of_ble_eq_true rfl) (Nat.le_of_ble_eq_true rfl)
        · have hF := ob_neg c6 hF
          refine lv_aload_n hx hb dX2_judgeJars_46 rfl (lv_at hl 0 rfl) ?_
          refine lv_iconst (v := 4) hx hb dX2_judgeJars_47 (by decide) ?_
          refine lv_aload_n hx hb dX2_judgeJars_48 rfl (lv_at hl 1 rfl) ?_
          refine va_getN (D := g.1) (ci := 4) (v := .int (B_vehicles b)) (C := RX0) (T := TX0) (N := 17) hx hb hts inX0 hown hK hP 1 rfl rfl 6 (by decide) (hE.nf 9 rfl) (fun _ h9 => h9) rfl dX2_judgeJars_49 ?_
          obtain ⟨z10, hz10, hF⟩ := ob_bind hF
          refine cl_v (csR := [wB g a2 b]) (csF := [wJ g a z10, wB g a2 b]) (rest := []) hx hb hml hown hts hK hE hA hl hP hD hS (c_X2_because g l a j 4 (B_vehicles b) z10 hz10) [0] [1] [1, 0] ⟨rfl, rfl, rfl, rfl, rfl, rfl, rfl⟩ ⟨0, 6, _, _, rfl, rfl, rfl⟩ 2 (jb_giV mw_734 mw_736 ms_3 mw_4 mw_737) ⟨rfl, rfl⟩ (by decide +kernel) ⟨⟨(Nat.le_of_ble_eq_true rfl), (Nat.le_of_ble_eq_true rfl)⟩, (Nat.le_of_ble_eq_true rfl), (Nat.le_of_ble_eq_true rfl)⟩ ⟨rfl, rfl⟩ (Nat.le_of_ble_eq_true rfl) dX2_judgeJars_52 (fun H locs hP hD hS => ?_)
          refine lv_goto (tgt := 78) hx hb dX2_judgeJars_55 (by decide) ?_
          cases hF
          rw [hQ]
          exact jb_vret hx hb hr hlocks hP hD hS dX2_judgeJars_78 (Nat.le_of_ble_eq_true rfl) (Nat.le_of_ble_eq_true rfl)
      · have hF := ob_neg c5 hF
        refine lv_aload_n hx hb dX2_judgeJars_29 rfl (lv_at hl 0 rfl) ?_
        refine lv_bipush (v := 9) hx hb dX2_judgeJars_30 (by decide) ?_
        refine lv_iconst (v := 0) hx hb dX2_judgeJars_32 (by decide) ?_
        obtain ⟨z11, hz11, hF⟩ := ob_bind hF
        refine cl_v (csR := [wB g a2 b]) (csF := [wJ g a z11, wB g a2 b]) (rest := []) hx hb hml hown hts hK hE hA hl hP hD hS (c_X2_because g l a j 9 0 z11 hz11) [0] [1] [1, 0] ⟨rfl, rfl, rfl, rfl, rfl, rfl, rfl⟩ ⟨0, 6, _, _, rfl, rfl, rfl⟩ 2 (jb_giV mw_734 mw_736 ms_3 mw_4 mw_737) ⟨rfl, rfl⟩ (by decide +kernel) ⟨⟨(Nat.le_of_ble_eq_true rfl), (Nat.le_of_ble_eq_true rfl)⟩, (Nat.le_of_ble_eq_true rfl), (Nat.le_of_ble_eq_true rfl)⟩ ⟨rfl, rfl⟩ (Nat.le_of_ble_eq_true rfl) dX2_judgeJars_33 (fun H locs hP hD hS => ?_)
        refine lv_goto (tgt := 78) hx hb dX2_judgeJars_36 (by decide) ?_
        cases hF
        rw [hQ]
        exact jb_vret hx hb hr hlocks hP hD hS dX2_judgeJars_78 (Nat.le_of_ble_eq_true rfl) (Nat.le_of_ble_eq_true rfl)
  · have hF := ob_nneg c2 hF
    refine lv_aload_n hx hb dX2_judgeJars_8 rfl (lv_at hl 0 rfl) ?_
    refine lv_bipush (v := 10) hx hb dX2_judgeJars_9 (by decide) ?_
    refine lv_iconst (v := 0) hx hb dX2_judgeJars_11 (by decide) ?_
    obtain ⟨z12, hz12, hF⟩ := ob_bind hF
    refine cl_v (csR := [wB g a2 b]) (csF := [wJ g a z12, wB g a2 b]) (rest := []) hx hb hml hown hts hK hE hA hl hP hD hS (c_X2_because g l a j 10 0 z12 hz12) [0] [1] [1, 0] ⟨rfl, rfl, rfl, rfl, rfl, rfl, rfl⟩ ⟨0, 6, _, _, rfl, rfl, rfl⟩ 2 (jb_giV mw_734 mw_736 ms_3 mw_4 mw_737) ⟨rfl, rfl⟩ (by decide +kernel) ⟨⟨(Nat.le_of_ble_eq_true rfl), (Nat.le_of_ble_eq_true rfl)⟩, (Nat.le_of_ble_eq_true rfl), (Nat.le_of_ble_eq_true rfl)⟩ ⟨rfl, rfl⟩ (Nat.le_of_ble_eq_true rfl) dX2_judgeJars_12 (fun H locs hP hD hS => ?_)
    refine lv_goto (tgt := 78) hx hb dX2_judgeJars_15 (by decide) ?_
    cases hF
    rw [hQ]
    exact jb_vret hx hb hr hlocks hP hD hS dX2_judgeJars_78 (Nat.le_of_ble_eq_true rfl) (Nat.le_of_ble_eq_true rfl)
def F_X2_judgeRepair (j : Jv) (b : Bv) (p1 : Int32) (p2 : Int32) : Option (Jv) := (F_X0_hasSpan b p1).bind (fun z1 => if ¬ (bi z1) = 0 then if p2 < 1 then (F_X2_because j 9 0).bind (fun z2 => some z2) else if p2 ≤ 9 then ck (inb p1 10) (if p2 ≤ ((B_cracks b) p1.toNatClampNeg) then if (p2 * 5) ≤ (B_till b) then some j else (F_X2_because j 5 (B_till b)).bind (fun z3 => some z3) else ck (inb p1 10) ((F_X2_because j 6 ((B_cracks b) p1.toNatClampNeg)).bind (fun z4 => some z4))) else (F_X2_because j 9 0).bind (fun z5 => some z5) else (F_X2_because j 10 0).bind (fun z6 => some z6))
set_option maxHeartbeats 4000000 in
set_option maxRecDepth 100000 in
theorem c_X2_judgeRepair (g : GG) (l : Launch) (a : Nat → Nat) (a2 : Nat → Nat) (j : Jv) (b : Bv) (p1 : Int32) (p2 : Int32) (z : Jv) (hF : F_X2_judgeRepair j b p1 p2 = some z) : MV g l yX2_judgeRepair cX2_judgeRepair 4 none ({ frames := 1, cells := 0, slots := 0, locals := 22 } : Room) [.ref (a 0), .ref (a2 0), .int p1, .int p2] [wJ g a j, wB g a2 b] 0 0 [wJ g a z, wB g a2 b] := by
  refine MV.bg (by decide) (Nat.le_of_ble_eq_true rfl) ?_
  intro p e s m below meth c A Q hQ hx hb hr hml hown hts hlocks hmn hK hE hA hP hD hS ls hl
  rw [F_X2_judgeRepair] at hF
  have hl : lv_has ls 4 [(0, .ref (a 0)), (1, .ref (a2 0)), (2, .int p1), (3, .int p2)] := hl
  refine lv_aload_n hx hb dX2_judgeRepair_0 rfl (lv_at hl 1 rfl) ?_
  refine lv_iload_n hx hb dX2_judgeRepair_1 rfl (lv_at hl 2 rfl) ?_
  obtain ⟨z1, hz1, hF⟩ := ob_bind hF
  refine cl_i (csR := [wJ g a j]) (csF := [wJ g a j, wB g a2 b]) (rest := []) hx hb hml hown hts hK hE hA hl hP hD hS (c_X0_hasSpan g l a2 b p1 z1 hz1) [1] [0] [0, 1] ⟨rfl, rfl, rfl, rfl, rfl, rfl, rfl⟩ ⟨0, 4, _, _, rfl, rfl, rfl⟩ 1 (jb_giV mw_742 mw_289 mw_290 mw_2 mw_291) ⟨rfl, rfl⟩ (by decide +kernel) ⟨⟨(Nat.le_of_ble_eq_true rfl), (Nat.le_of_ble_eq_true rfl)⟩, (Nat.le_of_ble_eq_true rfl), (Nat.le_of_ble_eq_true rfl)⟩ ⟨rfl, rfl⟩ (Nat.le_of_ble_eq_true rfl) dX2_judgeRepair_2 (fun H locs hP hD hS => ?_)
  refine lv_if_ne (tgt := 18) hx hb dX2_judgeRepair_5 (by decide) (fun c2 => ?_) (fun c2 => ?_)
  · have hF := ob_pos c2 hF
    refine lv_iload_n hx hb dX2_judgeRepair_18 rfl (lv_at hl 3 rfl) ?_
    refine lv_iconst (v := 1) hx hb dX2_judgeRepair_19 (by decide) ?_
    refine lv_icmp_lt (tgt := 29) hx hb dX2_judgeRepair_20 (by decide) (fun c3 => ?_) (fun c3 => ?_)
    · have hF := ob_pos c3 hF
      refine lv_aload_n hx hb dX2_judgeRepair_29 rfl (lv_at hl 0 rfl) ?_
      refine lv_bipush (v := 9) hx hb dX2_judgeRepair_30 (by decide) ?_
      refine lv_iconst (v := 0) hx hb dX2_judgeRepair_32 (by decide) ?_
      obtain ⟨z4, hz4, hF⟩ := ob_bind hF
      refine cl_v (csR := [wB g a2 b]) (csF := [wJ g a z4, wB g a2 b]) (rest := []) hx hb hml hown hts hK hE hA hl hP hD hS (c_X2_because g l a j 9 0 z4 hz4) [0] [1] [1, 0] ⟨rfl, rfl, rfl, rfl, rfl, rfl, rfl⟩ ⟨0, 6, _, _, rfl, rfl, rfl⟩ 2 (jb_giV mw_734 mw_736 ms_3 mw_4 mw_737) ⟨rfl, rfl⟩ (by decide +kernel) ⟨⟨(Nat.le_of_ble_eq_true rfl), (Nat.le_of_ble_eq_true rfl)⟩, (Nat.le_of_ble_eq_true rfl), (Nat.le_of_ble_eq_true rfl)⟩ ⟨rfl, rfl⟩ (Nat.le_of_ble_eq_true rfl) dX2_judgeRepair_33 (fun H locs hP hD hS => ?_)
      refine lv_goto (tgt := 83) hx hb dX2_judgeRepair_36 (by decide) ?_
      cases hF
      rw [hQ]
      exact jb_vret hx hb hr hlocks hP hD hS dX2_judgeRepair_83 (Nat.le_of_ble_eq_true rfl) (Nat.le_of_ble_eq_true rfl)
    · have hF := ob_neg c3 hF
      refine lv_iload_n hx hb dX2_judgeRepair_23 rfl (lv_at hl 3 rfl) ?_
      refine lv_bipush (v := 9) hx hb dX2_judgeRepair_24 (by decide) ?_
      refine lv_icmp_le (tgt := 39) hx hb dX2_judgeRepair_26 (by decide) (fun c5 => ?_) (fun c5 => ?_)
      · have hF := ob_pos c5 hF
        refine lv_aload_n hx hb dX2_judgeRepair_39 rfl (lv_at hl 1 rfl) ?_
        refine va_getN (D := g.1) (ci := 4) (v := .ref (a2 4)) (C := RX0) (T := TX0) (N := 17) hx hb hts inX0 hown hK hP 1 rfl rfl 4 (by decide) (hE.nf 6 rfl) (fun _ h9 => h9) rfl dX2_judgeRepair_40 ?_
        refine lv_iload_n hx hb dX2_judgeRepair_43 rfl (lv_at hl 2 rfl) ?_
        have h6 := inb_in (ck_t hF)
        have hF := ck_s hF
        refine va_iald hx hb hK hP 5 0 rfl rfl h6 dX2_judgeRepair_44 ?_
        refine lv_iload_n hx hb dX2_judgeRepair_45 rfl (lv_at hl 3 rfl) ?_
        refine lv_icmp_ge (tgt := 64) hx hb dX2_judgeRepair_46 (by decide) (fun c7 => ?_) (fun c7 => ?_)
        · have hF := ob_pos c7 hF
          refine lv_aload_n hx hb dX2_judgeRepair_64 rfl (lv_at hl 1 rfl) ?_
          refine va_getN (D := g.1) (ci := 4) (v := .int (B_till b)) (C := RX0) (T := TX0) (N := 17) hx hb hts inX0 hown hK hP 1 rfl rfl 13 (by decide) (hE.nf 18 rfl) (fun _ h9 => h9) rfl dX2_judgeRepair_65 ?_
          refine lv_iload_n hx hb dX2_judgeRepair_68 rfl (lv_at hl 3 rfl) ?_
          refine lv_iconst (v := 5) hx hb dX2_judgeRepair_69 (by decide) ?_
          refine lv_imul hx hb dX2_judgeRepair_70 ?_
          refine lv_icmp_ge (tgt := 83) hx hb dX2_judgeRepair_71 (by decide) (fun c8 => ?_) (fun c8 => ?_)
          · have hF := ob_pos c8 hF
            cases hF
            rw [hQ]
            exact jb_vret hx hb hr hlocks hP hD hS dX2_judgeRepair_83 (Nat.le_of_ble_eq_true rfl) (Nat.le_of_ble_eq_true rfl)
          · have hF := ob_neg c8 hF
            refine lv_aload_n hx hb dX2_judgeRepair_74 rfl (lv_at hl 0 rfl) ?_
            refine lv_iconst (v := 5) hx hb dX2_judgeRepair_75 (by decide) ?_
            refine lv_aload_n hx hb dX2_judgeRepair_76 rfl (lv_at hl 1 rfl) ?_
            refine va_getN (D := g.1) (ci := 4) (v := .int (B_till b)) (C := RX0) (T := TX0) (N := 17) hx hb hts inX0 hown hK hP 1 rfl rfl 13 (by decide) (hE.nf 18 rfl) (fun _ h9 => h9) rfl dX2_judgeRepair_77 ?_
            obtain ⟨z9, hz9, hF⟩ := ob_bind hF
            refine cl_v (csR := [wB g a2 b]) (csF := [wJ g a z9, wB g a2 b]) (rest := []) hx hb hml hown hts hK hE hA hl hP hD hS (c_X2_because g l a j 5 (B_till b) z9 hz9) [0] [1] [1, 0] ⟨rfl, rfl, rfl, rfl, rfl, rfl, rfl⟩ ⟨0, 6, _, _, rfl, rfl, rfl⟩ 2 (jb_giV mw_734 mw_736 ms_3 mw_4 mw_737) ⟨rfl, rfl⟩ (by decide +kernel) ⟨⟨(Nat.le_of_ble_eq_true rfl), (Nat.le_of_ble_eq_true rfl)⟩, (Nat.le_of_ble_eq_true rfl), (Nat.le_of_ble_eq_true rfl)⟩ ⟨rfl, rfl⟩ (Nat.le_of_ble_eq_true rfl) dX2_judgeRepair_80 (fun H locs hP hD hS => ?_)
            cases hF
            rw [hQ]
            exact jb_vret hx hb hr hlocks hP hD hS dX2_judgeRepair_83 (Nat.le_of_ble_eq_true rfl) (Nat.le_of_ble_eq_true rfl)
        · have hF := ob_neg c7 hF
          refine lv_aload_n hx hb dX2_judgeRepair_49 rfl (lv_at hl 0 rfl) ?_
          refine lv_bipush (v := 6) hx hb dX2_judgeRepair_50 (by decide) ?_
          refine lv_aload_n hx hb dX2_judgeRepair_52 rfl (lv_at hl 1 rfl) ?_
          refine va_getN (D := g.1) (ci := 4) (v := .ref (a2 4)) (C := RX0) (T := TX0) (N := 17) hx hb hts inX0 hown hK hP 1 rfl rfl 4 (by decide) (hE.nf 6 rfl) (fun _ h9 => h9) rfl dX2_judgeRepair_53 ?_
          refine lv_iload_n hx hb dX2_judgeRepair_56 rfl (lv_at hl 2 rfl) ?_
          have h10 := inb_in (ck_t hF)
          have hF := ck_s hF
          refine va_iald hx hb hK hP 5 0 rfl rfl h10 dX2_judgeRepair_57 ?_
          obtain ⟨z11, hz11, hF⟩ := ob_bind hF
          refine cl_v (csR := [wB g a2 b]) (csF := [wJ g a z11, wB g a2 b]) (rest := []) hx hb hml hown hts hK hE hA hl hP hD hS (c_X2_because g l a j 6 ((B_cracks b) p1.toNatClampNeg) z11 hz11) [0] [1] [1, 0] ⟨rfl, rfl, rfl, rfl, rfl, rfl, rfl⟩ ⟨0, 6, _, _, rfl, rfl, rfl⟩ 2 (jb_giV mw_734 mw_736 ms_3 mw_4 mw_737) ⟨rfl, rfl⟩ (by decide +kernel) ⟨⟨(Nat.le_of_ble_eq_true rfl), (Nat.le_of_ble_eq_true rfl)⟩, (Nat.le_of_ble_eq_true rfl), (Nat.le_of_ble_eq_true rfl)⟩ ⟨rfl, rfl⟩ (Nat.le_of_ble_eq_true rfl) dX2_judgeRepair_58 (fun H locs hP hD hS => ?_)
          refine lv_goto (tgt := 83) hx hb dX2_judgeRepair_61 (by decide) ?_
          cases hF
          rw [hQ]
          exact jb_vret hx hb hr hlocks hP hD hS dX2_judgeRepair_83 (Nat.le_of_ble_eq_true rfl) (Nat.le_of_ble_eq_true rfl)
      · have hF := ob_neg c5 hF
        refine lv_aload_n hx hb dX2_judgeRepair_29 rfl (lv_at hl 0 rfl) ?_
        refine lv_bipush (v := 9) hx hb dX2_judgeRepair_30 (by decide) ?_
        refine lv_iconst (v := 0) hx hb dX2_judgeRepair_32 (by decide) ?_
        obtain ⟨z12, hz12, hF⟩ := ob_bind hF
        refine cl_v (csR := [wB g a2 b]) (csF := [wJ g a z12, wB g a2 b]) (rest := []) hx hb hml hown hts hK hE hA hl hP hD hS (c_X2_because g l a j 9 0 z12 hz12) [0] [1] [1, 0] ⟨rfl, rfl, rfl, rfl, rfl, rfl, rfl⟩ ⟨0, 6, _, _, rfl, rfl, rfl⟩ 2 (jb_giV mw_734 mw_736 ms_3 mw_4 mw_737) ⟨rfl, rfl⟩ (by decide +kernel) ⟨⟨(Nat.le_of_ble_eq_true rfl), (Nat.le_of_ble_eq_true rfl)⟩, (Nat.le_of_ble_eq_true rfl), (Nat.le_of_ble_eq_true rfl)⟩ ⟨rfl, rfl⟩ (Nat.le_of_ble_eq_true rfl) dX2_judgeRepair_33 (fun H locs hP hD hS => ?_)
        refine lv_goto (tgt := 83) hx hb dX2_judgeRepair_36 (by decide) ?_
        cases hF
        rw [hQ]
        exact jb_vret hx hb hr hlocks hP hD hS dX2_judgeRepair_83 (Nat.le_of_ble_eq_true rfl) (Nat.le_of_ble_eq_true rfl)
  · have hF := ob_nneg c2 hF
    refine lv_aload_n hx hb dX2_judgeRepair_8 rfl (lv_at hl 0 rfl) ?_
    refine lv_bipush (v := 10) hx hb dX2_judgeRepair_9 (by decide) ?_
    refine lv_iconst (v := 0) hx hb dX2_judgeRepair_11 (by decide) ?_
    obtain ⟨z13, hz13, hF⟩ := ob_bind hF
    refine cl_v (csR := [wB g a2 b]) (csF := [wJ g a z13, wB g a2 b]) (rest := []) hx hb hml hown hts hK hE hA hl hP hD hS (c_X2_because g l a j 10 0 z13 hz13) [0] [1] [1, 0] ⟨rfl, rfl, rfl, rfl, rfl, rfl, rfl⟩ ⟨0, 6, _, _, rfl, rfl, rfl⟩ 2 (jb_giV mw_734 mw_736 ms_3 mw_4 mw_737) ⟨rfl, rfl⟩ (by decide +kernel) ⟨⟨(Nat.le_of_ble_eq_true rfl), (Nat.le_of_ble_eq_true rfl)⟩, (Nat.le_of_ble_eq_true rfl), (Nat.le_of_ble_eq_true rfl)⟩ ⟨rfl, rfl⟩ (Nat.le_of_ble_eq_true rfl) dX2_judgeRepair_12 (fun H locs hP hD hS => ?_)
    refine lv_goto (tgt := 83) hx hb dX2_judgeRepair_15 (by decide) ?_
    cases hF
    rw [hQ]
    exact jb_vret hx hb hr hlocks hP hD hS dX2_judgeRepair_83 (Nat.le_of_ble_eq_true rfl) (Nat.le_of_ble_eq_true rfl)
def F_X2_judgeVehicle (j : Jv) (b : Bv) (p1 : Int32) : Option (Jv) := (F_X0_strengthOf b 0).bind (fun z1 => (F_X0_loadOf b 0).bind (fun z2 => if p1 < 1 then (F_X2_because j 9 0).bind (fun z3 => some z3) else if p1 ≤ 99 then if ¬ (B_spans b) = 0 then if (B_vehicles b) < 8 then if p1 ≤ (z1 - z2) then some j else (F_X2_because j 2 (z1 - z2)).bind (fun z4 => some z4) else (F_X2_because j 1 8).bind (fun z5 => some z5) else (F_X2_because j 3 (B_hour b)).bind (fun z6 => some z6) else (F_X2_because j 9 0).bind (fun z7 => some z7)))
set_option maxHeartbeats 4000000 in
set_option maxRecDepth 100000 in
theorem c_X2_judgeVehicle (g : GG) (l : Launch) (a : Nat → Nat) (a2 : Nat → Nat) (j : Jv) (b : Bv) (p1 : Int32) (z : Jv) (hF : F_X2_judgeVehicle j b p1 = some z) : MV g l yX2_judgeVehicle cX2_judgeVehicle 4 none ({ frames := 2, cells := 0, slots := 0, locals := 43 } : Room) [.ref (a 0), .ref (a2 0), .int p1] [wJ g a j, wB g a2 b] 0 0 [wJ g a z, wB g a2 b] := by
  refine MV.bg (by decide) (Nat.le_of_ble_eq_true rfl) ?_
  intro p e s m below meth c A Q hQ hx hb hr hml hown hts hlocks hmn hK hE hA hP hD hS ls hl
  rw [F_X2_judgeVehicle] at hF
  have hl : lv_has ls 4 [(0, .ref (a 0)), (1, .ref (a2 0)), (2, .int p1)] := hl
  refine lv_aload_n hx hb dX2_judgeVehicle_0 rfl (lv_at hl 1 rfl) ?_
  refine lv_iconst (v := 0) hx hb dX2_judgeVehicle_1 (by decide) ?_
  obtain ⟨z1, hz1, hF⟩ := ob_bind hF
  refine cl_i (csR := [wJ g a j]) (csF := [wJ g a j, wB g a2 b]) (rest := []) hx hb hml hown hts hK hE hA hl hP hD hS (c_X0_strengthOf g l a2 b 0 z1 hz1) [1] [0] [0, 1] ⟨rfl, rfl, rfl, rfl, rfl, rfl, rfl⟩ ⟨0, 4, _, _, rfl, rfl, rfl⟩ 1 (jb_giV mw_747 mw_285 mw_286 mw_2 mw_287) ⟨rfl, rfl⟩ (by decide +kernel) ⟨⟨(Nat.le_of_ble_eq_true rfl), (Nat.le_of_ble_eq_true rfl)⟩, (Nat.le_of_ble_eq_true rfl), (Nat.le_of_ble_eq_true rfl)⟩ ⟨rfl, rfl⟩ (Nat.le_of_ble_eq_true rfl) dX2_judgeVehicle_2 (fun H locs hP hD hS => ?_)
  refine lv_aload_n hx hb dX2_judgeVehicle_5 rfl (lv_at hl 1 rfl) ?_
  refine lv_iconst (v := 0) hx hb dX2_judgeVehicle_6 (by decide) ?_
  obtain ⟨z2, hz2, hF⟩ := ob_bind hF
  refine cl_i (csR := [wJ g a j]) (csF := [wJ g a j, wB g a2 b]) (rest := [.int z1]) hx hb hml hown hts hK hE hA hl hP hD hS (c_X0_loadOf g l a2 b 0 z2 hz2) [1] [0] [0, 1] ⟨rfl, rfl, rfl, rfl, rfl, rfl, rfl⟩ ⟨0, 4, _, _, rfl, rfl, rfl⟩ 1 (jb_giV mw_748 mw_273 mw_274 mw_2 mw_275) ⟨rfl, rfl⟩ (by decide +kernel) ⟨⟨(Nat.le_of_ble_eq_true rfl), (Nat.le_of_ble_eq_true rfl)⟩, (Nat.le_of_ble_eq_true rfl), (Nat.le_of_ble_eq_true rfl)⟩ ⟨rfl, rfl⟩ (Nat.le_of_ble_eq_true rfl) dX2_judgeVehicle_7 (fun H locs hP hD hS => ?_)
  refine lv_isub hx hb dX2_judgeVehicle_10 ?_
  refine lv_istore_n (lv' := [(3, .int (z1 - z2)), (0, .ref (a 0)), (1, .ref (a2 0)), (2, .int p1)]) hx hb dX2_judgeVehicle_11 rfl hl (by decide) rfl (fun ls hl => ?_)
  refine lv_iload_n hx hb dX2_judgeVehicle_12 rfl (lv_at hl 3 rfl) ?_
  refine lv_iconst (v := 1) hx hb dX2_judgeVehicle_13 (by decide) ?_
  refine lv_icmp_lt (tgt := 23) hx hb dX2_judgeVehicle_14 (by decide) (fun c3 => ?_) (fun c3 => ?_)
  · have hF := ob_pos c3 hF
    refine lv_aload_n hx hb dX2_judgeVehicle_23 rfl (lv_at hl 1 rfl) ?_
    refine lv_bipush (v := 9) hx hb dX2_judgeVehicle_24 (by decide) ?_
    refine lv_iconst (v := 0) hx hb dX2_judgeVehicle_26 (by decide) ?_
    obtain ⟨z4, hz4, hF⟩ := ob_bind hF
    refine cl_v (csR := [wB g a2 b]) (csF := [wJ g a z4, wB g a2 b]) (rest := []) hx hb hml hown hts hK hE hA hl hP hD hS (c_X2_because g l a j 9 0 z4 hz4) [0] [1] [1, 0] ⟨rfl, rfl, rfl, rfl, rfl, rfl, rfl⟩ ⟨0, 6, _, _, rfl, rfl, rfl⟩ 2 (jb_giV mw_734 mw_736 ms_3 mw_4 mw_737) ⟨rfl, rfl⟩ (by decide +kernel) ⟨⟨(Nat.le_of_ble_eq_true rfl), (Nat.le_of_ble_eq_true rfl)⟩, (Nat.le_of_ble_eq_true rfl), (Nat.le_of_ble_eq_true rfl)⟩ ⟨rfl, rfl⟩ (Nat.le_of_ble_eq_true rfl) dX2_judgeVehicle_27 (fun H locs hP hD hS => ?_)
    refine lv_goto (tgt := 82) hx hb dX2_judgeVehicle_30 (by decide) ?_
    cases hF
    rw [hQ]
    exact jb_vret hx hb hr hlocks hP hD hS dX2_judgeVehicle_82 (Nat.le_of_ble_eq_true rfl) (Nat.le_of_ble_eq_true rfl)
  · have hF := ob_neg c3 hF
    refine lv_iload_n hx hb dX2_judgeVehicle_17 rfl (lv_at hl 3 rfl) ?_
    refine lv_bipush (v := 99) hx hb dX2_judgeVehicle_18 (by decide) ?_
    refine lv_icmp_le (tgt := 33) hx hb dX2_judgeVehicle_20 (by decide) (fun c5 => ?_) (fun c5 => ?_)
    · have hF := ob_pos c5 hF
      refine lv_aload_n hx hb dX2_judgeVehicle_33 rfl (lv_at hl 2 rfl) ?_
      refine va_getN (D := g.1) (ci := 4) (v := .int (B_spans b)) (C := RX0) (T := TX0) (N := 17) hx hb hts inX0 hown hK hP 1 rfl rfl 0 (by decide) (hE.nf 0 rfl) (fun _ h9 => h9) rfl dX2_judgeVehicle_34 ?_
      refine lv_if_ne (tgt := 52) hx hb dX2_judgeVehicle_37 (by decide) (fun c6 => ?_) (fun c6 => ?_)
      · have hF := ob_pos c6 hF
        refine lv_aload_n hx hb dX2_judgeVehicle_52 rfl (lv_at hl 2 rfl) ?_
        refine va_getN (D := g.1) (ci := 4) (v := .int (B_vehicles b)) (C := RX0) (T := TX0) (N := 17) hx hb hts inX0 hown hK hP 1 rfl rfl 6 (by decide) (hE.nf 9 rfl) (fun _ h9 => h9) rfl dX2_judgeVehicle_53 ?_
        refine lv_bipush (v := 8) hx hb dX2_judgeVehicle_56 (by decide) ?_
        refine lv_icmp_lt (tgt := 71) hx hb dX2_judgeVehicle_58 (by decide) (fun c7 => ?_) (fun c7 => ?_)
        · have hF := ob_pos c7 hF
          refine lv_iload_n hx hb dX2_judgeVehicle_71 rfl (lv_at hl 3 rfl) ?_
          refine lv_iload_n hx hb dX2_judgeVehicle_72 rfl (lv_at hl 0 rfl) ?_
          refine lv_icmp_le (tgt := 82) hx hb dX2_judgeVehicle_73 (by decide) (fun c8 => ?_) (fun c8 => ?_)
          · have hF := ob_pos c8 hF
            cases hF
            rw [hQ]
            exact jb_vret hx hb hr hlocks hP hD hS dX2_judgeVehicle_82 (Nat.le_of_ble_eq_true rfl) (Nat.le_of_ble_eq_true rfl)
          · have hF := ob_neg c8 hF
            refine lv_aload_n hx hb dX2_judgeVehicle_76 rfl (lv_at hl 1 rfl) ?_
            refine lv_iconst (v := 2) hx hb dX2_judgeVehicle_77 (by decide) ?_
            refine lv_iload_n hx hb dX2_judgeVehicle_78 rfl (lv_at hl 0 rfl) ?_
            obtain ⟨z9, hz9, hF⟩ := ob_bind hF
            refine cl_v (csR := [wB g a2 b]) (csF := [wJ g a z9, wB g a2 b]) (rest := []) hx hb hml hown hts hK hE hA hl hP hD hS (c_X2_because g l a j 2 (z1 - z2) z9 hz9) [0] [1] [1, 0] ⟨rfl, rfl, rfl, rfl, rfl, rfl, rfl⟩ ⟨0, 6, _, _, rfl, rfl, rfl⟩ 2 (jb_giV mw_734 mw_736 ms_3 mw_4 mw_737) ⟨rfl, rfl⟩ (by decide +kernel) ⟨⟨(Nat.le_of_ble_eq_true rfl), (Nat.le_of_ble_eq_true rfl)⟩, (Nat.le_of_ble_eq_true rfl), (Nat.le_of_ble_eq_true rfl)⟩ ⟨rfl, rfl⟩ (Nat.le_of_ble_eq_true rfl) dX2_judgeVehicle_79 (fun H locs hP hD hS => ?_)
            cases hF
            rw [hQ]
            exact jb_vret hx hb hr hlocks hP hD hS dX2_judgeVehicle_82 (Nat.le_of_ble_eq_true rfl) (Nat.le_of_ble_eq_true rfl)
        · have hF := ob_neg c7 hF
          refine lv_aload_n hx hb dX2_judgeVehicle_61 rfl (lv_at hl 1 rfl) ?_
          refine lv_iconst (v := 1) hx hb dX2_judgeVehicle_62 (by decide) ?_
          refine lv_bipush (v := 8) hx hb dX2_judgeVehicle_63 (by decide) ?_
          obtain ⟨z10, hz10, hF⟩ := ob_bind hF
          refine cl_v (csR := [wB g a2 b]) (csF := [wJ g a z10, wB g a2 b]) (rest := []) hx hb hml hown hts hK hE hA hl hP hD hS (c_X2_because g l a j 1 8 z10 hz10) [0] [1] [1, 0] ⟨rfl, rfl, rfl, rfl, rfl, rfl, rfl⟩ ⟨0, 6, _, _, rfl, rfl, rfl⟩ 2 (jb_giV mw_734 mw_736 ms_3 mw_4 mw_737) ⟨rfl, rfl⟩ (by decide +kernel) ⟨⟨(Nat.le_of_ble_eq_true rfl), (Nat.le_of_ble_eq_true rfl)⟩, (Nat.le_of_ble_eq_true rfl), (Nat.le_of_ble_eq_true rfl)⟩ ⟨rfl, rfl⟩ (Nat.le_of_ble_eq_true rfl) dX2_judgeVehicle_65 (fun H locs hP hD hS => ?_)
          refine lv_goto (tgt := 82) hx hb dX2_judgeVehicle_68 (by decide) ?_
          cases hF
          rw [hQ]
          exact jb_vret hx hb hr hlocks hP hD hS dX2_judgeVehicle_82 (Nat.le_of_ble_eq_true rfl) (Nat.le_of_ble_eq_true rfl)
      · have hF := ob_nneg c6 hF
        refine lv_aload_n hx hb dX2_judgeVehicle_40 rfl (lv_at hl 1 rfl) ?_
        refine lv_iconst (v := 3) hx hb dX2_judgeVehicle_41 (by decide) ?_
        refine lv_aload_n hx hb dX2_judgeVehicle_42 rfl (lv_at hl 2 rfl) ?_
        refine va_getN (D := g.1) (ci := 4) (v := .int (B_hour b)) (C := RX0) (T := TX0) (N := 17) hx hb hts inX0 hown hK hP 1 rfl rfl 11 (by decide) (hE.nf 14 rfl) (fun _ h9 => h9) rfl dX2_judgeVehicle_43 ?_
        obtain ⟨z11, hz11, hF⟩ := ob_bind hF
        refine cl_v (csR := [wB g a2 b]) (csF := [wJ g a z11, wB g a2 b]) (rest := []) hx hb hml hown hts hK hE hA hl hP hD hS (c_X2_because g l a j 3 (B_hour b) z11 hz11) [0] [1] [1, 0] ⟨rfl, rfl, rfl, rfl, rfl, rfl, rfl⟩ ⟨0, 6, _, _, rfl, rfl, rfl⟩ 2 (jb_giV mw_734 mw_736 ms_3 mw_4 mw_737) ⟨rfl, rfl⟩ (by decide +kernel) ⟨⟨(Nat.le_of_ble_eq_true rfl), (Nat.le_of_ble_eq_true rfl)⟩, (Nat.le_of_ble_eq_true rfl), (Nat.le_of_ble_eq_true rfl)⟩ ⟨rfl, rfl⟩ (Nat.le_of_ble_eq_true rfl) dX2_judgeVehicle_46 (fun H locs hP hD hS => ?_)
        refine lv_goto (tgt := 82) hx hb dX2_judgeVehicle_49 (by decide) ?_
        cases hF
        rw [hQ]
        exact jb_vret hx hb hr hlocks hP hD hS dX2_judgeVehicle_82 (Nat.le_of_ble_eq_true rfl) (Nat.le_of_ble_eq_true rfl)
    · have hF := ob_neg c5 hF
      refine lv_aload_n hx hb dX2_judgeVehicle_23 rfl (lv_at hl 1 rfl) ?_
      refine lv_bipush (v := 9) hx hb dX2_judgeVehicle_24 (by decide) ?_
      refine lv_iconst (v := 0) hx hb dX2_judgeVehicle_26 (by decide) ?_
      obtain ⟨z12, hz12, hF⟩ := ob_bind hF
      refine cl_v (csR := [wB g a2 b]) (csF := [wJ g a z12, wB g a2 b]) (rest := []) hx hb hml hown hts hK hE hA hl hP hD hS (c_X2_because g l a j 9 0 z12 hz12) [0] [1] [1, 0] ⟨rfl, rfl, rfl, rfl, rfl, rfl, rfl⟩ ⟨0, 6, _, _, rfl, rfl, rfl⟩ 2 (jb_giV mw_734 mw_736 ms_3 mw_4 mw_737) ⟨rfl, rfl⟩ (by decide +kernel) ⟨⟨(Nat.le_of_ble_eq_true rfl), (Nat.le_of_ble_eq_true rfl)⟩, (Nat.le_of_ble_eq_true rfl), (Nat.le_of_ble_eq_true rfl)⟩ ⟨rfl, rfl⟩ (Nat.le_of_ble_eq_true rfl) dX2_judgeVehicle_27 (fun H locs hP hD hS => ?_)
      refine lv_goto (tgt := 82) hx hb dX2_judgeVehicle_30 (by decide) ?_
      cases hF
      rw [hQ]
      exact jb_vret hx hb hr hlocks hP hD hS dX2_judgeVehicle_82 (Nat.le_of_ble_eq_true rfl) (Nat.le_of_ble_eq_true rfl)
def F_X2_judgeRate (j : Jv) (b : Bv) (p1 : Int32) : Option (Jv) := if p1 < 0 then (F_X2_because j 9 0).bind (fun z1 => some z1) else if p1 ≤ 20 then if ¬ p1 = (B_rate b) then some j else (F_X2_because j 7 p1).bind (fun z2 => some z2) else (F_X2_because j 9 0).bind (fun z3 => some z3)
set_option maxHeartbeats 4000000 in
set_option maxRecDepth 100000 in
theorem c_X2_judgeRate (g : GG) (l : Launch) (a : Nat → Nat) (a2 : Nat → Nat) (j : Jv) (b : Bv) (p1 : Int32) (z : Jv) (hF : F_X2_judgeRate j b p1 = some z) : MV g l yX2_judgeRate cX2_judgeRate 3 none ({ frames := 1, cells := 0, slots := 0, locals := 22 } : Room) [.ref (a 0), .ref (a2 0), .int p1] [wJ g a j, wB g a2 b] 0 0 [wJ g a z, wB g a2 b] := by
  refine MV.bg (by decide) (Nat.le_of_ble_eq_true rfl) ?_
  intro p e s m below meth c A Q hQ hx hb hr hml hown hts hlocks hmn hK hE hA hP hD hS ls hl
  rw [F_X2_judgeRate] at hF
  have hl : lv_has ls 3 [(0, .ref (a 0)), (1, .ref (a2 0)), (2, .int p1)] := hl
  refine lv_iload_n hx hb dX2_judgeRate_0 rfl (lv_at hl 2 rfl) ?_
  refine lv_if_lt (tgt := 10) hx hb dX2_judgeRate_1 (by decide) (fun c1 => ?_) (fun c1 => ?_)
  · have hF := ob_pos c1 hF
    refine lv_aload_n hx hb dX2_judgeRate_10 rfl (lv_at hl 0 rfl) ?_
    refine lv_bipush (v := 9) hx hb dX2_judgeRate_11 (by decide) ?_
    refine lv_iconst (v := 0) hx hb dX2_judgeRate_13 (by decide) ?_
    obtain ⟨z2, hz2, hF⟩ := ob_bind hF
    refine cl_v (csR := [wB g a2 b]) (csF := [wJ g a z2, wB g a2 b]) (rest := []) hx hb hml hown hts hK hE hA hl hP hD hS (c_X2_because g l a j 9 0 z2 hz2) [0] [1] [1, 0] ⟨rfl, rfl, rfl, rfl, rfl, rfl, rfl⟩ ⟨0, 6, _, _, rfl, rfl, rfl⟩ 2 (jb_giV mw_734 mw_736 ms_3 mw_4 mw_737) ⟨rfl, rfl⟩ (by decide +kernel) ⟨⟨(Nat.le_of_ble_eq_true rfl), (Nat.le_of_ble_eq_true rfl)⟩, (Nat.le_of_ble_eq_true rfl), (Nat.le_of_ble_eq_true rfl)⟩ ⟨rfl, rfl⟩ (Nat.le_of_ble_eq_true rfl) dX2_judgeRate_14 (fun H locs hP hD hS => ?_)
    refine lv_goto (tgt := 35) hx hb dX2_judgeRate_17 (by decide) ?_
    cases hF
    rw [hQ]
    exact jb_vret hx hb hr hlocks hP hD hS dX2_judgeRate_35 (Nat.le_of_ble_eq_true rfl) (Nat.le_of_ble_eq_true rfl)
  · have hF := ob_neg c1 hF
    refine lv_iload_n hx hb dX2_judgeRate_4 rfl (lv_at hl 2 rfl) ?_
    refine lv_bipush (v := 20) hx hb dX2_judgeRate_5 (by decide) ?_
    refine lv_icmp_le (tgt := 20) hx hb dX2_judgeRate_7 (by decide) (fun c3 => ?_) (fun c3 => ?_)
    · have hF := ob_pos c3 hF
      refine lv_iload_n hx hb dX2_judgeRate_20 rfl (lv_at hl 2 rfl) ?_
      refine lv_aload_n hx hb dX2_judgeRate_21 rfl (lv_at hl 1 rfl) ?_
      refine va_getN (D := g.1) (ci := 4) (v := .int (B_rate b)) (C := RX0) (T := TX0) (N := 17) hx hb hts inX0 hown hK hP 1 rfl rfl 12 (by decide) (hE.nf 16 rfl) (fun _ h9 => h9) rfl dX2_judgeRate_22 ?_
      refine lv_icmp_ne (tgt := 35) hx hb dX2_judgeRate_25 (by decide) (fun c4 => ?_) (fun c4 => ?_)
      · have hF := ob_pos c4 hF
        cases hF
        rw [hQ]
        exact jb_vret hx hb hr hlocks hP hD hS dX2_judgeRate_35 (Nat.le_of_ble_eq_true rfl) (Nat.le_of_ble_eq_true rfl)
      · have hF := ob_nneg c4 hF
        refine lv_aload_n hx hb dX2_judgeRate_28 rfl (lv_at hl 0 rfl) ?_
        refine lv_bipush (v := 7) hx hb dX2_judgeRate_29 (by decide) ?_
        refine lv_iload_n hx hb dX2_judgeRate_31 rfl (lv_at hl 2 rfl) ?_
        obtain ⟨z5, hz5, hF⟩ := ob_bind hF
        refine cl_v (csR := [wB g a2 b]) (csF := [wJ g a z5, wB g a2 b]) (rest := []) hx hb hml hown hts hK hE hA hl hP hD hS (c_X2_because g l a j 7 p1 z5 hz5) [0] [1] [1, 0] ⟨rfl, rfl, rfl, rfl, rfl, rfl, rfl⟩ ⟨0, 6, _, _, rfl, rfl, rfl⟩ 2 (jb_giV mw_734 mw_736 ms_3 mw_4 mw_737) ⟨rfl, rfl⟩ (by decide +kernel) ⟨⟨(Nat.le_of_ble_eq_true rfl), (Nat.le_of_ble_eq_true rfl)⟩, (Nat.le_of_ble_eq_true rfl), (Nat.le_of_ble_eq_true rfl)⟩ ⟨rfl, rfl⟩ (Nat.le_of_ble_eq_true rfl) dX2_judgeRate_32 (fun H locs hP hD hS => ?_)
        cases hF
        rw [hQ]
        exact jb_vret hx hb hr hlocks hP hD hS dX2_judgeRate_35 (Nat.le_of_ble_eq_true rfl) (Nat.le_of_ble_eq_true rfl)
    · have hF := ob_neg c3 hF
      refine lv_aload_n hx hb dX2_judgeRate_10 rfl (lv_at hl 0 rfl) ?_
      refine lv_bipush (v := 9) hx hb dX2_judgeRate_11 (by decide) ?_
      refine lv_iconst (v := 0) hx hb dX2_judgeRate_13 (by decide) ?_
      obtain ⟨z6, hz6, hF⟩ := ob_bind hF
      refine cl_v (csR := [wB g a2 b]) (csF := [wJ g a z6, wB g a2 b]) (rest := []) hx hb hml hown hts hK hE hA hl hP hD hS (c_X2_because g l a j 9 0 z6 hz6) [0] [1] [1, 0] ⟨rfl, rfl, rfl, rfl, rfl, rfl, rfl⟩ ⟨0, 6, _, _, rfl, rfl, rfl⟩ 2 (jb_giV mw_734 mw_736 ms_3 mw_4 mw_737) ⟨rfl, rfl⟩ (by decide +kernel) ⟨⟨(Nat.le_of_ble_eq_true rfl), (Nat.le_of_ble_eq_true rfl)⟩, (Nat.le_of_ble_eq_true rfl), (Nat.le_of_ble_eq_true rfl)⟩ ⟨rfl, rfl⟩ (Nat.le_of_ble_eq_true rfl) dX2_judgeRate_14 (fun H locs hP hD hS => ?_)
      refine lv_goto (tgt := 35) hx hb dX2_judgeRate_17 (by decide) ?_
      cases hF
      rw [hQ]
      exact jb_vret hx hb hr hlocks hP hD hS dX2_judgeRate_35 (Nat.le_of_ble_eq_true rfl) (Nat.le_of_ble_eq_true rfl)
def F_X2_allows (j : Jv) (b : Bv) (p1 : Int32) (p2 : Int32) (p3 : Int32) : Option (Bool × Jv) := if p1 = 0 then (F_X2_judgeNewSpan (mkJ 0 0) b p2).bind (fun z1 => if ¬ (J_reason z1) = 0 then some (false, z1) else some (true, z1)) else if p1 = 1 then (F_X2_judgeJars (mkJ 0 0) b p2 p3).bind (fun z2 => if ¬ (J_reason z2) = 0 then some (false, z2) else some (true, z2)) else if p1 = 2 then (F_X2_judgeVehicle (mkJ 0 0) b p2).bind (fun z3 => if ¬ (J_reason z3) = 0 then some (false, z3) else some (true, z3)) else if p1 = 3 then (F_X2_judgeRepair (mkJ 0 0) b p2 p3).bind (fun z4 => if ¬ (J_reason z4) = 0 then some (false, z4) else some (true, z4)) else if p1 = 4 then (F_X2_judgeRate (mkJ 0 0) b p2).bind (fun z5 => if ¬ (J_reason z5) = 0 then some (false, z5) else some (true, z5)) else if p1 = 5 then (F_X2_judgeHours (mkJ 0 0) p2).bind (fun z6 => if ¬ (J_reason z6) = 0 then some (false, z6) else some (true, z6)) else (F_X2_judgeRemoval (mkJ 0 0) b).bind (fun z7 => if ¬ (J_reason z7) = 0 then some (false, z7) else some (true, z7))
set_option maxHeartbeats 4000000 in
set_option maxRecDepth 100000 in
theorem c_X2_allows (g : GG) (l : Launch) (a : Nat → Nat) (a2 : Nat → Nat) (j : Jv) (b : Bv) (p1 : Int32) (p2 : Int32) (p3 : Int32) (z : Bool × Jv) (hF : F_X2_allows j b p1 p2 p3 = some z) : MI g l yX2_allows cX2_allows 5 (some .boolean) ({ frames := 3, cells := 0, slots := 0, locals := 66 } : Room) [.ref (a 0), .ref (a2 0), .int p1, .int p2, .int p3] [wJ g a j, wB g a2 b] 0 0 (bi z.1) [wJ g a z.2, wB g a2 b] := by
  refine MI.bg (by decide) (Nat.le_of_ble_eq_true rfl) ?_
  intro p e s m below meth c A Q hQ hx hb hr hml hown hts hlocks hmn hK hE hA hP hD hS ls hl
  rw [F_X2_allows] at hF
  have hl : lv_has ls 5 [(0, .ref (a 0)), (1, .ref (a2 0)), (2, .int p1), (3, .int p2), (4, .int p3)] := hl
  refine lv_aload_n hx hb dX2_allows_0 rfl (lv_at hl 0 rfl) ?_
  refine lv_iconst (v := 0) hx hb dX2_allows_1 (by decide) ?_
  refine va_put (D := g.1) (ci := 6) (v := .int 0) (ty := .int) (C := RX2) (T := TX2) (N := 2) hx hb hts inX2 tyX2 tyX2_ok nmX2 hown hK hP hD hS 0 rfl rfl 0 (by decide) (hts _ mw_146) (fun _ h9 => h9) rfl (by decide +kernel) rfl rfl (Nat.le_of_ble_eq_true rfl) dX2_allows_2 (fun H locs hP hD hS => ?_)
  have hP : va_P g.1 vwCl ([wJc g a 0 (J_detail j), wB g a2 b] : List va_W).flatten _ := hP
  have hD : va_D A ([wJc g a 0 (J_detail j), wB g a2 b] : List va_W).flatten := hD
  refine lv_aload_n hx hb dX2_allows_5 rfl (lv_at hl 0 rfl) ?_
  refine lv_iconst (v := 0) hx hb dX2_allows_6 (by decide) ?_
  refine va_put (D := g.1) (ci := 6) (v := .int 0) (ty := .int) (C := RX2) (T := TX2) (N := 2) hx hb hts inX2 tyX2 tyX2_ok nmX2 hown hK hP hD hS 0 rfl rfl 1 (by decide) (hts _ mw_148) (fun _ h9 => h9) rfl (by decide +kernel) rfl rfl (Nat.le_of_ble_eq_true rfl) dX2_allows_7 (fun H locs hP hD hS => ?_)
  have hP : va_P g.1 vwCl ([wJc g a 0 0, wB g a2 b] : List va_W).flatten _ := hP
  have hD : va_D A ([wJc g a 0 0, wB g a2 b] : List va_W).flatten := hD
  refine lv_iload_n hx hb dX2_allows_10 rfl (lv_at hl 2 rfl) ?_
  by_cases s1 : p1 = 0
  · have hF := ob_pos s1 hF
    refine lv_tableIn (off := 37) (tgt := 48) hx hb dX2_allows_11 (by rw [s1]; decide) (by rw [s1]; decide) (by rw [s1]; rfl) (by decide) ?_
    refine lv_aload_n hx hb dX2_allows_48 rfl (lv_at hl 0 rfl) ?_
    refine lv_aload_n hx hb dX2_allows_49 rfl (lv_at hl 1 rfl) ?_
    refine lv_iload_n hx hb dX2_allows_50 rfl (lv_at hl 3 rfl) ?_
    obtain ⟨z2, hz2, hF⟩ := ob_bind hF
    refine cl_v (csR := []) (csF := [wJ g a z2, wB g a2 b]) (rest := []) hx hb hml hown hts hK hE hA hl hP hD hS (c_X2_judgeNewSpan g l a a2 (mkJ 0 0) b p2 z2 hz2) [0, 1] [] [0, 1] ⟨rfl, rfl, rfl, rfl, rfl, rfl, rfl⟩ ⟨0, 6, _, _, rfl, rfl, rfl⟩ 2 (jb_giV mw_730 mw_732 ms_2 mw_4 mw_733) ⟨rfl, rfl⟩ (by decide +kernel) ⟨⟨(Nat.le_of_ble_eq_true rfl), (Nat.le_of_ble_eq_true rfl)⟩, (Nat.le_of_ble_eq_true rfl), (Nat.le_of_ble_eq_true rfl)⟩ ⟨rfl, rfl⟩ (Nat.le_of_ble_eq_true rfl) dX2_allows_51 (fun H locs hP hD hS => ?_)
    refine lv_goto (tgt := 110) hx hb dX2_allows_54 (by decide) ?_
    refine lv_aload_n hx hb dX2_allows_110 rfl (lv_at hl 0 rfl) ?_
    refine va_get (D := g.1) (ci := 6) (v := .int (J_reason z2)) (C := RX2) (T := TX2) (N := 2) hx hb hts inX2 hown hK hP 0 rfl rfl 0 (by decide) (hts _ mw_146) (fun _ h9 => h9) rfl dX2_allows_111 ?_
    refine lv_if_ne (tgt := 121) hx hb dX2_allows_114 (by decide) (fun c3 => ?_) (fun c3 => ?_)
    · have hF := ob_pos c3 hF
      refine lv_iconst (v := 0) hx hb dX2_allows_121 (by decide) ?_
      cases hF
      rw [hQ]
      exact jb_zret hx hb hr rfl hlocks hP hD hS dX2_allows_122 rfl (Nat.le_of_ble_eq_true rfl) (Nat.le_of_ble_eq_true rfl)
    · have hF := ob_nneg c3 hF
      refine lv_iconst (v := 1) hx hb dX2_allows_117 (by decide) ?_
      refine lv_goto (tgt := 122) hx hb dX2_allows_118 (by decide) ?_
      cases hF
      rw [hQ]
      exact jb_zret hx hb hr rfl hlocks hP hD hS dX2_allows_122 rfl (Nat.le_of_ble_eq_true rfl) (Nat.le_of_ble_eq_true rfl)
  · have hF := ob_neg s1 hF
    by_cases s4 : p1 = 1
    · have hF := ob_pos s4 hF
      refine lv_tableIn (off := 46) (tgt := 57) hx hb dX2_allows_11 (by rw [s4]; decide) (by rw [s4]; decide) (by rw [s4]; rfl) (by decide) ?_
      refine lv_aload_n hx hb dX2_allows_57 rfl (lv_at hl 0 rfl) ?_
      refine lv_aload_n hx hb dX2_allows_58 rfl (lv_at hl 1 rfl) ?_
      refine lv_iload_n hx hb dX2_allows_59 rfl (lv_at hl 3 rfl) ?_
      refine lv_iload hx hb dX2_allows_60 (lv_at hl 4 rfl) ?_
      obtain ⟨z5, hz5, hF⟩ := ob_bind hF
      refine cl_v (csR := []) (csF := [wJ g a z5, wB g a2 b]) (rest := []) hx hb hml hown hts hK hE hA hl hP hD hS (c_X2_judgeJars g l a a2 (mkJ 0 0) b p2 p3 z5 hz5) [0, 1] [] [0, 1] ⟨rfl, rfl, rfl, rfl, rfl, rfl, rfl⟩ ⟨0, 6, _, _, rfl, rfl, rfl⟩ 3 (jb_giV mw_738 mw_740 ms_4 mw_4 mw_741) ⟨rfl, rfl⟩ (by decide +kernel) ⟨⟨(Nat.le_of_ble_eq_true rfl), (Nat.le_of_ble_eq_true rfl)⟩, (Nat.le_of_ble_eq_true rfl), (Nat.le_of_ble_eq_true rfl)⟩ ⟨rfl, rfl⟩ (Nat.le_of_ble_eq_true rfl) dX2_allows_62 (fun H locs hP hD hS => ?_)
      refine lv_goto (tgt := 110) hx hb dX2_allows_65 (by decide) ?_
      refine lv_aload_n hx hb dX2_allows_110 rfl (lv_at hl 0 rfl) ?_
      refine va_get (D := g.1) (ci := 6) (v := .int (J_reason z5)) (C := RX2) (T := TX2) (N := 2) hx hb hts inX2 hown hK hP 0 rfl rfl 0 (by decide) (hts _ mw_146) (fun _ h9 => h9) rfl dX2_allows_111 ?_
      refine lv_if_ne (tgt := 121) hx hb dX2_allows_114 (by decide) (fun c6 => ?_) (fun c6 => ?_)
      · have hF := ob_pos c6 hF
        refine lv_iconst (v := 0) hx hb dX2_allows_121 (by decide) ?_
        cases hF
        rw [hQ]
        exact jb_zret hx hb hr rfl hlocks hP hD hS dX2_allows_122 rfl (Nat.le_of_ble_eq_true rfl) (Nat.le_of_ble_eq_true rfl)
      · have hF := ob_nneg c6 hF
        refine lv_iconst (v := 1) hx hb dX2_allows_117 (by decide) ?_
        refine lv_goto (tgt := 122) hx hb dX2_allows_118 (by decide) ?_
        cases hF
        rw [hQ]
        exact jb_zret hx hb hr rfl hlocks hP hD hS dX2_allows_122 rfl (Nat.le_of_ble_eq_true rfl) (Nat.le_of_ble_eq_true rfl)
    · have hF := ob_neg s4 hF
      by_cases s7 : p1 = 2
      · have hF := ob_pos s7 hF
        refine lv_tableIn (off := 57) (tgt := 68) hx hb dX2_allows_11 (by rw [s7]; decide) (by rw [s7]; decide) (by rw [s7]; rfl) (by decide) ?_
        refine lv_aload_n hx hb dX2_allows_68 rfl (lv_at hl 0 rfl) ?_
        refine lv_aload_n hx hb dX2_allows_69 rfl (lv_at hl 1 rfl) ?_
        refine lv_iload_n hx hb dX2_allows_70 rfl (lv_at hl 3 rfl) ?_
        obtain ⟨z8, hz8, hF⟩ := ob_bind hF
        refine cl_v (csR := []) (csF := [wJ g a z8, wB g a2 b]) (rest := []) hx hb hml hown hts hK hE hA hl hP hD hS (c_X2_judgeVehicle g l a a2 (mkJ 0 0) b p2 z8 hz8) [0, 1] [] [0, 1] ⟨rfl, rfl, rfl, rfl, rfl, rfl, rfl⟩ ⟨0, 6, _, _, rfl, rfl, rfl⟩ 2 (jb_giV mw_743 mw_745 ms_5 mw_4 mw_746) ⟨rfl, rfl⟩ (by decide +kernel) ⟨⟨(Nat.le_of_ble_eq_true rfl), (Nat.le_of_ble_eq_true rfl)⟩, (Nat.le_of_ble_eq_true rfl), (Nat.le_of_ble_eq_true rfl)⟩ ⟨rfl, rfl⟩ (Nat.le_of_ble_eq_true rfl) dX2_allows_71 (fun H locs hP hD hS => ?_)
        refine lv_goto (tgt := 110) hx hb dX2_allows_74 (by decide) ?_
        refine lv_aload_n hx hb dX2_allows_110 rfl (lv_at hl 0 rfl) ?_
        refine va_get (D := g.1) (ci := 6) (v := .int (J_reason z8)) (C := RX2) (T := TX2) (N := 2) hx hb hts inX2 hown hK hP 0 rfl rfl 0 (by decide) (hts _ mw_146) (fun _ h9 => h9) rfl dX2_allows_111 ?_
        refine lv_if_ne (tgt := 121) hx hb dX2_allows_114 (by decide) (fun c9 => ?_) (fun c9 => ?_)
        · have hF := ob_pos c9 hF
          refine lv_iconst (v := 0) hx hb dX2_allows_121 (by decide) ?_
          cases hF
          rw [hQ]
          exact jb_zret hx hb hr rfl hlocks hP hD hS dX2_allows_122 rfl (Nat.le_of_ble_eq_true rfl) (Nat.le_of_ble_eq_true rfl)
        · have hF := ob_nneg c9 hF
          refine lv_iconst (v := 1) hx hb dX2_allows_117 (by decide) ?_
          refine lv_goto (tgt := 122) hx hb dX2_allows_118 (by decide) ?_
          cases hF
          rw [hQ]
          exact jb_zret hx hb hr rfl hlocks hP hD hS dX2_allows_122 rfl (Nat.le_of_ble_eq_true rfl) (Nat.le_of_ble_eq_true rfl)
      · have hF := ob_neg s7 hF
        by_cases s10 : p1 = 3
        · have hF := ob_pos s10 hF
          refine lv_tableIn (off := 66) (tgt := 77) hx hb dX2_allows_11 (by rw [s10]; decide) (by rw [s10]; decide) (by rw [s10]; rfl) (by decide) ?_
          refine lv_aload_n hx hb dX2_allows_77 rfl (lv_at hl 0 rfl) ?_
          refine lv_aload_n hx hb dX2_allows_78 rfl (lv_at hl 1 rfl) ?_
          refine lv_iload_n hx hb dX2_allows_79 rfl (lv_at hl 3 rfl) ?_
          refine lv_iload hx hb dX2_allows_80 (lv_at hl 4 rfl) ?_
          obtain ⟨z11, hz11, hF⟩ := ob_bind hF
          refine cl_v (csR := []) (csF := [wJ g a z11, wB g a2 b]) (rest := []) hx hb hml hown hts hK hE hA hl hP hD hS (c_X2_judgeRepair g l a a2 (mkJ 0 0) b p2 p3 z11 hz11) [0, 1] [] [0, 1] ⟨rfl, rfl, rfl, rfl, rfl, rfl, rfl⟩ ⟨0, 6, _, _, rfl, rfl, rfl⟩ 3 (jb_giV mw_749 mw_751 ms_6 mw_4 mw_752) ⟨rfl, rfl⟩ (by decide +kernel) ⟨⟨(Nat.le_of_ble_eq_true rfl), (Nat.le_of_ble_eq_true rfl)⟩, (Nat.le_of_ble_eq_true rfl), (Nat.le_of_ble_eq_true rfl)⟩ ⟨rfl, rfl⟩ (Nat.le_of_ble_eq_true rfl) dX2_allows_82 (fun H locs hP hD hS => ?_)
          refine lv_goto (tgt := 110) hx hb dX2_allows_85 (by decide) ?_
          refine lv_aload_n hx hb dX2_allows_110 rfl (lv_at hl 0 rfl) ?_
          refine va_get (D := g.1) (ci := 6) (v := .int (J_reason z11)) (C := RX2) (T := TX2) (N := 2) hx hb hts inX2 hown hK hP 0 rfl rfl 0 (by decide) (hts _ mw_146) (fun _ h9 => h9) rfl dX2_allows_111 ?_
          refine lv_if_ne (tgt := 121) hx hb dX2_allows_114 (by decide) (fun c12 => ?_) (fun c12 => ?_)
          · have hF := ob_pos c12 hF
            refine lv_iconst (v := 0) hx hb dX2_allows_121 (by decide) ?_
            cases hF
            rw [hQ]
            exact jb_zret hx hb hr rfl hlocks hP hD hS dX2_allows_122 rfl (Nat.le_of_ble_eq_true rfl) (Nat.le_of_ble_eq_true rfl)
          · have hF := ob_nneg c12 hF
            refine lv_iconst (v := 1) hx hb dX2_allows_117 (by decide) ?_
            refine lv_goto (tgt := 122) hx hb dX2_allows_118 (by decide) ?_
            cases hF
            rw [hQ]
            exact jb_zret hx hb hr rfl hlocks hP hD hS dX2_allows_122 rfl (Nat.le_of_ble_eq_true rfl) (Nat.le_of_ble_eq_true rfl)
        · have hF := ob_neg s10 hF
          by_cases s13 : p1 = 4
          · have hF := ob_pos s13 hF
            refine lv_tableIn (off := 77) (tgt := 88) hx hb dX2_allows_11 (by rw [s13]; decide) (by rw [s13]; decide) (by rw [s13]; rfl) (by decide) ?_
            refine lv_aload_n hx hb dX2_allows_88 rfl (lv_at hl 0 rfl) ?_
            refine lv_aload_n hx hb dX2_allows_89 rfl (lv_at hl 1 rfl) ?_
            refine lv_iload_n hx hb dX2_allows_90 rfl (lv_at hl 3 rfl) ?_
            obtain ⟨z14, hz14, hF⟩ := ob_bind hF
            refine cl_v (csR := []) (csF := [wJ g a z14, wB g a2 b]) (rest := []) hx hb hml hown hts hK hE hA hl hP hD hS (c_X2_judgeRate g l a a2 (mkJ 0 0) b p2 z14 hz14) [0, 1] [] [0, 1] ⟨rfl, rfl, rfl, rfl, rfl, rfl, rfl⟩ ⟨0, 6, _, _, rfl, rfl, rfl⟩ 2 (jb_giV mw_753 mw_755 ms_7 mw_4 mw_756) ⟨rfl, rfl⟩ (by decide +kernel) ⟨⟨(Nat.le_of_ble_eq_true rfl), (Nat.le_of_ble_eq_true rfl)⟩, (Nat.le_of_ble_eq_true rfl), (Nat.le_of_ble_eq_true rfl)⟩ ⟨rfl, rfl⟩ (Nat.le_of_ble_eq_true rfl) dX2_allows_91 (fun H locs hP hD hS => ?_)
            refine lv_goto (tgt := 110) hx hb dX2_allows_94 (by decide) ?_
            refine lv_aload_n hx hb dX2_allows_110 rfl (lv_at hl 0 rfl) ?_
            refine va_get (D := g.1) (ci := 6) (v := .int (J_reason z14)) (C := RX2) (T := TX2) (N := 2) hx hb hts inX2 hown hK hP 0 rfl rfl 0 (by decide) (hts _ mw_146) (fun _ h9 => h9) rfl dX2_allows_111 ?_
            refine lv_if_ne (tgt := 121) hx hb dX2_allows_114 (by decide) (fun c15 => ?_) (fun c15 => ?_)
            · have hF := ob_pos c15 hF
              refine lv_iconst (v := 0) hx hb dX2_allows_121 (by decide) ?_
              cases hF
              rw [hQ]
              exact jb_zret hx hb hr rfl hlocks hP hD hS dX2_allows_122 rfl (Nat.le_of_ble_eq_true rfl) (Nat.le_of_ble_eq_true rfl)
            · have hF := ob_nneg c15 hF
              refine lv_iconst (v := 1) hx hb dX2_allows_117 (by decide) ?_
              refine lv_goto (tgt := 122) hx hb dX2_allows_118 (by decide) ?_
              cases hF
              rw [hQ]
              exact jb_zret hx hb hr rfl hlocks hP hD hS dX2_allows_122 rfl (Nat.le_of_ble_eq_true rfl) (Nat.le_of_ble_eq_true rfl)
          · have hF := ob_neg s13 hF
            by_cases s16 : p1 = 5
            · have hF := ob_pos s16 hF
              refine lv_tableIn (off := 86) (tgt := 97) hx hb dX2_allows_11 (by rw [s16]; decide) (by rw [s16]; decide) (by rw [s16]; rfl) (by decide) ?_
              refine lv_aload_n hx hb dX2_allows_97 rfl (lv_at hl 0 rfl) ?_
              refine lv_iload_n hx hb dX2_allows_98 rfl (lv_at hl 3 rfl) ?_
              obtain ⟨z17, hz17, hF⟩ := ob_bind hF
              refine cl_v (csR := [wB g a2 b]) (csF := [wJ g a z17, wB g a2 b]) (rest := []) hx hb hml hown hts hK hE hA hl hP hD hS (c_X2_judgeHours g l a (mkJ 0 0) p2 z17 hz17) [0] [1] [1, 0] ⟨rfl, rfl, rfl, rfl, rfl, rfl, rfl⟩ ⟨0, 6, _, _, rfl, rfl, rfl⟩ 1 (jb_giV mw_757 mw_759 ms_8 mw_4 mw_760) ⟨rfl, rfl⟩ (by decide +kernel) ⟨⟨(Nat.le_of_ble_eq_true rfl), (Nat.le_of_ble_eq_true rfl)⟩, (Nat.le_of_ble_eq_true rfl), (Nat.le_of_ble_eq_true rfl)⟩ ⟨rfl, rfl⟩ (Nat.le_of_ble_eq_true rfl) dX2_allows_99 (fun H locs hP hD hS => ?_)
              refine lv_goto (tgt := 110) hx hb dX2_allows_102 (by decide) ?_
              refine lv_aload_n hx hb dX2_allows_110 rfl (lv_at hl 0 rfl) ?_
              refine va_get (D := g.1) (ci := 6) (v := .int (J_reason z17)) (C := RX2) (T := TX2) (N := 2) hx hb hts inX2 hown hK hP 0 rfl rfl 0 (by decide) (hts _ mw_146) (fun _ h9 => h9) rfl dX2_allows_111 ?_
              refine lv_if_ne (tgt := 121) hx hb dX2_allows_114 (by decide) (fun c18 => ?_) (fun c18 => ?_)
              · have hF := ob_pos c18 hF
                refine lv_iconst (v := 0) hx hb dX2_allows_121 (by decide) ?_
                cases hF
                rw [hQ]
                exact jb_zret hx hb hr rfl hlocks hP hD hS dX2_allows_122 rfl (Nat.le_of_ble_eq_true rfl) (Nat.le_of_ble_eq_true rfl)
              · have hF := ob_nneg c18 hF
                refine lv_iconst (v := 1) hx hb dX2_allows_117 (by decide) ?_
                refine lv_goto (tgt := 122) hx hb dX2_allows_118 (by decide) ?_
                cases hF
                rw [hQ]
                exact jb_zret hx hb hr rfl hlocks hP hD hS dX2_allows_122 rfl (Nat.le_of_ble_eq_true rfl) (Nat.le_of_ble_eq_true rfl)
            · have hF := ob_neg s16 hF
              have ts1 := jb_toInt (n := 0) s1 (by decide)
              have ts4 := jb_toInt (n := 1) s4 (by decide)
              have ts7 := jb_toInt (n := 2) s7 (by decide)
              have ts10 := jb_toInt (n := 3) s10 (by decide)
              have ts13 := jb_toInt (n := 4) s13 (by decide)
              have ts16 := jb_toInt (n := 5) s16 (by decide)
              refine lv_tableOut (tgt := 105) hx hb dX2_allows_11 (by omega) (by decide) ?_
              refine lv_aload_n hx hb dX2_allows_105 rfl (lv_at hl 0 rfl) ?_
              refine lv_aload_n hx hb dX2_allows_106 rfl (lv_at hl 1 rfl) ?_
              obtain ⟨z19, hz19, hF⟩ := ob_bind hF
              refine cl_v (csR := []) (csF := [wJ g a z19, wB g a2 b]) (rest := []) hx hb hml hown hts hK hE hA hl hP hD hS (c_X2_judgeRemoval g l a a2 (mkJ 0 0) b z19 hz19) [0, 1] [] [0, 1] ⟨rfl, rfl, rfl, rfl, rfl, rfl, rfl⟩ ⟨0, 6, _, _, rfl, rfl, rfl⟩ 1 (jb_giV mw_761 mw_763 ms_9 mw_4 mw_764) ⟨rfl, rfl⟩ (by decide +kernel) ⟨⟨(Nat.le_of_ble_eq_true rfl), (Nat.le_of_ble_eq_true rfl)⟩, (Nat.le_of_ble_eq_true rfl), (Nat.le_of_ble_eq_true rfl)⟩ ⟨rfl, rfl⟩ (Nat.le_of_ble_eq_true rfl) dX2_allows_107 (fun H locs hP hD hS => ?_)
              refine lv_aload_n hx hb dX2_allows_110 rfl (lv_at hl 0 rfl) ?_
              refine va_get (D := g.1) (ci := 6) (v := .int (J_reason z19)) (C := RX2) (T := TX2) (N := 2) hx hb hts inX2 hown hK hP 0 rfl rfl 0 (by decide) (hts _ mw_146) (fun _ h9 => h9) rfl dX2_allows_111 ?_
              refine lv_if_ne (tgt := 121) hx hb dX2_allows_114 (by decide) (fun c20 => ?_) (fun c20 => ?_)
              · have hF := ob_pos c20 hF
                refine lv_iconst (v := 0) hx hb dX2_allows_121 (by decide) ?_
                cases hF
                rw [hQ]
                exact jb_zret hx hb hr rfl hlocks hP hD hS dX2_allows_122 rfl (Nat.le_of_ble_eq_true rfl) (Nat.le_of_ble_eq_true rfl)
              · have hF := ob_nneg c20 hF
                refine lv_iconst (v := 1) hx hb dX2_allows_117 (by decide) ?_
                refine lv_goto (tgt := 122) hx hb dX2_allows_118 (by decide) ?_
                cases hF
                rw [hQ]
                exact jb_zret hx hb hr rfl hlocks hP hD hS dX2_allows_122 rfl (Nat.le_of_ble_eq_true rfl) (Nat.le_of_ble_eq_true rfl)
