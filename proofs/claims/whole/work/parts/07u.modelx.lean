theorem mw_1333 : Cond.fieldLink RX5 180 "JamBridgeModel" "toldMany" "I" ∈ WW := WT_in 1333 (by decide +kernel) (by decide +kernel)
theorem mw_1671 : Cond.methodLink RX5 183 yJ0_charAt_5068e ∈ WW := WT_in 1671 (by decide +kernel) (by decide +kernel)
theorem mw_1672 : Cond.methodLink RX5 189 yJ0_length_8abf5 ∈ WW := WT_in 1672 (by decide +kernel) (by decide +kernel)
theorem mw_1667 : Cond.methodLink RX5 196 yX5_isWord ∈ WW := WT_in 1667 (by decide +kernel) (by decide +kernel)
theorem mw_1669 : Cond.instanceMethod yX5_isWord ∈ WW := WT_in 1669 (by decide +kernel) (by decide +kernel)
theorem ms_63 : Cond.selects RX5 yX5_isWord yX5_isWord ∈ WW := WS_in 63 (by decide +kernel) (by decide +kernel)
theorem mw_1670 : Cond.code yX5_isWord cX5_isWord 3 (some .boolean) ∈ WW := WT_in 1670 (by decide +kernel) (by decide +kernel)
theorem mw_1677 : Cond.methodLink RX5 200 yX5_figures ∈ WW := WT_in 1677 (by decide +kernel) (by decide +kernel)
theorem mw_1679 : Cond.instanceMethod yX5_figures ∈ WW := WT_in 1679 (by decide +kernel) (by decide +kernel)
theorem ms_65 : Cond.selects RX5 yX5_figures yX5_figures ∈ WW := WS_in 65 (by decide +kernel) (by decide +kernel)
theorem mw_1680 : Cond.code yX5_figures cX5_figures 4 (some .boolean) ∈ WW := WT_in 1680 (by decide +kernel) (by decide +kernel)
theorem mw_1658 : Cond.methodLink RX5 215 yX5_commandHere ∈ WW := WT_in 1658 (by decide +kernel) (by decide +kernel)
theorem mw_1660 : Cond.instanceMethod yX5_commandHere ∈ WW := WT_in 1660 (by decide +kernel) (by decide +kernel)
theorem ms_61 : Cond.selects RX5 yX5_commandHere yX5_commandHere ∈ WW := WS_in 61 (by decide +kernel) (by decide +kernel)
theorem mw_1661 : Cond.code yX5_commandHere cX5_commandHere 2 (some .boolean) ∈ WW := WT_in 1661 (by decide +kernel) (by decide +kernel)
theorem mw_1654 : Cond.methodLink RX5 237 yX5_isText ∈ WW := WT_in 1654 (by decide +kernel) (by decide +kernel)
theorem mw_1656 : Cond.instanceMethod yX5_isText ∈ WW := WT_in 1656 (by decide +kernel) (by decide +kernel)
theorem ms_60 : Cond.selects RX5 yX5_isText yX5_isText ∈ WW := WS_in 60 (by decide +kernel) (by decide +kernel)
theorem mw_1657 : Cond.code yX5_isText cX5_isText 1 (some .boolean) ∈ WW := WT_in 1657 (by decide +kernel) (by decide +kernel)
theorem mw_1314 : Cond.fieldLink RX5 19 "JamBridgeModel" "before" "[I" ∈ WW := WT_in 1314 (by decide +kernel) (by decide +kernel)
theorem mw_1698 : Cond.methodLink RX5 243 yX5_deniesText ∈ WW := WT_in 1698 (by decide +kernel) (by decide +kernel)
theorem mw_1700 : Cond.instanceMethod yX5_deniesText ∈ WW := WT_in 1700 (by decide +kernel) (by decide +kernel)
theorem ms_67 : Cond.selects RX5 yX5_deniesText yX5_deniesText ∈ WW := WS_in 67 (by decide +kernel) (by decide +kernel)
theorem mw_1701 : Cond.code yX5_deniesText cX5_deniesText 3 (some .int) ∈ WW := WT_in 1701 (by decide +kernel) (by decide +kernel)
theorem mw_1687 : Cond.methodLink RX5 240 yX5_carries ∈ WW := WT_in 1687 (by decide +kernel) (by decide +kernel)
theorem mw_1689 : Cond.instanceMethod yX5_carries ∈ WW := WT_in 1689 (by decide +kernel) (by decide +kernel)
theorem ms_66 : Cond.selects RX5 yX5_carries yX5_carries ∈ WW := WS_in 66 (by decide +kernel) (by decide +kernel)
theorem mw_1690 : Cond.code yX5_carries cX5_carries 4 (some .int) ∈ WW := WT_in 1690 (by decide +kernel) (by decide +kernel)
theorem mw_1714 : Cond.methodLink RX5 252 yX5_writes ∈ WW := WT_in 1714 (by decide +kernel) (by decide +kernel)
theorem mw_1716 : Cond.instanceMethod yX5_writes ∈ WW := WT_in 1716 (by decide +kernel) (by decide +kernel)
theorem ms_69 : Cond.selects RX5 yX5_writes yX5_writes ∈ WW := WS_in 69 (by decide +kernel) (by decide +kernel)
theorem mw_1717 : Cond.code yX5_writes cX5_writes 2 none ∈ WW := WT_in 1717 (by decide +kernel) (by decide +kernel)
theorem mw_1710 : Cond.methodLink RX5 249 yX5_writesNumber ∈ WW := WT_in 1710 (by decide +kernel) (by decide +kernel)
theorem mw_1712 : Cond.instanceMethod yX5_writesNumber ∈ WW := WT_in 1712 (by decide +kernel) (by decide +kernel)
theorem ms_68 : Cond.selects RX5 yX5_writesNumber yX5_writesNumber ∈ WW := WS_in 68 (by decide +kernel) (by decide +kernel)
theorem mw_1713 : Cond.code yX5_writesNumber cX5_writesNumber 2 none ∈ WW := WT_in 1713 (by decide +kernel) (by decide +kernel)
theorem mw_1718 : Cond.methodLink RX5 255 yX5_writesBehind ∈ WW := WT_in 1718 (by decide +kernel) (by decide +kernel)
theorem mw_1720 : Cond.instanceMethod yX5_writesBehind ∈ WW := WT_in 1720 (by decide +kernel) (by decide +kernel)
theorem ms_70 : Cond.selects RX5 yX5_writesBehind yX5_writesBehind ∈ WW := WS_in 70 (by decide +kernel) (by decide +kernel)
theorem mw_1721 : Cond.code yX5_writesBehind cX5_writesBehind 3 none ∈ WW := WT_in 1721 (by decide +kernel) (by decide +kernel)
def F_X5_writesNumber_n : Nat → Mv → Int32 → Option Mv
  | 0, _, _ => none
  | n + 1, mo, p0 => if p0 ≤ 9 then (F_X5_writes mo (48 + (p0 - p0 / 10 * 10))) else (F_X5_writesNumber_n n mo (p0 / 10)).bind (fun z1 => F_X5_writes z1 (48 + (p0 - p0 / 10 * 10)))
def F_X5_writesNumber (mo : Mv) (p0 : Int32) : Option Mv := F_X5_writesNumber_n 6 mo p0
set_option maxHeartbeats 4000000 in
set_option maxRecDepth 100000 in
theorem c_X5_writesNumber_n (g : GG) (l : Launch) (a : Nat → Nat) : ∀ (n : Nat) (mo : Mv) (p0 : Int32) (z : Mv), F_X5_writesNumber_n n mo p0 = some z → MV g l yX5_writesNumber cX5_writesNumber 2 none ({ frames := n + 1, cells := 0, slots := 0, locals := 21 * n + 21 } : Room) [.ref (a 0), .int p0] [wM g a mo] 0 0 [wM g a z] := by
  intro n
  induction n with
  | zero => intro mo p0 z hF; rw [F_X5_writesNumber_n] at hF; cases hF
  | succ n9 ih =>
    intro mo p0 z hF
    refine MV.bg (by decide) (Nat.le_of_ble_eq_true rfl) ?_
    intro p e s m below meth c A Q hQ hx hb hr hml hown hts hlocks hmn hK hE hA hP hD hS ls hl
    rw [F_X5_writesNumber_n] at hF
    have hl : lv_has ls 2 [(0, .ref (a 0)), (1, .int p0)] := hl
    refine lv_iload_n hx hb dX5_writesNumber_0 rfl (lv_at hl 1 rfl) ?_
    refine lv_bipush (v := 9) hx hb dX5_writesNumber_1 (by decide) ?_
    refine lv_icmp_le (tgt := 14) hx hb dX5_writesNumber_3 (by decide) (fun c1 => ?_) (fun c1 => ?_)
    · have hF := ob_pos c1 hF
      refine lv_aload_n hx hb dX5_writesNumber_14 rfl (lv_at hl 0 rfl) ?_
      refine lv_bipush (v := 48) hx hb dX5_writesNumber_15 (by decide) ?_
      refine lv_iload_n hx hb dX5_writesNumber_17 rfl (lv_at hl 1 rfl) ?_
      refine lv_bipush (v := 10) hx hb dX5_writesNumber_18 (by decide) ?_
      refine lv_irem hx hb dX5_writesNumber_20 (by decide) ?_
      refine lv_iadd hx hb dX5_writesNumber_21 ?_
      refine cl_v (csR := []) (csF := [wM g a z]) (rest := []) hx hb hml hown hts hK hE hA hl hP hD hS (c_X5_writes g l a mo (48 + (p0 - p0 / 10 * 10)) z hF) [0] [] [0] ⟨rfl, rfl, rfl, rfl, rfl, rfl, rfl⟩ ⟨0, 9, _, _, rfl, rfl, rfl⟩ 1 (jb_giV (WT_in 1714 (by decide +kernel) (by decide +kernel)) (WT_in 1716 (by decide +kernel) (by decide +kernel)) (WS_in 69 (by decide +kernel) (by decide +kernel)) (WT_in 10 (by decide +kernel) (by decide +kernel)) (WT_in 1717 (by decide +kernel) (by decide +kernel))) ⟨rfl, rfl⟩ (by decide +kernel) ⟨⟨by show 0 + 1 ≤ n9 + 2; omega, by show 8 + (2 + 11) + 0 ≤ 21 * (n9 + 1) + 21; omega⟩, (Nat.le_of_ble_eq_true rfl), (Nat.le_of_ble_eq_true rfl)⟩ ⟨rfl, rfl⟩ (Nat.le_of_ble_eq_true rfl) dX5_writesNumber_22 (fun H locs hP hD hS => ?_)
      rw [hQ]
      exact jb_vret hx hb hr hlocks hP hD hS dX5_writesNumber_25 (Nat.le_of_ble_eq_true rfl) (Nat.le_of_ble_eq_true rfl)
    · have hF := ob_neg c1 hF
      obtain ⟨z1, hz1, hF⟩ := ob_bind hF
      refine lv_aload_n hx hb dX5_writesNumber_6 rfl (lv_at hl 0 rfl) ?_
      refine lv_iload_n hx hb dX5_writesNumber_7 rfl (lv_at hl 1 rfl) ?_
      refine lv_bipush (v := 10) hx hb dX5_writesNumber_8 (by decide) ?_
      refine lv_idiv hx hb dX5_writesNumber_10 (by decide) ?_
      refine cl_v (csR := []) (csF := [wM g a z1]) (rest := []) hx hb hml hown hts hK hE hA hl hP hD hS (ih mo (p0 / 10) z1 hz1) [0] [] [0] ⟨rfl, rfl, rfl, rfl, rfl, rfl, rfl⟩ ⟨0, 9, _, _, rfl, rfl, rfl⟩ 1 (jb_giV (WT_in 1710 (by decide +kernel) (by decide +kernel)) (WT_in 1712 (by decide +kernel) (by decide +kernel)) (WS_in 68 (by decide +kernel) (by decide +kernel)) (WT_in 10 (by decide +kernel) (by decide +kernel)) (WT_in 1713 (by decide +kernel) (by decide +kernel))) ⟨rfl, rfl⟩ (by decide +kernel) ⟨⟨by show n9 + 1 + 1 ≤ n9 + 1 + 1; omega, by show 8 + (2 + 11) + (21 * n9 + 21) ≤ 21 * (n9 + 1) + 21; omega⟩, (Nat.le_of_ble_eq_true rfl), (Nat.le_of_ble_eq_true rfl)⟩ ⟨rfl, rfl⟩ (Nat.le_of_ble_eq_true rfl) dX5_writesNumber_11 (fun H locs hP hD hS => ?_)
      refine lv_aload_n hx hb dX5_writesNumber_14 rfl (lv_at hl 0 rfl) ?_
      refine lv_bipush (v := 48) hx hb dX5_writesNumber_15 (by decide) ?_
      refine lv_iload_n hx hb dX5_writesNumber_17 rfl (lv_at hl 1 rfl) ?_
      refine lv_bipush (v := 10) hx hb dX5_writesNumber_18 (by decide) ?_
      refine lv_irem hx hb dX5_writesNumber_20 (by decide) ?_
      refine lv_iadd hx hb dX5_writesNumber_21 ?_
      refine cl_v (csR := []) (csF := [wM g a z]) (rest := []) hx hb hml hown hts hK hE hA hl hP hD hS (c_X5_writes g l a z1 (48 + (p0 - p0 / 10 * 10)) z hF) [0] [] [0] ⟨rfl, rfl, rfl, rfl, rfl, rfl, rfl⟩ ⟨0, 9, _, _, rfl, rfl, rfl⟩ 1 (jb_giV (WT_in 1714 (by decide +kernel) (by decide +kernel)) (WT_in 1716 (by decide +kernel) (by decide +kernel)) (WS_in 69 (by decide +kernel) (by decide +kernel)) (WT_in 10 (by decide +kernel) (by decide +kernel)) (WT_in 1717 (by decide +kernel) (by decide +kernel))) ⟨rfl, rfl⟩ (by decide +kernel) ⟨⟨by show 0 + 1 ≤ n9 + 2; omega, by show 8 + (2 + 11) + 0 ≤ 21 * (n9 + 1) + 21; omega⟩, (Nat.le_of_ble_eq_true rfl), (Nat.le_of_ble_eq_true rfl)⟩ ⟨rfl, rfl⟩ (Nat.le_of_ble_eq_true rfl) dX5_writesNumber_22 (fun H locs hP hD hS => ?_)
      rw [hQ]
      exact jb_vret hx hb hr hlocks hP hD hS dX5_writesNumber_25 (Nat.le_of_ble_eq_true rfl) (Nat.le_of_ble_eq_true rfl)
theorem c_X5_writesNumber (g : GG) (l : Launch) (a : Nat → Nat) (mo : Mv) (p0 : Int32) (z : Mv) (hF : F_X5_writesNumber mo p0 = some z) : MV g l yX5_writesNumber cX5_writesNumber 2 none ({ frames := 7, cells := 0, slots := 0, locals := 147 } : Room) [.ref (a 0), .int p0] [wM g a mo] 0 0 [wM g a z] := c_X5_writesNumber_n g l a 6 mo p0 z hF

def F_X5_isWord_L18 (y1 : Nat) (k : Mv → Int32 → Option (Bool × Mv)) : Nat → Mv → Int32 → Option (Bool × Mv)
  | 0, _, _ => none
  | n + 1, b0, x2 => (F_J0_length_8abf5 y1).bind (fun z2 => if z2 ≤ x2 then k b0 x2 else (F_J0_charAt_5068e y1 x2).bind (fun z3 => (F_X5_skips b0 z3).bind (fun z4 => if ¬ (bi z4.1) = 0 then F_X5_isWord_L18 y1 k n z4.2 (x2 + 1) else some (false, z4.2))))
def F_X5_isWord (mo : Mv) (p0 : Nat) : Option (Bool × Mv) := (F_J0_charAt_5068e p0 0).bind (fun z1 => ck (inb (3 * (M_toldMany mo)) 93) (F_X5_isWord_L18 p0 (fun b5 x6 => some (true, b5)) 1000 (mkM (M_g mo) (M_kept mo) (M_saved mo) (M_before mo) (M_trial mo) (M_counted mo) (M_isSaved mo) (M_changes mo) (M_isWithin mo) (M_isDenied mo) (M_code mo) (M_why mo) (M_detail mo) (M_cause mo) (M_input mo) (M_length mo) (M_fault mo) (M_signs mo) (M_signMany mo) (M_lastOver mo) (M_at mo) (upd (M_told mo) (3 * (M_toldMany mo)).toNatClampNeg z1) (M_toldMany mo)) 0))
set_option maxHeartbeats 4000000 in
set_option maxRecDepth 100000 in
theorem c_X5_isWord (g : GG) (l : Launch) (a : Nat → Nat) (mo : Mv) (p0 : Nat) (z : Bool × Mv) (hF : F_X5_isWord mo p0 = some z) : MI g l yX5_isWord cX5_isWord 3 (some .boolean) ({ frames := 4, cells := 0, slots := 0, locals := 85 } : Room) [.ref (a 0), .ref (g.2.2.1 p0)] [wM g a mo] 0 0 (bi z.1) [wM g a z.2] := by
  refine MI.bg (by decide) (Nat.le_of_ble_eq_true rfl) ?_
  intro p e s m below meth c A Q hQ hx hb hr hml hown hts hlocks hmn hK hE hA hP hD hS ls hl
  rw [F_X5_isWord] at hF
  have hl : lv_has ls 3 [(0, .ref (a 0)), (1, .ref (g.2.2.1 p0))] := hl
  refine lv_aload_n hx hb dX5_isWord_0 rfl (lv_at hl 0 rfl) ?_
  refine va_get (D := g.1) (ci := 9) (v := .ref (a 9)) (C := RX5) (T := TX5) (N := 23) hx hb hts inX5 hown hK hP 0 rfl rfl 21 (by decide) (hts _ mw_1332) (fun _ h9 => h9) rfl dX5_isWord_1 ?_
  refine lv_iconst (v := 3) hx hb dX5_isWord_4 (by decide) ?_
  refine lv_aload_n hx hb dX5_isWord_5 rfl (lv_at hl 0 rfl) ?_
  refine va_get (D := g.1) (ci := 9) (v := .int (M_toldMany mo)) (C := RX5) (T := TX5) (N := 23) hx hb hts inX5 hown hK hP 0 rfl rfl 22 (by decide) (hts _ mw_1333) (fun _ h9 => h9) rfl dX5_isWord_6 ?_
  refine lv_imul hx hb dX5_isWord_9 ?_
  refine lv_aload_n hx hb dX5_isWord_10 rfl (lv_at hl 1 rfl) ?_
  refine lv_iconst (v := 0) hx hb dX5_isWord_11 (by decide) ?_
  obtain ⟨z1, hz1, hF⟩ := ob_bind hF
  refine cl_iR (csR := [wM g a mo]) (csF := [wM g a mo]) (rest := [.int (3 * (M_toldMany mo)), .ref (a 9)]) hx hb hml hown hts hK hE hA hl hP hD hS (c_J0_charAt_5068e g l  p0 0 z1 hz1) [] [0] [0] ⟨rfl, rfl, rfl, rfl, rfl, rfl, rfl⟩ (jb_strR hE (of_decide_eq_true (ck_t hz1)) hS) 1 (jb_giV mw_1671 mw_1181 mw_1182 mw_8 mw_1183) ⟨rfl, rfl⟩ (by decide +kernel) ⟨⟨(Nat.le_of_ble_eq_true rfl), (Nat.le_of_ble_eq_true rfl)⟩, (Nat.le_of_ble_eq_true rfl), (Nat.le_of_ble_eq_true rfl)⟩ ⟨rfl, rfl⟩ (Nat.le_of_ble_eq_true rfl) dX5_isWord_12 (fun H locs hP hD hS => ?_)
  have h2 := inb_in (ck_t hF)
  have hF := ck_s hF
  refine va_iast hx hb hK hP hD hS 9 0 rfl rfl h2 dX5_isWord_15 (fun H locs hP hD hS => ?_)
  have hP : va_P g.1 vwCl ([wMc g a (M_g mo) (M_kept mo) (M_saved mo) (M_before mo) (M_trial mo) (M_counted mo) (M_isSaved mo) (M_changes mo) (M_isWithin mo) (M_isDenied mo) (M_code mo) (M_why mo) (M_detail mo) (M_cause mo) (M_input mo) (M_length mo) (M_fault mo) (M_signs mo) (M_signMany mo) (M_lastOver mo) (M_at mo) (upd (M_told mo) (3 * (M_toldMany mo)).toNatClampNeg z1) (M_toldMany mo)] : List va_W).flatten _ := hP
  have hD : va_D A ([wMc g a (M_g mo) (M_kept mo) (M_saved mo) (M_before mo) (M_trial mo) (M_counted mo) (M_isSaved mo) (M_changes mo) (M_isWithin mo) (M_isDenied mo) (M_code mo) (M_why mo) (M_detail mo) (M_cause mo) (M_input mo) (M_length mo) (M_fault mo) (M_signs mo) (M_signMany mo) (M_lastOver mo) (M_at mo) (upd (M_told mo) (3 * (M_toldMany mo)).toNatClampNeg z1) (M_toldMany mo)] : List va_W).flatten := hD
  refine lv_iconst (v := 0) hx hb dX5_isWord_16 (by decide) ?_
  refine lv_istore_n (lv' := [(2, .int 0), (0, .ref (a 0)), (1, .ref (g.2.2.1 p0))]) hx hb dX5_isWord_17 rfl hl (by decide) rfl (fun ls hl => ?_)
  obtain ⟨k4, ek4, hF⟩ := ob_k (F := fun k9 => F_X5_isWord_L18 p0 k9 1000 (mkM (M_g mo) (M_kept mo) (M_saved mo) (M_before mo) (M_trial mo) (M_counted mo) (M_isSaved mo) (M_changes mo) (M_isWithin mo) (M_isDenied mo) (M_code mo) (M_why mo) (M_detail mo) (M_cause mo) (M_input mo) (M_length mo) (M_fault mo) (M_signs mo) (M_signMany mo) (M_lastOver mo) (M_at mo) (upd (M_told mo) (3 * (M_toldMany mo)).toNatClampNeg z1) (M_toldMany mo)) 0) hF
  have loop4 : ∀ (n9 : Nat) (b3 : Mv) (x4 : Int32), F_X5_isWord_L18 p0 k4 n9 b3 x4 = some z → ∀ (H : Heap) (locs : List Loc), va_P g.1 vwCl ([wM g a b3] : List va_W).flatten H → va_D A ([wM g a b3] : List va_W).flatten → va_S A s.heap H locs → ∀ ls : Array Slot, lv_has ls 3 [(0, .ref (a 0)), (1, .ref (g.2.2.1 p0)), (2, .int x4)] → W p l e ({ frames := 4, cells := 0, slots := 0, locals := 85 } : Room) s m ([.ref (a 0), .ref (g.2.2.1 p0)] : List Value).toArray below meth c H locs 0 0 Q (F0 m 18 ls []) := by
    intro n9
    induction n9 with
    | zero => intro b3 x4 hF; rw [F_X5_isWord_L18] at hF; cases hF
    | succ n9 ih4 =>
      intro b3 x4 hF H locs hP hD hS ls hl
      rw [F_X5_isWord_L18] at hF
      refine lv_iload_n hx hb dX5_isWord_18 rfl (lv_at hl 2 rfl) ?_
      refine lv_aload_n hx hb dX5_isWord_19 rfl (lv_at hl 1 rfl) ?_
      obtain ⟨z5, hz5, hF⟩ := ob_bind hF
      refine cl_iR (csR := [wM g a b3]) (csF := [wM g a b3]) (rest := [.int x4]) hx hb hml hown hts hK hE hA hl hP hD hS (c_J0_length_8abf5 g l  p0 z5 hz5) [] [0] [0] ⟨rfl, rfl, rfl, rfl, rfl, rfl, rfl⟩ (jb_strR hE (of_decide_eq_true (ck_t hz5)) hS) 0 (jb_giV mw_1672 mw_416 mw_417 mw_8 mw_418) ⟨rfl, rfl⟩ (by decide +kernel) ⟨⟨(Nat.le_of_ble_eq_true rfl), (Nat.le_of_ble_eq_true rfl)⟩, (Nat.le_of_ble_eq_true rfl), (Nat.le_of_ble_eq_true rfl)⟩ ⟨rfl, rfl⟩ (Nat.le_of_ble_eq_true rfl) dX5_isWord_20 (fun H locs hP hD hS => ?_)
      refine lv_icmp_ge (tgt := 46) hx hb dX5_isWord_23 (by decide) (fun c6 => ?_) (fun c6 => ?_)
      · have hF := ob_pos c6 hF
        rw [ek4] at hF
        refine lv_iconst (v := 1) hx hb dX5_isWord_46 (by decide) ?_
        cases hF
        rw [hQ]
        exact jb_zret hx hb hr rfl hlocks hP hD hS dX5_isWord_47 rfl (Nat.le_of_ble_eq_true rfl) (Nat.le_of_ble_eq_true rfl)
      · have hF := ob_neg c6 hF
        refine lv_aload_n hx hb dX5_isWord_26 rfl (lv_at hl 0 rfl) ?_
        refine lv_aload_n hx hb dX5_isWord_27 rfl (lv_at hl 1 rfl) ?_
        refine lv_iload_n hx hb dX5_isWord_28 rfl (lv_at hl 2 rfl) ?_
        obtain ⟨z7, hz7, hF⟩ := ob_bind hF
        refine cl_iR (csR := [wM g a b3]) (csF := [wM g a b3]) (rest := [.ref (a 0)]) hx hb hml hown hts hK hE hA hl hP hD hS (c_J0_charAt_5068e g l  p0 x4 z7 hz7) [] [0] [0] ⟨rfl, rfl, rfl, rfl, rfl, rfl, rfl⟩ (jb_strR hE (of_decide_eq_true (ck_t hz7)) hS) 1 (jb_giV mw_1671 mw_1181 mw_1182 mw_8 mw_1183) ⟨rfl, rfl⟩ (by decide +kernel) ⟨⟨(Nat.le_of_ble_eq_true rfl), (Nat.le_of_ble_eq_true rfl)⟩, (Nat.le_of_ble_eq_true rfl), (Nat.le_of_ble_eq_true rfl)⟩ ⟨rfl, rfl⟩ (Nat.le_of_ble_eq_true rfl) dX5_isWord_29 (fun H locs hP hD hS => ?_)
        obtain ⟨z8, hz8, hF⟩ := ob_bind hF
        refine cl_i (csR := []) (csF := [wM g a z8.2]) (rest := []) hx hb hml hown hts hK hE hA hl hP hD hS (c_X5_skips g l a b3 z7 z8 hz8) [0] [] [0] ⟨rfl, rfl, rfl, rfl, rfl, rfl, rfl⟩ ⟨0, 9, _, _, rfl, rfl, rfl⟩ 1 (jb_giV mw_1673 mw_1675 ms_64 mw_10 mw_1676) ⟨rfl, rfl⟩ (by decide +kernel) ⟨⟨(Nat.le_of_ble_eq_true rfl), (Nat.le_of_ble_eq_true rfl)⟩, (Nat.le_of_ble_eq_true rfl), (Nat.le_of_ble_eq_true rfl)⟩ ⟨rfl, rfl⟩ (Nat.le_of_ble_eq_true rfl) dX5_isWord_32 (fun H locs hP hD hS => ?_)
        refine lv_if_ne (tgt := 40) hx hb dX5_isWord_35 (by decide) (fun c9 => ?_) (fun c9 => ?_)
        · have hF := ob_pos c9 hF
          refine lv_iinc (v := x4 + 1) (lv' := [(2, .int (x4 + 1)), (0, .ref (a 0)), (1, .ref (g.2.2.1 p0))]) hx hb dX5_isWord_40 hl (k := 2) rfl (by rfl) (by decide) rfl (fun ls hl => ?_)
          refine lv_goto (tgt := 18) hx hb dX5_isWord_43 (by decide) ?_
          exact ih4 _ _ hF _ _ hP hD hS ls (lv_sub hl [1, 2, 0] rfl)
        · have hF := ob_nneg c9 hF
          refine lv_iconst (v := 0) hx hb dX5_isWord_38 (by decide) ?_
          cases hF
          rw [hQ]
          exact jb_zret hx hb hr rfl hlocks hP hD hS dX5_isWord_39 rfl (Nat.le_of_ble_eq_true rfl) (Nat.le_of_ble_eq_true rfl)
  exact loop4 1000 _ _ hF _ _ hP hD hS ls (lv_sub hl [1, 2, 0] rfl)
def F_X5_commandHere (mo : Mv) : Option (Bool × Mv) := (F_X5_here mo).bind (fun z1 => if z1 = 99 then (F_X5_isWord mo 6).bind (fun z2 => some (z2.1, z2.2)) else if z1 = 101 then (F_X5_isWord mo 9).bind (fun z3 => if (bi z3.1) = 0 then some (false, z3.2) else (F_X5_figures z3.2 ((3 * (M_toldMany mo)) + 1) 2).bind (fun z4 => if (bi z4.1) = 0 then some (false, z4.2) else some (true, z4.2))) else if z1 = 109 then (F_X5_isWord mo 10).bind (fun z5 => if (bi z5.1) = 0 then some (false, z5.2) else (F_X5_figures z5.2 ((3 * (M_toldMany mo)) + 1) 1).bind (fun z6 => if (bi z6.1) = 0 then some (false, z6.2) else (F_X5_figures z6.2 (((3 * (M_toldMany mo)) + 1) + 1) 1).bind (fun z7 => if (bi z7.1) = 0 then some (false, z7.2) else some (true, z7.2)))) else if z1 = 112 then (F_X5_isWord mo 8).bind (fun z8 => if (bi z8.1) = 0 then some (false, z8.2) else (F_X5_figures z8.2 ((3 * (M_toldMany mo)) + 1) 1).bind (fun z9 => if (bi z9.1) = 0 then some (false, z9.2) else (F_X5_figures z9.2 (((3 * (M_toldMany mo)) + 1) + 1) 2).bind (fun z10 => if (bi z10.1) = 0 then some (false, z10.2) else some (true, z10.2)))) else if z1 = 114 then (F_X5_isWord mo 11).bind (fun z11 => if (bi z11.1) = 0 then some (false, z11.2) else (F_X5_figures z11.2 ((3 * (M_toldMany mo)) + 1) 2).bind (fun z12 => if (bi z12.1) = 0 then some (false, z12.2) else some (true, z12.2))) else if z1 = 115 then (F_X5_isWord mo 7).bind (fun z13 => if (bi z13.1) = 0 then some (false, z13.2) else (F_X5_figures z13.2 ((3 * (M_toldMany mo)) + 1) 2).bind (fun z14 => if (bi z14.1) = 0 then some (false, z14.2) else some (true, z14.2))) else if z1 = 119 then (F_X5_isWord mo 12).bind (fun z15 => if (bi z15.1) = 0 then some (false, z15.2) else (F_X5_figures z15.2 ((3 * (M_toldMany mo)) + 1) 2).bind (fun z16 => if (bi z16.1) = 0 then some (false, z16.2) else some (true, z16.2))) else some (false, mo))
set_option maxHeartbeats 4000000 in
set_option maxRecDepth 100000 in
theorem c_X5_commandHere (g : GG) (l : Launch) (a : Nat → Nat) (mo : Mv) (z : Bool × Mv) (hF : F_X5_commandHere mo = some z) : MI g l yX5_commandHere cX5_commandHere 2 (some .boolean) ({ frames := 5, cells := 0, slots := 0, locals := 107 } : Room) [.ref (a 0)] [wM g a mo] 0 0 (bi z.1) [wM g a z.2] := by
  refine MI.bg (by decide) (Nat.le_of_ble_eq_true rfl) ?_
  intro p e s m below meth c A Q hQ hx hb hr hml hown hts hlocks hmn hK hE hA hP hD hS ls hl
  rw [F_X5_commandHere] at hF
  have hl : lv_has ls 2 [(0, .ref (a 0))] := hl
  refine lv_iconst (v := 3) hx hb dX5_commandHere_0 (by decide) ?_
  refine lv_aload_n hx hb dX5_commandHere_1 rfl (lv_at hl 0 rfl) ?_
  refine va_get (D := g.1) (ci := 9) (v := .int (M_toldMany mo)) (C := RX5) (T := TX5) (N := 23) hx hb hts inX5 hown hK hP 0 rfl rfl 22 (by decide) (hts _ mw_1333) (fun _ h9 => h9) rfl dX5_commandHere_2 ?_
  refine lv_imul hx hb dX5_commandHere_5 ?_
  refine lv_iconst (v := 1) hx hb dX5_commandHere_6 (by decide) ?_
  refine lv_iadd hx hb dX5_commandHere_7 ?_
  refine lv_istore_n (lv' := [(1, .int ((3 * (M_toldMany mo)) + 1)), (0, .ref (a 0))]) hx hb dX5_commandHere_8 rfl hl (by decide) rfl (fun ls hl => ?_)
  refine lv_aload_n hx hb dX5_commandHere_9 rfl (lv_at hl 1 rfl) ?_
  obtain ⟨z1, hz1, hF⟩ := ob_bind hF
  refine cl_i (csR := []) (csF := [wM g a mo]) (rest := []) hx hb hml hown hts hK hE hA hl hP hD hS (c_X5_here g l a mo z1 hz1) [0] [] [0] ⟨rfl, rfl, rfl, rfl, rfl, rfl, rfl⟩ ⟨0, 9, _, _, rfl, rfl, rfl⟩ 0 (jb_giV mw_1662 mw_1664 ms_62 mw_10 mw_1665) ⟨rfl, rfl⟩ (by decide +kernel) ⟨⟨(Nat.le_of_ble_eq_true rfl), (Nat.le_of_ble_eq_true rfl)⟩, (Nat.le_of_ble_eq_true rfl), (Nat.le_of_ble_eq_true rfl)⟩ ⟨rfl, rfl⟩ (Nat.le_of_ble_eq_true rfl) dX5_commandHere_10 (fun H locs hP hD hS => ?_)
  by_cases s2 : z1 = 99
  · have hF := ob_pos s2 hF
    refine lv_tableIn (off := 265) (tgt := 278) hx hb dX5_commandHere_13 (by rw [s2]; decide) (by rw [s2]; decide) (by rw [s2]; rfl) (by decide) ?_
    refine lv_aload_n hx hb dX5_commandHere_278 rfl (lv_at hl 1 rfl) ?_
    refine va_ldcS hx hb hown (hE.2.2.2.2.2.2.2.2.2.1 _ (List.mem_of_getElem? (i := 13) rfl)) dX5_commandHere_279 ?_
    obtain ⟨z3, hz3, hF⟩ := ob_bind hF
    refine cl_i (csR := []) (csF := [wM g a z3.2]) (rest := []) hx hb hml hown hts hK hE hA hl hP hD hS (c_X5_isWord g l a mo 6 z3 hz3) [0] [] [0] ⟨rfl, rfl, rfl, rfl, rfl, rfl, rfl⟩ ⟨0, 9, _, _, rfl, rfl, rfl⟩ 1 (jb_giV mw_1667 mw_1669 ms_63 mw_10 mw_1670) ⟨rfl, rfl⟩ (by decide +kernel) ⟨⟨(Nat.le_of_ble_eq_true rfl), (Nat.le_of_ble_eq_true rfl)⟩, (Nat.le_of_ble_eq_true rfl), (Nat.le_of_ble_eq_true rfl)⟩ ⟨rfl, rfl⟩ (Nat.le_of_ble_eq_true rfl) dX5_commandHere_281 (fun H locs hP hD hS => ?_)
    cases hF
    rw [hQ]
    exact jb_zret hx hb hr (bi_nar _) hlocks hP hD hS dX5_commandHere_284 rfl (Nat.le_of_ble_eq_true rfl) (Nat.le_of_ble_eq_true rfl)
  · have hF := ob_neg s2 hF
    by_cases s4 : z1 = 101
    · have hF := ob_pos s4 hF
      refine lv_tableIn (off := 158) (tgt := 171) hx hb dX5_commandHere_13 (by rw [s4]; decide) (by rw [s4]; decide) (by rw [s4]; rfl) (by decide) ?_
      refine lv_aload_n hx hb dX5_commandHere_171 rfl (lv_at hl 1 rfl) ?_
      refine va_ldcS hx hb hown (hE.2.2.2.2.2.2.2.2.2.1 _ (List.mem_of_getElem? (i := 9) rfl)) dX5_commandHere_172 ?_
      obtain ⟨z5, hz5, hF⟩ := ob_bind hF
      refine cl_i (csR := []) (csF := [wM g a z5.2]) (rest := []) hx hb hml hown hts hK hE hA hl hP hD hS (c_X5_isWord g l a mo 9 z5 hz5) [0] [] [0] ⟨rfl, rfl, rfl, rfl, rfl, rfl, rfl⟩ ⟨0, 9, _, _, rfl, rfl, rfl⟩ 1 (jb_giV mw_1667 mw_1669 ms_63 mw_10 mw_1670) ⟨rfl, rfl⟩ (by decide +kernel) ⟨⟨(Nat.le_of_ble_eq_true rfl), (Nat.le_of_ble_eq_true rfl)⟩, (Nat.le_of_ble_eq_true rfl), (Nat.le_of_ble_eq_true rfl)⟩ ⟨rfl, rfl⟩ (Nat.le_of_ble_eq_true rfl) dX5_commandHere_174 (fun H locs hP hD hS => ?_)
      refine lv_if_eq (tgt := 193) hx hb dX5_commandHere_177 (by decide) (fun c6 => ?_) (fun c6 => ?_)
      · have hF := ob_pos c6 hF
        refine lv_iconst (v := 0) hx hb dX5_commandHere_193 (by decide) ?_
        cases hF
        rw [hQ]
        exact jb_zret hx hb hr rfl hlocks hP hD hS dX5_commandHere_194 rfl (Nat.le_of_ble_eq_true rfl) (Nat.le_of_ble_eq_true rfl)
      · have hF := ob_neg c6 hF
        refine lv_aload_n hx hb dX5_commandHere_180 rfl (lv_at hl 1 rfl) ?_
        refine lv_iload_n hx hb dX5_commandHere_181 rfl (lv_at hl 0 rfl) ?_
        refine lv_iconst (v := 2) hx hb dX5_commandHere_182 (by decide) ?_
        obtain ⟨z7, hz7, hF⟩ := ob_bind hF
        refine cl_i (csR := []) (csF := [wM g a z7.2]) (rest := []) hx hb hml hown hts hK hE hA hl hP hD hS (c_X5_figures g l a z5.2 ((3 * (M_toldMany mo)) + 1) 2 z7 hz7) [0] [] [0] ⟨rfl, rfl, rfl, rfl, rfl, rfl, rfl⟩ ⟨0, 9, _, _, rfl, rfl, rfl⟩ 2 (jb_giV mw_1677 mw_1679 ms_65 mw_10 mw_1680) ⟨rfl, rfl⟩ (by decide +kernel) ⟨⟨(Nat.le_of_ble_eq_true rfl), (Nat.le_of_ble_eq_true rfl)⟩, (Nat.le_of_ble_eq_true rfl), (Nat.le_of_ble_eq_true rfl)⟩ ⟨rfl, rfl⟩ (Nat.le_of_ble_eq_true rfl) dX5_commandHere_183 (fun H locs hP hD hS => ?_)
        refine lv_if_eq (tgt := 193) hx hb dX5_commandHere_186 (by decide) (fun c8 => ?_) (fun c8 => ?_)
        · have hF := ob_pos c8 hF
          refine lv_iconst (v := 0) hx hb dX5_commandHere_193 (by decide) ?_
          cases hF
          rw [hQ]
          exact jb_zret hx hb hr rfl hlocks hP hD hS dX5_commandHere_194 rfl (Nat.le_of_ble_eq_true rfl) (Nat.le_of_ble_eq_true rfl)
        · have hF := ob_neg c8 hF
          refine lv_iconst (v := 1) hx hb dX5_commandHere_189 (by decide) ?_
          refine lv_goto (tgt := 194) hx hb dX5_commandHere_190 (by decide) ?_
          cases hF
          rw [hQ]
          exact jb_zret hx hb hr rfl hlocks hP hD hS dX5_commandHere_194 rfl (Nat.le_of_ble_eq_true rfl) (Nat.le_of_ble_eq_true rfl)
    · have hF := ob_neg s4 hF
      by_cases s9 : z1 = 109
      · have hF := ob_pos s9 hF
        refine lv_tableIn (off := 182) (tgt := 195) hx hb dX5_commandHere_13 (by rw [s9]; decide) (by rw [s9]; decide) (by rw [s9]; rfl) (by decide) ?_
        refine lv_aload_n hx hb dX5_commandHere_195 rfl (lv_at hl 1 rfl) ?_
        refine va_ldcS hx hb hown (hE.2.2.2.2.2.2.2.2.2.1 _ (List.mem_of_getElem? (i := 10) rfl)) dX5_commandHere_196 ?_
        obtain ⟨z10, hz10, hF⟩ := ob_bind hF
        refine cl_i (csR := []) (csF := [wM g a z10.2]) (rest := []) hx hb hml hown hts hK hE hA hl hP hD hS (c_X5_isWord g l a mo 10 z10 hz10) [0] [] [0] ⟨rfl, rfl, rfl, rfl, rfl, rfl, rfl⟩ ⟨0, 9, _, _, rfl, rfl, rfl⟩ 1 (jb_giV mw_1667 mw_1669 ms_63 mw_10 mw_1670) ⟨rfl, rfl⟩ (by decide +kernel) ⟨⟨(Nat.le_of_ble_eq_true rfl), (Nat.le_of_ble_eq_true rfl)⟩, (Nat.le_of_ble_eq_true rfl), (Nat.le_of_ble_eq_true rfl)⟩ ⟨rfl, rfl⟩ (Nat.le_of_ble_eq_true rfl) dX5_commandHere_198 (fun H locs hP hD hS => ?_)
        refine lv_if_eq (tgt := 228) hx hb dX5_commandHere_201 (by decide) (fun c11 => ?_) (fun c11 => ?_)
        · have hF := ob_pos c11 hF
          refine lv_iconst (v := 0) hx hb dX5_commandHere_228 (by decide) ?_
          cases hF
          rw [hQ]
          exact jb_zret hx hb hr rfl hlocks hP hD hS dX5_commandHere_229 rfl (Nat.le_of_ble_eq_true rfl) (Nat.le_of_ble_eq_true rfl)
        · have hF := ob_neg c11 hF
          refine lv_aload_n hx hb dX5_commandHere_204 rfl (lv_at hl 1 rfl) ?_
          refine lv_iload_n hx hb dX5_commandHere_205 rfl (lv_at hl 0 rfl) ?_
          refine lv_iconst (v := 1) hx hb dX5_commandHere_206 (by decide) ?_
          obtain ⟨z12, hz12, hF⟩ := ob_bind hF
          refine cl_i (csR := []) (csF := [wM g a z12.2]) (rest := []) hx hb hml hown hts hK hE hA hl hP hD hS (c_X5_figures g l a z10.2 ((3 * (M_toldMany mo)) + 1) 1 z12 hz12) [0] [] [0] ⟨rfl, rfl, rfl, rfl, rfl, rfl, rfl⟩ ⟨0, 9, _, _, rfl, rfl, rfl⟩ 2 (jb_giV mw_1677 mw_1679 ms_65 mw_10 mw_1680) ⟨rfl, rfl⟩ (by decide +kernel) ⟨⟨(Nat.le_of_ble_eq_true rfl), (Nat.le_of_ble_eq_true rfl)⟩, (Nat.le_of_ble_eq_true rfl), (Nat.le_of_ble_eq_true rfl)⟩ ⟨rfl, rfl⟩ (Nat.le_of_ble_eq_true rfl) dX5_commandHere_207 (fun H locs hP hD hS => ?_)
          refine lv_if_eq (tgt := 228) hx hb dX5_commandHere_210 (by decide) (fun c13 => ?_) (fun c13 => ?_)
          · have hF := ob_pos c13 hF
            refine lv_iconst (v := 0) hx hb dX5_commandHere_228 (by decide) ?_
            cases hF
            rw [hQ]
            exact jb_zret hx hb hr rfl hlocks hP hD hS dX5_commandHere_229 rfl (Nat.le_of_ble_eq_true rfl) (Nat.le_of_ble_eq_true rfl)
          · have hF := ob_neg c13 hF
            refine lv_aload_n hx hb dX5_commandHere_213 rfl (lv_at hl 1 rfl) ?_
            refine lv_iload_n hx hb dX5_commandHere_214 rfl (lv_at hl 0 rfl) ?_
            refine lv_iconst (v := 1) hx hb dX5_commandHere_215 (by decide) ?_
            refine lv_iadd hx hb dX5_commandHere_216 ?_
            refine lv_iconst (v := 1) hx hb dX5_commandHere_217 (by decide) ?_
            obtain ⟨z14, hz14, hF⟩ := ob_bind hF
            refine cl_i (csR := []) (csF := [wM g a z14.2]) (rest := []) hx hb hml hown hts hK hE hA hl hP hD hS (c_X5_figures g l a z12.2 (((3 * (M_toldMany mo)) + 1) + 1) 1 z14 hz14) [0] [] [0] ⟨rfl, rfl, rfl, rfl, rfl, rfl, rfl⟩ ⟨0, 9, _, _, rfl, rfl, rfl⟩ 2 (jb_giV mw_1677 mw_1679 ms_65 mw_10 mw_1680) ⟨rfl, rfl⟩ (by decide +kernel) ⟨⟨(Nat.le_of_ble_eq_true rfl), (Nat.le_of_ble_eq_true rfl)⟩, (Nat.le_of_ble_eq_true rfl), (Nat.le_of_ble_eq_true rfl)⟩ ⟨rfl, rfl⟩ (Nat.le_of_ble_eq_true rfl) dX5_commandHere_218 (fun H locs hP hD hS => ?_)
            refine lv_if_eq (tgt := 228) hx hb dX5_commandHere_221 (by decide) (fun c15 => ?_) (fun c15 => ?_)
            · have hF := ob_pos c15 hF
              refine lv_iconst (v := 0) hx hb dX5_commandHere_228 (by decide) ?_
              cases hF
              rw [hQ]
              exact jb_zret hx hb hr rfl hlocks hP hD hS dX5_commandHere_229 rfl (Nat.le_of_ble_eq_true rfl) (Nat.le_of_ble_eq_true rfl)
            · have hF := ob_neg c15 hF
              refine lv_iconst (v := 1) hx hb dX5_commandHere_224 (by decide) ?_
              refine lv_goto (tgt := 229) hx hb dX5_commandHere_225 (by decide) ?_
              cases hF
              rw [hQ]
              exact jb_zret hx hb hr rfl hlocks hP hD hS dX5_commandHere_229 rfl (Nat.le_of_ble_eq_true rfl) (Nat.le_of_ble_eq_true rfl)
      · have hF := ob_neg s9 hF
        by_cases s16 : z1 = 112
        · have hF := ob_pos s16 hF
          refine lv_tableIn (off := 123) (tgt := 136) hx hb dX5_commandHere_13 (by rw [s16]; decide) (by rw [s16]; decide) (by rw [s16]; rfl) (by decide) ?_
          refine lv_aload_n hx hb dX5_commandHere_136 rfl (lv_at hl 1 rfl) ?_
          refine va_ldcS hx hb hown (hE.2.2.2.2.2.2.2.2.2.1 _ (List.mem_of_getElem? (i := 8) rfl)) dX5_commandHere_137 ?_
          obtain ⟨z17, hz17, hF⟩ := ob_bind hF
          refine cl_i (csR := []) (csF := [wM g a z17.2]) (rest := []) hx hb hml hown hts hK hE hA hl hP hD hS (c_X5_isWord g l a mo 8 z17 hz17) [0] [] [0] ⟨rfl, rfl, rfl, rfl, rfl, rfl, rfl⟩ ⟨0, 9, _, _, rfl, rfl, rfl⟩ 1 (jb_giV mw_1667 mw_1669 ms_63 mw_10 mw_1670) ⟨rfl, rfl⟩ (by decide +kernel) ⟨⟨(Nat.le_of_ble_eq_true rfl), (Nat.le_of_ble_eq_true rfl)⟩, (Nat.le_of_ble_eq_true rfl), (Nat.le_of_ble_eq_true rfl)⟩ ⟨rfl, rfl⟩ (Nat.le_of_ble_eq_true rfl) dX5_commandHere_139 (fun H locs hP hD hS => ?_)
          refine lv_if_eq (tgt := 169) hx hb dX5_commandHere_142 (by decide) (fun c18 => ?_) (fun c18 => ?_)
          · have hF := ob_pos c18 hF
            refine lv_iconst (v := 0) hx hb dX5_commandHere_169 (by decide) ?_
            cases hF
            rw [hQ]
            exact jb_zret hx hb hr rfl hlocks hP hD hS dX5_commandHere_170 rfl (Nat.le_of_ble_eq_true rfl) (Nat.le_of_ble_eq_true rfl)
          · have hF := ob_neg c18 hF
            refine lv_aload_n hx hb dX5_commandHere_145 rfl (lv_at hl 1 rfl) ?_
            refine lv_iload_n hx hb dX5_commandHere_146 rfl (lv_at hl 0 rfl) ?_
            refine lv_iconst (v := 1) hx hb dX5_commandHere_147 (by decide) ?_
            obtain ⟨z19, hz19, hF⟩ := ob_bind hF
            refine cl_i (csR := []) (csF := [wM g a z19.2]) (rest := []) hx hb hml hown hts hK hE hA hl hP hD hS (c_X5_figures g l a z17.2 ((3 * (M_toldMany mo)) + 1) 1 z19 hz19) [0] [] [0] ⟨rfl, rfl, rfl, rfl, rfl, rfl, rfl⟩ ⟨0, 9, _, _, rfl, rfl, rfl⟩ 2 (jb_giV mw_1677 mw_1679 ms_65 mw_10 mw_1680) ⟨rfl, rfl⟩ (by decide +kernel) ⟨⟨(Nat.le_of_ble_eq_true rfl), (Nat.le_of_ble_eq_true rfl)⟩, (Nat.le_of_ble_eq_true rfl), (Nat.le_of_ble_eq_true rfl)⟩ ⟨rfl, rfl⟩ (Nat.le_of_ble_eq_true rfl) dX5_commandHere_148 (fun H locs hP hD hS => ?_)
            refine lv_if_eq (tgt := 169) hx hb dX5_commandHere_151 (by decide) (fun c20 => ?_) (fun c20 => ?_)
            · have hF := ob_pos c20 hF
              refine lv_iconst (v := 0) hx hb dX5_commandHere_169 (by decide) ?_
              cases hF
              rw [hQ]
              exact jb_zret hx hb hr rfl hlocks hP hD hS dX5_commandHere_170 rfl (Nat.le_of_ble_eq_true rfl) (Nat.le_of_ble_eq_true rfl)
            · have hF := ob_neg c20 hF
              refine lv_aload_n hx hb dX5_commandHere_154 rfl (lv_at hl 1 rfl) ?_
              refine lv_iload_n hx hb dX5_commandHere_155 rfl (lv_at hl 0 rfl) ?_
              refine lv_iconst (v := 1) hx hb dX5_commandHere_156 (by decide) ?_
              refine lv_iadd hx hb dX5_commandHere_157 ?_
              refine lv_iconst (v := 2) hx hb dX5_commandHere_158 (by decide) ?_
              obtain ⟨z21, hz21, hF⟩ := ob_bind hF
              refine cl_i (csR := []) (csF := [wM g a z21.2]) (rest := []) hx hb hml hown hts hK hE hA hl hP hD hS (c_X5_figures g l a z19.2 (((3 * (M_toldMany mo)) + 1) + 1) 2 z21 hz21) [0] [] [0] ⟨rfl, rfl, rfl, rfl, rfl, rfl, rfl⟩ ⟨0, 9, _, _, rfl, rfl, rfl⟩ 2 (jb_giV mw_1677 mw_1679 ms_65 mw_10 mw_1680) ⟨rfl, rfl⟩ (by decide +kernel) ⟨⟨(Nat.le_of_ble_eq_true rfl), (Nat.le_of_ble_eq_true rfl)⟩, (Nat.le_of_ble_eq_true rfl), (Nat.le_of_ble_eq_true rfl)⟩ ⟨rfl, rfl⟩ (Nat.le_of_ble_eq_true rfl) dX5_commandHere_159 (fun H locs hP hD hS => ?_)
              refine lv_if_eq (tgt := 169) hx hb dX5_commandHere_162 (by decide) (fun c22 => ?_) (fun c22 => ?_)
              · have hF := ob_pos c22 hF
                refine lv_iconst (v := 0) hx hb dX5_commandHere_169 (by decide) ?_
                cases hF
                rw [hQ]
                exact jb_zret hx hb hr rfl hlocks hP hD hS dX5_commandHere_170 rfl (Nat.le_of_ble_eq_true rfl) (Nat.le_of_ble_eq_true rfl)
              · have hF := ob_neg c22 hF
                refine lv_iconst (v := 1) hx hb dX5_commandHere_165 (by decide) ?_
                refine lv_goto (tgt := 170) hx hb dX5_commandHere_166 (by decide) ?_
                cases hF
                rw [hQ]
                exact jb_zret hx hb hr rfl hlocks hP hD hS dX5_commandHere_170 rfl (Nat.le_of_ble_eq_true rfl) (Nat.le_of_ble_eq_true rfl)
        · have hF := ob_neg s16 hF
          by_cases s23 : z1 = 114
          · have hF := ob_pos s23 hF
            refine lv_tableIn (off := 217) (tgt := 230) hx hb dX5_commandHere_13 (by rw [s23]; decide) (by rw [s23]; decide) (by rw [s23]; rfl) (by decide) ?_
            refine lv_aload_n hx hb dX5_commandHere_230 rfl (lv_at hl 1 rfl) ?_
            refine va_ldcS hx hb hown (hE.2.2.2.2.2.2.2.2.2.1 _ (List.mem_of_getElem? (i := 11) rfl)) dX5_commandHere_231 ?_
            obtain ⟨z24, hz24, hF⟩ := ob_bind hF
            refine cl_i (csR := []) (csF := [wM g a z24.2]) (rest := []) hx hb hml hown hts hK hE hA hl hP hD hS (c_X5_isWord g l a mo 11 z24 hz24) [0] [] [0] ⟨rfl, rfl, rfl, rfl, rfl, rfl, rfl⟩ ⟨0, 9, _, _, rfl, rfl, rfl⟩ 1 (jb_giV mw_1667 mw_1669 ms_63 mw_10 mw_1670) ⟨rfl, rfl⟩ (by decide +kernel) ⟨⟨(Nat.le_of_ble_eq_true rfl), (Nat.le_of_ble_eq_true rfl)⟩, (Nat.le_of_ble_eq_true rfl), (Nat.le_of_ble_eq_true rfl)⟩ ⟨rfl, rfl⟩ (Nat.le_of_ble_eq_true rfl) dX5_commandHere_233 (fun H locs hP hD hS => ?_)
            refine lv_if_eq (tgt := 252) hx hb dX5_commandHere_236 (by decide) (fun c25 => ?_) (fun c25 => ?_)
            · have hF := ob_pos c25 hF
              refine lv_iconst (v := 0) hx hb dX5_commandHere_252 (by decide) ?_
              cases hF
              rw [hQ]
              exact jb_zret hx hb hr rfl hlocks hP hD hS dX5_commandHere_253 rfl (Nat.le_of_ble_eq_true rfl) (Nat.le_of_ble_eq_true rfl)
            · have hF := ob_neg c25 hF
              refine lv_aload_n hx hb dX5_commandHere_239 rfl (lv_at hl 1 rfl) ?_
              refine lv_iload_n hx hb dX5_commandHere_240 rfl (lv_at hl 0 rfl) ?_
              refine lv_iconst (v := 2) hx hb dX5_commandHere_241 (by decide) ?_
              obtain ⟨z26, hz26, hF⟩ := ob_bind hF
              refine cl_i (csR := []) (csF := [wM g a z26.2]) (rest := []) hx hb hml hown hts hK hE hA hl hP hD hS (c_X5_figures g l a z24.2 ((3 * (M_toldMany mo)) + 1) 2 z26 hz26) [0] [] [0] ⟨rfl, rfl, rfl, rfl, rfl, rfl, rfl⟩ ⟨0, 9, _, _, rfl, rfl, rfl⟩ 2 (jb_giV mw_1677 mw_1679 ms_65 mw_10 mw_1680) ⟨rfl, rfl⟩ (by decide +kernel) ⟨⟨(Nat.le_of_ble_eq_true rfl), (Nat.le_of_ble_eq_true rfl)⟩, (Nat.le_of_ble_eq_true rfl), (Nat.le_of_ble_eq_true rfl)⟩ ⟨rfl, rfl⟩ (Nat.le_of_ble_eq_true rfl) dX5_commandHere_242 (fun H locs hP hD hS => ?_)
              refine lv_if_eq (tgt := 252) hx hb dX5_commandHere_245 (by decide) (fun c27 => ?_) (fun c27 => ?_)
              · have hF := ob_pos c27 hF
                refine lv_iconst (v := 0) hx hb dX5_commandHere_252 (by decide) ?_
                cases hF
                rw [hQ]
                exact jb_zret hx hb hr rfl hlocks hP hD hS dX5_commandHere_253 rfl (Nat.le_of_ble_eq_true rfl) (Nat.le_of_ble_eq_true rfl)
              · have hF := ob_neg c27 hF
                refine lv_iconst (v := 1) hx hb dX5_commandHere_248 (by decide) ?_
                refine lv_goto (tgt := 253) hx hb dX5_commandHere_249 (by decide) ?_
                cases hF
                rw [hQ]
                exact jb_zret hx hb hr rfl hlocks hP hD hS dX5_commandHere_253 rfl (Nat.le_of_ble_eq_true rfl) (Nat.le_of_ble_eq_true rfl)
          · have hF := ob_neg s23 hF
            by_cases s28 : z1 = 115
            · have hF := ob_pos s28 hF
              refine lv_tableIn (off := 99) (tgt := 112) hx hb dX5_commandHere_13 (by rw [s28]; decide) (by rw [s28]; decide) (by rw [s28]; rfl) (by decide) ?_
              refine lv_aload_n hx hb dX5_commandHere_112 rfl (lv_at hl 1 rfl) ?_
              refine va_ldcS hx hb hown (hE.2.2.2.2.2.2.2.2.2.1 _ (List.mem_of_getElem? (i := 7) rfl)) dX5_commandHere_113 ?_
              obtain ⟨z29, hz29, hF⟩ := ob_bind hF
              refine cl_i (csR := []) (csF := [wM g a z29.2]) (rest := []) hx hb hml hown hts hK hE hA hl hP hD hS (c_X5_isWord g l a mo 7 z29 hz29) [0] [] [0] ⟨rfl, rfl, rfl, rfl, rfl, rfl, rfl⟩ ⟨0, 9, _, _, rfl, rfl, rfl⟩ 1 (jb_giV mw_1667 mw_1669 ms_63 mw_10 mw_1670) ⟨rfl, rfl⟩ (by decide +kernel) ⟨⟨(Nat.le_of_ble_eq_true rfl), (Nat.le_of_ble_eq_true rfl)⟩, (Nat.le_of_ble_eq_true rfl), (Nat.le_of_ble_eq_true rfl)⟩ ⟨rfl, rfl⟩ (Nat.le_of_ble_eq_true rfl) dX5_commandHere_115 (fun H locs hP hD hS => ?_)
              refine lv_if_eq (tgt := 134) hx hb dX5_commandHere_118 (by decide) (fun c30 => ?_) (fun c30 => ?_)
              · have hF := ob_pos c30 hF
                refine lv_iconst (v := 0) hx hb dX5_commandHere_134 (by decide) ?_
                cases hF
                rw [hQ]
                exact jb_zret hx hb hr rfl hlocks hP hD hS dX5_commandHere_135 rfl (Nat.le_of_ble_eq_true rfl) (Nat.le_of_ble_eq_true rfl)
              · have hF := ob_neg c30 hF
                refine lv_aload_n hx hb dX5_commandHere_121 rfl (lv_at hl 1 rfl) ?_
                refine lv_iload_n hx hb dX5_commandHere_122 rfl (lv_at hl 0 rfl) ?_
                refine lv_iconst (v := 2) hx hb dX5_commandHere_123 (by decide) ?_
                obtain ⟨z31, hz31, hF⟩ := ob_bind hF
                refine cl_i (csR := []) (csF := [wM g a z31.2]) (rest := []) hx hb hml hown hts hK hE hA hl hP hD hS (c_X5_figures g l a z29.2 ((3 * (M_toldMany mo)) + 1) 2 z31 hz31) [0] [] [0] ⟨rfl, rfl, rfl, rfl, rfl, rfl, rfl⟩ ⟨0, 9, _, _, rfl, rfl, rfl⟩ 2 (jb_giV mw_1677 mw_1679 ms_65 mw_10 mw_1680) ⟨rfl, rfl⟩ (by decide +kernel) ⟨⟨(Nat.le_of_ble_eq_true rfl), (Nat.le_of_ble_eq_true rfl)⟩, (Nat.le_of_ble_eq_true rfl), (Nat.le_of_ble_eq_true rfl)⟩ ⟨rfl, rfl⟩ (Nat.le_of_ble_eq_true rfl) dX5_commandHere_124 (fun H locs hP hD hS => ?_)
                refine lv_if_eq (tgt := 134) hx hb dX5_commandHere_127 (by decide) (fun c32 => ?_) (fun c32 => ?_)
                · have hF := ob_pos c32 hF
                  refine lv_iconst (v := 0) hx hb dX5_commandHere_134 (by decide) ?_
                  cases hF
                  rw [hQ]
                  exact jb_zret hx hb hr rfl hlocks hP hD hS dX5_commandHere_135 rfl (Nat.le_of_ble_eq_true rfl) (Nat.le_of_ble_eq_true rfl)
                · have hF := ob_neg c32 hF
                  refine lv_iconst (v := 1) hx hb dX5_commandHere_130 (by decide) ?_
                  refine lv_goto (tgt := 135) hx hb dX5_commandHere_131 (by decide) ?_
                  cases hF
                  rw [hQ]
                  exact jb_zret hx hb hr rfl hlocks hP hD hS dX5_commandHere_135 rfl (Nat.le_of_ble_eq_true rfl) (Nat.le_of_ble_eq_true rfl)
            · have hF := ob_neg s28 hF
              by_cases s33 : z1 = 119
              · have hF := ob_pos s33 hF
                refine lv_tableIn (off := 241) (tgt := 254) hx hb dX5_commandHere_13 (by rw [s33]; decide) (by rw [s33]; decide) (by rw [s33]; rfl) (by decide) ?_
                refine lv_aload_n hx hb dX5_commandHere_254 rfl (lv_at hl 1 rfl) ?_
                refine va_ldcS hx hb hown (hE.2.2.2.2.2.2.2.2.2.1 _ (List.mem_of_getElem? (i := 12) rfl)) dX5_commandHere_255 ?_
                obtain ⟨z34, hz34, hF⟩ := ob_bind hF
                refine cl_i (csR := []) (csF := [wM g a z34.2]) (rest := []) hx hb hml hown hts hK hE hA hl hP hD hS (c_X5_isWord g l a mo 12 z34 hz34) [0] [] [0] ⟨rfl, rfl, rfl, rfl, rfl, rfl, rfl⟩ ⟨0, 9, _, _, rfl, rfl, rfl⟩ 1 (jb_giV mw_1667 mw_1669 ms_63 mw_10 mw_1670) ⟨rfl, rfl⟩ (by decide +kernel) ⟨⟨(Nat.le_of_ble_eq_true rfl), (Nat.le_of_ble_eq_true rfl)⟩, (Nat.le_of_ble_eq_true rfl), (Nat.le_of_ble_eq_true rfl)⟩ ⟨rfl, rfl⟩ (Nat.le_of_ble_eq_true rfl) dX5_commandHere_257 (fun H locs hP hD hS => ?_)
                refine lv_if_eq (tgt := 276) hx hb dX5_commandHere_260 (by decide) (fun c35 => ?_) (fun c35 => ?_)
                · have hF := ob_pos c35 hF
                  refine lv_iconst (v := 0) hx hb dX5_commandHere_276 (by decide) ?_
                  cases hF
                  rw [hQ]
                  exact jb_zret hx hb hr rfl hlocks hP hD hS dX5_commandHere_277 rfl (Nat.le_of_ble_eq_true rfl) (Nat.le_of_ble_eq_true rfl)
                · have hF := ob_neg c35 hF
                  refine lv_aload_n hx hb dX5_commandHere_263 rfl (lv_at hl 1 rfl) ?_
                  refine lv_iload_n hx hb dX5_commandHere_264 rfl (lv_at hl 0 rfl) ?_
                  refine lv_iconst (v := 2) hx hb dX5_commandHere_265 (by decide) ?_
                  obtain ⟨z36, hz36, hF⟩ := ob_bind hF
                  refine cl_i (csR := []) (csF := [wM g a z36.2]) (rest := []) hx hb hml hown hts hK hE hA hl hP hD hS (c_X5_figures g l a z34.2 ((3 * (M_toldMany mo)) + 1) 2 z36 hz36) [0] [] [0] ⟨rfl, rfl, rfl, rfl, rfl, rfl, rfl⟩ ⟨0, 9, _, _, rfl, rfl, rfl⟩ 2 (jb_giV mw_1677 mw_1679 ms_65 mw_10 mw_1680) ⟨rfl, rfl⟩ (by decide +kernel) ⟨⟨(Nat.le_of_ble_eq_true rfl), (Nat.le_of_ble_eq_true rfl)⟩, (Nat.le_of_ble_eq_true rfl), (Nat.le_of_ble_eq_true rfl)⟩ ⟨rfl, rfl⟩ (Nat.le_of_ble_eq_true rfl) dX5_commandHere_266 (fun H locs hP hD hS => ?_)
                  refine lv_if_eq (tgt := 276) hx hb dX5_commandHere_269 (by decide) (fun c37 => ?_) (fun c37 => ?_)
                  · have hF := ob_pos c37 hF
                    refine lv_iconst (v := 0) hx hb dX5_commandHere_276 (by decide) ?_
                    cases hF
                    rw [hQ]
                    exact jb_zret hx hb hr rfl hlocks hP hD hS dX5_commandHere_277 rfl (Nat.le_of_ble_eq_true rfl) (Nat.le_of_ble_eq_true rfl)
                  · have hF := ob_neg c37 hF
                    refine lv_iconst (v := 1) hx hb dX5_commandHere_272 (by decide) ?_
                    refine lv_goto (tgt := 277) hx hb dX5_commandHere_273 (by decide) ?_
                    cases hF
                    rw [hQ]
                    exact jb_zret hx hb hr rfl hlocks hP hD hS dX5_commandHere_277 rfl (Nat.le_of_ble_eq_true rfl) (Nat.le_of_ble_eq_true rfl)
              · have hF := ob_neg s33 hF
                by_cases s38 : z1 = 100
                · refine lv_tableIn (off := 272) (tgt := 285) hx hb dX5_commandHere_13 (by rw [s38]; decide) (by rw [s38]; decide) (by rw [s38]; rfl) (by decide) ?_
                  refine lv_iconst (v := 0) hx hb dX5_commandHere_285 (by decide) ?_
                  cases hF
                  rw [hQ]
                  exact jb_zret hx hb hr rfl hlocks hP hD hS dX5_commandHere_286 rfl (Nat.le_of_ble_eq_true rfl) (Nat.le_of_ble_eq_true rfl)
                by_cases s39 : z1 = 102
                · refine lv_tableIn (off := 272) (tgt := 285) hx hb dX5_commandHere_13 (by rw [s39]; decide) (by rw [s39]; decide) (by rw [s39]; rfl) (by decide) ?_
                  refine lv_iconst (v := 0) hx hb dX5_commandHere_285 (by decide) ?_
                  cases hF
                  rw [hQ]
                  exact jb_zret hx hb hr rfl hlocks hP hD hS dX5_commandHere_286 rfl (Nat.le_of_ble_eq_true rfl) (Nat.le_of_ble_eq_true rfl)
                by_cases s40 : z1 = 103
                · refine lv_tableIn (off := 272) (tgt := 285) hx hb dX5_commandHere_13 (by rw [s40]; decide) (by rw [s40]; decide) (by rw [s40]; rfl) (by decide) ?_
                  refine lv_iconst (v := 0) hx hb dX5_commandHere_285 (by decide) ?_
                  cases hF
                  rw [hQ]
                  exact jb_zret hx hb hr rfl hlocks hP hD hS dX5_commandHere_286 rfl (Nat.le_of_ble_eq_true rfl) (Nat.le_of_ble_eq_true rfl)
                by_cases s41 : z1 = 104
                · refine lv_tableIn (off := 272) (tgt := 285) hx hb dX5_commandHere_13 (by rw [s41]; decide) (by rw [s41]; decide) (by rw [s41]; rfl) (by decide) ?_
                  refine lv_iconst (v := 0) hx hb dX5_commandHere_285 (by decide) ?_
                  cases hF
                  rw [hQ]
                  exact jb_zret hx hb hr rfl hlocks hP hD hS dX5_commandHere_286 rfl (Nat.le_of_ble_eq_true rfl) (Nat.le_of_ble_eq_true rfl)
                by_cases s42 : z1 = 105
                · refine lv_tableIn (off := 272) (tgt := 285) hx hb dX5_commandHere_13 (by rw [s42]; decide) (by rw [s42]; decide) (by rw [s42]; rfl) (by decide) ?_
                  refine lv_iconst (v := 0) hx hb dX5_commandHere_285 (by decide) ?_
                  cases hF
                  rw [hQ]
                  exact jb_zret hx hb hr rfl hlocks hP hD hS dX5_commandHere_286 rfl (Nat.le_of_ble_eq_true rfl) (Nat.le_of_ble_eq_true rfl)
                by_cases s43 : z1 = 106
                · refine lv_tableIn (off := 272) (tgt := 285) hx hb dX5_commandHere_13 (by rw [s43]; decide) (by rw [s43]; decide) (by rw [s43]; rfl) (by decide) ?_
                  refine lv_iconst (v := 0) hx hb dX5_commandHere_285 (by decide) ?_
                  cases hF
                  rw [hQ]
                  exact jb_zret hx hb hr rfl hlocks hP hD hS dX5_commandHere_286 rfl (Nat.le_of_ble_eq_true rfl) (Nat.le_of_ble_eq_true rfl)
                by_cases s44 : z1 = 107
                · refine lv_tableIn (off := 272) (tgt := 285) hx hb dX5_commandHere_13 (by rw [s44]; decide) (by rw [s44]; decide) (by rw [s44]; rfl) (by decide) ?_
                  refine lv_iconst (v := 0) hx hb dX5_commandHere_285 (by decide) ?_
                  cases hF
                  rw [hQ]
                  exact jb_zret hx hb hr rfl hlocks hP hD hS dX5_commandHere_286 rfl (Nat.le_of_ble_eq_true rfl) (Nat.le_of_ble_eq_true rfl)
                by_cases s45 : z1 = 108
                · refine lv_tableIn (off := 272) (tgt := 285) hx hb dX5_commandHere_13 (by rw [s45]; decide) (by rw [s45]; decide) (by rw [s45]; rfl) (by decide) ?_
                  refine lv_iconst (v := 0) hx hb dX5_commandHere_285 (by decide) ?_
                  cases hF
                  rw [hQ]
                  exact jb_zret hx hb hr rfl hlocks hP hD hS dX5_commandHere_286 rfl (Nat.le_of_ble_eq_true rfl) (Nat.le_of_ble_eq_true rfl)
                by_cases s46 : z1 = 110
                · refine lv_tableIn (off := 272) (tgt := 285) hx hb dX5_commandHere_13 (by rw [s46]; decide) (by rw [s46]; decide) (by rw [s46]; rfl) (by decide) ?_
                  refine lv_iconst (v := 0) hx hb dX5_commandHere_285 (by decide) ?_
                  cases hF
                  rw [hQ]
                  exact jb_zret hx hb hr rfl hlocks hP hD hS dX5_commandHere_286 rfl (Nat.le_of_ble_eq_true rfl) (Nat.le_of_ble_eq_true rfl)
                by_cases s47 : z1 = 111
                · refine lv_tableIn (off := 272) (tgt := 285) hx hb dX5_commandHere_13 (by rw [s47]; decide) (by rw [s47]; decide) (by rw [s47]; rfl) (by decide) ?_
                  refine lv_iconst (v := 0) hx hb dX5_commandHere_285 (by decide) ?_
                  cases hF
                  rw [hQ]
                  exact jb_zret hx hb hr rfl hlocks hP hD hS dX5_commandHere_286 rfl (Nat.le_of_ble_eq_true rfl) (Nat.le_of_ble_eq_true rfl)
                by_cases s48 : z1 = 113
                · refine lv_tableIn (off := 272) (tgt := 285) hx hb dX5_commandHere_13 (by rw [s48]; decide) (by rw [s48]; decide) (by rw [s48]; rfl) (by decide) ?_
                  refine lv_iconst (v := 0) hx hb dX5_commandHere_285 (by decide) ?_
                  cases hF
                  rw [hQ]
                  exact jb_zret hx hb hr rfl hlocks hP hD hS dX5_commandHere_286 rfl (Nat.le_of_ble_eq_true rfl) (Nat.le_of_ble_eq_true rfl)
                by_cases s49 : z1 = 116
                · refine lv_tableIn (off := 272) (tgt := 285) hx hb dX5_commandHere_13 (by rw [s49]; decide) (by rw [s49]; decide) (by rw [s49]; rfl) (by decide) ?_
                  refine lv_iconst (v := 0) hx hb dX5_commandHere_285 (by decide) ?_
                  cases hF
                  rw [hQ]
                  exact jb_zret hx hb hr rfl hlocks hP hD hS dX5_commandHere_286 rfl (Nat.le_of_ble_eq_true rfl) (Nat.le_of_ble_eq_true rfl)
                by_cases s50 : z1 = 117
                · refine lv_tableIn (off := 272) (tgt := 285) hx hb dX5_commandHere_13 (by rw [s50]; decide) (by rw [s50]; decide) (by rw [s50]; rfl) (by decide) ?_
                  refine lv_iconst (v := 0) hx hb dX5_commandHere_285 (by decide) ?_
                  cases hF
                  rw [hQ]
                  exact jb_zret hx hb hr rfl hlocks hP hD hS dX5_commandHere_286 rfl (Nat.le_of_ble_eq_true rfl) (Nat.le_of_ble_eq_true rfl)
                by_cases s51 : z1 = 118
                · refine lv_tableIn (off := 272) (tgt := 285) hx hb dX5_commandHere_13 (by rw [s51]; decide) (by rw [s51]; decide) (by rw [s51]; rfl) (by decide) ?_
                  refine lv_iconst (v := 0) hx hb dX5_commandHere_285 (by decide) ?_
                  cases hF
                  rw [hQ]
                  exact jb_zret hx hb hr rfl hlocks hP hD hS dX5_commandHere_286 rfl (Nat.le_of_ble_eq_true rfl) (Nat.le_of_ble_eq_true rfl)
                have ts2 := jb_toInt (n := 99) s2 (by decide)
                have ts4 := jb_toInt (n := 101) s4 (by decide)
                have ts9 := jb_toInt (n := 109) s9 (by decide)
                have ts16 := jb_toInt (n := 112) s16 (by decide)
                have ts23 := jb_toInt (n := 114) s23 (by decide)
                have ts28 := jb_toInt (n := 115) s28 (by decide)
                have ts33 := jb_toInt (n := 119) s33 (by decide)
                have ts38 := jb_toInt (n := 100) s38 (by decide)
                have ts39 := jb_toInt (n := 102) s39 (by decide)
                have ts40 := jb_toInt (n := 103) s40 (by decide)
                have ts41 := jb_toInt (n := 104) s41 (by decide)
                have ts42 := jb_toInt (n := 105) s42 (by decide)
                have ts43 := jb_toInt (n := 106) s43 (by decide)
                have ts44 := jb_toInt (n := 107) s44 (by decide)
                have ts45 := jb_toInt (n := 108) s45 (by decide)
                have ts46 := jb_toInt (n := 110) s46 (by decide)
                have ts47 := jb_toInt (n := 111) s47 (by decide)
                have ts48 := jb_toInt (n := 113) s48 (by decide)
                have ts49 := jb_toInt (n := 116) s49 (by decide)
                have ts50 := jb_toInt (n := 117) s50 (by decide)
                have ts51 := jb_toInt (n := 118) s51 (by decide)
                refine lv_tableOut (tgt := 285) hx hb dX5_commandHere_13 (by omega) (by decide) ?_
                refine lv_iconst (v := 0) hx hb dX5_commandHere_285 (by decide) ?_
                cases hF
                rw [hQ]
                exact jb_zret hx hb hr rfl hlocks hP hD hS dX5_commandHere_286 rfl (Nat.le_of_ble_eq_true rfl) (Nat.le_of_ble_eq_true rfl)
def F_X5_isText_L10  (k : Mv → Option (Bool × Mv)) : Nat → Mv → Option (Bool × Mv)
  | 0, _ => none
  | n + 1, b0 => (F_X5_commandHere b0).bind (fun z1 => if ¬ (bi z1.1) = 0 then (F_X5_skips (mkM (M_g z1.2) (M_kept z1.2) (M_saved z1.2) (M_before z1.2) (M_trial z1.2) (M_counted z1.2) (M_isSaved z1.2) (M_changes z1.2) (M_isWithin z1.2) (M_isDenied z1.2) (M_code z1.2) (M_why z1.2) (M_detail z1.2) (M_cause z1.2) (M_input z1.2) (M_length z1.2) (M_fault z1.2) (M_signs z1.2) (M_signMany z1.2) (M_lastOver z1.2) (M_at z1.2) (M_told z1.2) ((M_toldMany z1.2) + 1)) 59).bind (fun z2 => if ¬ (bi z2.1) = 0 then F_X5_isText_L10  k n z2.2 else k z2.2) else some (false, z1.2))
def F_X5_isText (mo : Mv) : Option (Bool × Mv) := F_X5_isText_L10  (fun b3 => if ¬ (M_at b3) = (M_length b3) then some (false, b3) else some (true, b3)) 1000 (mkM (M_g mo) (M_kept mo) (M_saved mo) (M_before mo) (M_trial mo) (M_counted mo) (M_isSaved mo) (M_changes mo) (M_isWithin mo) (M_isDenied mo) (M_code mo) (M_why mo) (M_detail mo) (M_cause mo) (M_input mo) (M_length mo) (M_fault mo) (M_signs mo) (M_signMany mo) (M_lastOver mo) 0 (M_told mo) 0)
set_option maxHeartbeats 4000000 in
set_option maxRecDepth 100000 in
theorem c_X5_isText (g : GG) (l : Launch) (a : Nat → Nat) (mo : Mv) (z : Bool × Mv) (hF : F_X5_isText mo = some z) : MI g l yX5_isText cX5_isText 1 (some .boolean) ({ frames := 6, cells := 0, slots := 0, locals := 128 } : Room) [.ref (a 0)] [wM g a mo] 0 0 (bi z.1) [wM g a z.2] := by
  refine MI.bg (by decide) (Nat.le_of_ble_eq_true rfl) ?_
  intro p e s m below meth c A Q hQ hx hb hr hml hown hts hlocks hmn hK hE hA hP hD hS ls hl
  rw [F_X5_isText] at hF
  have hl : lv_has ls 1 [(0, .ref (a 0))] := hl
  refine lv_aload_n hx hb dX5_isText_0 rfl (lv_at hl 0 rfl) ?_
  refine lv_iconst (v := 0) hx hb dX5_isText_1 (by decide) ?_
  refine va_put (D := g.1) (ci := 9) (v := .int 0) (ty := .int) (C := RX5) (T := TX5) (N := 23) hx hb hts inX5 tyX5 tyX5_ok nmX5 hown hK hP hD hS 0 rfl rfl 20 (by decide) (hts _ mw_1331) (fun _ h9 => h9) rfl (by decide +kernel) rfl rfl (Nat.le_of_ble_eq_true rfl) dX5_isText_2 (fun H locs hP hD hS => ?_)
  have hP : va_P g.1 vwCl ([wMc g a (M_g mo) (M_kept mo) (M_saved mo) (M_before mo) (M_trial mo) (M_counted mo) (M_isSaved mo) (M_changes mo) (M_isWithin mo) (M_isDenied mo) (M_code mo) (M_why mo) (M_detail mo) (M_cause mo) (M_input mo) (M_length mo) (M_fault mo) (M_signs mo) (M_signMany mo) (M_lastOver mo) 0 (M_told mo) (M_toldMany mo)] : List va_W).flatten _ := hP
  have hD : va_D A ([wMc g a (M_g mo) (M_kept mo) (M_saved mo) (M_before mo) (M_trial mo) (M_counted mo) (M_isSaved mo) (M_changes mo) (M_isWithin mo) (M_isDenied mo) (M_code mo) (M_why mo) (M_detail mo) (M_cause mo) (M_input mo) (M_length mo) (M_fault mo) (M_signs mo) (M_signMany mo) (M_lastOver mo) 0 (M_told mo) (M_toldMany mo)] : List va_W).flatten := hD
  refine lv_aload_n hx hb dX5_isText_5 rfl (lv_at hl 0 rfl) ?_
  refine lv_iconst (v := 0) hx hb dX5_isText_6 (by decide) ?_
  refine va_put (D := g.1) (ci := 9) (v := .int 0) (ty := .int) (C := RX5) (T := TX5) (N := 23) hx hb hts inX5 tyX5 tyX5_ok nmX5 hown hK hP hD hS 0 rfl rfl 22 (by decide) (hts _ mw_1333) (fun _ h9 => h9) rfl (by decide +kernel) rfl rfl (Nat.le_of_ble_eq_true rfl) dX5_isText_7 (fun H locs hP hD hS => ?_)
  have hP : va_P g.1 vwCl ([wMc g a (M_g mo) (M_kept mo) (M_saved mo) (M_before mo) (M_trial mo) (M_counted mo) (M_isSaved mo) (M_changes mo) (M_isWithin mo) (M_isDenied mo) (M_code mo) (M_why mo) (M_detail mo) (M_cause mo) (M_input mo) (M_length mo) (M_fault mo) (M_signs mo) (M_signMany mo) (M_lastOver mo) 0 (M_told mo) 0] : List va_W).flatten _ := hP
  have hD : va_D A ([wMc g a (M_g mo) (M_kept mo) (M_saved mo) (M_before mo) (M_trial mo) (M_counted mo) (M_isSaved mo) (M_changes mo) (M_isWithin mo) (M_isDenied mo) (M_code mo) (M_why mo) (M_detail mo) (M_cause mo) (M_input mo) (M_length mo) (M_fault mo) (M_signs mo) (M_signMany mo) (M_lastOver mo) 0 (M_told mo) 0] : List va_W).flatten := hD
  obtain ⟨k1, ek1, hF⟩ := ob_k (F := fun k9 => F_X5_isText_L10  k9 1000 (mkM (M_g mo) (M_kept mo) (M_saved mo) (M_before mo) (M_trial mo) (M_counted mo) (M_isSaved mo) (M_changes mo) (M_isWithin mo) (M_isDenied mo) (M_code mo) (M_why mo) (M_detail mo) (M_cause mo) (M_input mo) (M_length mo) (M_fault mo) (M_signs mo) (M_signMany mo) (M_lastOver mo) 0 (M_told mo) 0)) hF
  have loop1 : ∀ (n9 : Nat) (b1 : Mv), F_X5_isText_L10  k1 n9 b1 = some z → ∀ (H : Heap) (locs : List Loc), va_P g.1 vwCl ([wM g a b1] : List va_W).flatten H → va_D A ([wM g a b1] : List va_W).flatten → va_S A s.heap H locs → ∀ ls : Array Slot, lv_has ls 1 [(0, .ref (a 0))] → W p l e ({ frames := 6, cells := 0, slots := 0, locals := 128 } : Room) s m ([.ref (a 0)] : List Value).toArray below meth c H locs 0 0 Q (F0 m 10 ls []) := by
    intro n9
    induction n9 with
    | zero => intro b1 hF; rw [F_X5_isText_L10] at hF; cases hF
    | succ n9 ih1 =>
      intro b1 hF H locs hP hD hS ls hl
      rw [F_X5_isText_L10] at hF
      refine lv_aload_n hx hb dX5_isText_10 rfl (lv_at hl 0 rfl) ?_
      obtain ⟨z2, hz2, hF⟩ := ob_bind hF
      refine cl_i (csR := []) (csF := [wM g a z2.2]) (rest := []) hx hb hml hown hts hK hE hA hl hP hD hS (c_X5_commandHere g l a b1 z2 hz2) [0] [] [0] ⟨rfl, rfl, rfl, rfl, rfl, rfl, rfl⟩ ⟨0, 9, _, _, rfl, rfl, rfl⟩ 0 (jb_giV mw_1658 mw_1660 ms_61 mw_10 mw_1661) ⟨rfl, rfl⟩ (by decide +kernel) ⟨⟨(Nat.le_of_ble_eq_true rfl), (Nat.le_of_ble_eq_true rfl)⟩, (Nat.le_of_ble_eq_true rfl), (Nat.le_of_ble_eq_true rfl)⟩ ⟨rfl, rfl⟩ (Nat.le_of_ble_eq_true rfl) dX5_isText_11 (fun H locs hP hD hS => ?_)
      refine lv_if_ne (tgt := 19) hx hb dX5_isText_14 (by decide) (fun c3 => ?_) (fun c3 => ?_)
      · have hF := ob_pos c3 hF
        refine lv_aload_n hx hb dX5_isText_19 rfl (lv_at hl 0 rfl) ?_
        refine lv_dup hx hb dX5_isText_20 rfl ?_
        refine va_get (D := g.1) (ci := 9) (v := .int (M_toldMany z2.2)) (C := RX5) (T := TX5) (N := 23) hx hb hts inX5 hown hK hP 0 rfl rfl 22 (by decide) (hts _ mw_1333) (fun _ h9 => h9) rfl dX5_isText_21 ?_
        refine lv_iconst (v := 1) hx hb dX5_isText_24 (by decide) ?_
        refine lv_iadd hx hb dX5_isText_25 ?_
        refine va_put (D := g.1) (ci := 9) (v := .int ((M_toldMany z2.2) + 1)) (ty := .int) (C := RX5) (T := TX5) (N := 23) hx hb hts inX5 tyX5 tyX5_ok nmX5 hown hK hP hD hS 0 rfl rfl 22 (by decide) (hts _ mw_1333) (fun _ h9 => h9) rfl (by decide +kernel) rfl rfl (Nat.le_of_ble_eq_true rfl) dX5_isText_26 (fun H locs hP hD hS => ?_)
        have hP : va_P g.1 vwCl ([wMc g a (M_g z2.2) (M_kept z2.2) (M_saved z2.2) (M_before z2.2) (M_trial z2.2) (M_counted z2.2) (M_isSaved z2.2) (M_changes z2.2) (M_isWithin z2.2) (M_isDenied z2.2) (M_code z2.2) (M_why z2.2) (M_detail z2.2) (M_cause z2.2) (M_input z2.2) (M_length z2.2) (M_fault z2.2) (M_signs z2.2) (M_signMany z2.2) (M_lastOver z2.2) (M_at z2.2) (M_told z2.2) ((M_toldMany z2.2) + 1)] : List va_W).flatten _ := hP
        have hD : va_D A ([wMc g a (M_g z2.2) (M_kept z2.2) (M_saved z2.2) (M_before z2.2) (M_trial z2.2) (M_counted z2.2) (M_isSaved z2.2) (M_changes z2.2) (M_isWithin z2.2) (M_isDenied z2.2) (M_code z2.2) (M_why z2.2) (M_detail z2.2) (M_cause z2.2) (M_input z2.2) (M_length z2.2) (M_fault z2.2) (M_signs z2.2) (M_signMany z2.2) (M_lastOver z2.2) (M_at z2.2) (M_told z2.2) ((M_toldMany z2.2) + 1)] : List va_W).flatten := hD
        refine lv_aload_n hx hb dX5_isText_29 rfl (lv_at hl 0 rfl) ?_
        refine lv_bipush (v := 59) hx hb dX5_isText_30 (by decide) ?_
        obtain ⟨z4, hz4, hF⟩ := ob_bind hF
        refine cl_i (csR := []) (csF := [wM g a z4.2]) (rest := []) hx hb hml hown hts hK hE hA hl hP hD hS (c_X5_skips g l a (mkM (M_g z2.2) (M_kept z2.2) (M_saved z2.2) (M_before z2.2) (M_trial z2.2) (M_counted z2.2) (M_isSaved z2.2) (M_changes z2.2) (M_isWithin z2.2) (M_isDenied z2.2) (M_code z2.2) (M_why z2.2) (M_detail z2.2) (M_cause z2.2) (M_input z2.2) (M_length z2.2) (M_fault z2.2) (M_signs z2.2) (M_signMany z2.2) (M_lastOver z2.2) (M_at z2.2) (M_told z2.2) ((M_toldMany z2.2) + 1)) 59 z4 hz4) [0] [] [0] ⟨rfl, rfl, rfl, rfl, rfl, rfl, rfl⟩ ⟨0, 9, _, _, rfl, rfl, rfl⟩ 1 (jb_giV mw_1673 mw_1675 ms_64 mw_10 mw_1676) ⟨rfl, rfl⟩ (by decide +kernel) ⟨⟨(Nat.le_of_ble_eq_true rfl), (Nat.le_of_ble_eq_true rfl)⟩, (Nat.le_of_ble_eq_true rfl), (Nat.le_of_ble_eq_true rfl)⟩ ⟨rfl, rfl⟩ (Nat.le_of_ble_eq_true rfl) dX5_isText_32 (fun H locs hP hD hS => ?_)
        refine lv_if_ne (tgt := 10) hx hb dX5_isText_35 (by decide) (fun c5 => ?_) (fun c5 => ?_)
        · have hF := ob_pos c5 hF
          exact ih1 _ hF _ _ hP hD hS ls (lv_sub hl [0] rfl)
        · have hF := ob_nneg c5 hF
          rw [ek1] at hF
          refine lv_aload_n hx hb dX5_isText_38 rfl (lv_at hl 0 rfl) ?_
          refine va_get (D := g.1) (ci := 9) (v := .int (M_at z4.2)) (C := RX5) (T := TX5) (N := 23) hx hb hts inX5 hown hK hP 0 rfl rfl 20 (by decide) (hts _ mw_1331) (fun _ h9 => h9) rfl dX5_isText_39 ?_
          refine lv_aload_n hx hb dX5_isText_42 rfl (lv_at hl 0 rfl) ?_
          refine va_get (D := g.1) (ci := 9) (v := .int (M_length z4.2)) (C := RX5) (T := TX5) (N := 23) hx hb hts inX5 hown hK hP 0 rfl rfl 15 (by decide) (hts _ mw_1326) (fun _ h9 => h9) rfl dX5_isText_43 ?_
          refine lv_icmp_ne (tgt := 53) hx hb dX5_isText_46 (by decide) (fun c6 => ?_) (fun c6 => ?_)
          · have hF := ob_pos c6 hF
            refine lv_iconst (v := 0) hx hb dX5_isText_53 (by decide) ?_
            cases hF
            rw [hQ]
            exact jb_zret hx hb hr rfl hlocks hP hD hS dX5_isText_54 rfl (Nat.le_of_ble_eq_true rfl) (Nat.le_of_ble_eq_true rfl)
          · have hF := ob_nneg c6 hF
            refine lv_iconst (v := 1) hx hb dX5_isText_49 (by decide) ?_
            refine lv_goto (tgt := 54) hx hb dX5_isText_50 (by decide) ?_
            cases hF
            rw [hQ]
            exact jb_zret hx hb hr rfl hlocks hP hD hS dX5_isText_54 rfl (Nat.le_of_ble_eq_true rfl) (Nat.le_of_ble_eq_true rfl)
      · have hF := ob_nneg c3 hF
        refine lv_iconst (v := 0) hx hb dX5_isText_17 (by decide) ?_
        cases hF
        rw [hQ]
        exact jb_zret hx hb hr rfl hlocks hP hD hS dX5_isText_18 rfl (Nat.le_of_ble_eq_true rfl) (Nat.le_of_ble_eq_true rfl)
  exact loop1 1000 _ hF _ _ hP hD hS ls (lv_sub hl [0] rfl)
def F_X5_execute_L62  (k : Mv → Int32 → Int32 → Option (Int32 × Mv)) : Nat → Mv → Int32 → Int32 → Option (Int32 × Mv)
  | 0, _, _, _ => none
  | n + 1, b0, x2, x3 => if (M_toldMany b0) ≤ x2 then k b0 x2 x3 else if ¬ (M_code b0) = 0 then k b0 x2 x3 else (F_X5_carries b0 (3 * x2)).bind (fun z4 => if ¬ (M_code z4.2) = 0 then F_X5_execute_L62  k n z4.2 x2 z4.1 else F_X5_execute_L62  k n z4.2 (x2 + 1) z4.1)
def F_X5_execute (mo : Mv) : Option (Int32 × Mv) := (F_X5_isText mo).bind (fun z1 => if ¬ (bi z1.1) = 0 then if (bi z1.1) = 0 then (F_X5_fails (mkM (M_g z1.2) (M_kept z1.2) (M_saved z1.2) (M_before z1.2) (M_trial z1.2) (M_counted z1.2) (M_isSaved z1.2) (M_changes z1.2) (M_isWithin z1.2) (M_isDenied z1.2) (M_code z1.2) (M_why z1.2) (M_detail z1.2) (M_cause z1.2) (M_input z1.2) 0 (M_fault z1.2) (M_signs z1.2) (M_signMany z1.2) (M_lastOver z1.2) (M_at z1.2) (M_told z1.2) (M_toldMany z1.2)) 1).bind (fun z2 => if (bi z2.1) = 0 then (F_X5_copies 83 83 (M_g z2.2) (M_before z2.2) 0 0).bind (fun z3 => F_X5_execute_L62  (fun b5 x6 x7 => if (M_code b5) ≤ 0 then (F_X5_keeps_b (mkM (M_g b5) (M_kept b5) (M_saved b5) (M_before b5) (M_trial b5) (M_counted b5) (M_isSaved b5) (M_changes b5) 0 (M_isDenied b5) (M_code b5) (M_why b5) (M_detail b5) (M_cause b5) (M_input b5) (M_length b5) (M_fault b5) (M_signs b5) (M_signMany b5) (M_lastOver b5) (M_at b5) (M_told b5) (M_toldMany b5))).bind (fun z8 => some (M_toldMany z8, z8)) else (F_X5_copies 83 83 (M_before b5) (M_g b5) 0 0).bind (fun z9 => (F_X5_deniesText (mkM z9 (M_kept b5) (M_saved b5) (M_before b5) (M_trial b5) (M_counted b5) (M_isSaved b5) (M_changes b5) 0 (M_isDenied b5) (M_code b5) (M_why b5) (M_detail b5) (M_cause b5) (M_input b5) (M_length b5) (M_fault b5) (M_signs b5) (M_signMany b5) (M_lastOver b5) (M_at b5) (M_told b5) (M_toldMany b5)) x6).bind (fun z10 => if x7 ≤ 0 then some (z10.1 + x7, z10.2) else some (z10.1 + 0, z10.2)))) 1000 (mkM (M_g z2.2) (M_kept z2.2) (M_saved z2.2) z3 (M_trial z2.2) (M_counted z2.2) (M_isSaved z2.2) (M_changes z2.2) 1 (M_isDenied z2.2) (M_code z2.2) (M_why z2.2) (M_detail z2.2) (M_cause z2.2) (M_input z2.2) (M_length z2.2) (M_fault z2.2) (M_signs z2.2) (M_signMany z2.2) (M_lastOver z2.2) (M_at z2.2) (M_told z2.2) (M_toldMany z2.2)) 0 0) else some (0, z2.2)) else (F_X5_fails (mkM (M_g z1.2) (M_kept z1.2) (M_saved z1.2) (M_before z1.2) (M_trial z1.2) (M_counted z1.2) (M_isSaved z1.2) (M_changes z1.2) (M_isWithin z1.2) (M_isDenied z1.2) (M_code z1.2) (M_why z1.2) (M_detail z1.2) (M_cause z1.2) (M_input z1.2) 0 (M_fault z1.2) (M_signs z1.2) (M_signMany z1.2) (M_lastOver z1.2) (M_at z1.2) (M_told z1.2) (M_toldMany z1.2)) 0).bind (fun z11 => if (bi z11.1) = 0 then (F_X5_copies 83 83 (M_g z11.2) (M_before z11.2) 0 0).bind (fun z12 => F_X5_execute_L62  (fun b13 x14 x15 => if (M_code b13) ≤ 0 then (F_X5_keeps_b (mkM (M_g b13) (M_kept b13) (M_saved b13) (M_before b13) (M_trial b13) (M_counted b13) (M_isSaved b13) (M_changes b13) 0 (M_isDenied b13) (M_code b13) (M_why b13) (M_detail b13) (M_cause b13) (M_input b13) (M_length b13) (M_fault b13) (M_signs b13) (M_signMany b13) (M_lastOver b13) (M_at b13) (M_told b13) (M_toldMany b13))).bind (fun z16 => some (M_toldMany z16, z16)) else (F_X5_copies 83 83 (M_before b13) (M_g b13) 0 0).bind (fun z17 => (F_X5_deniesText (mkM z17 (M_kept b13) (M_saved b13) (M_before b13) (M_trial b13) (M_counted b13) (M_isSaved b13) (M_changes b13) 0 (M_isDenied b13) (M_code b13) (M_why b13) (M_detail b13) (M_cause b13) (M_input b13) (M_length b13) (M_fault b13) (M_signs b13) (M_signMany b13) (M_lastOver b13) (M_at b13) (M_told b13) (M_toldMany b13)) x14).bind (fun z18 => if x15 ≤ 0 then some (z18.1 + x15, z18.2) else some (z18.1 + 0, z18.2)))) 1000 (mkM (M_g z11.2) (M_kept z11.2) (M_saved z11.2) z12 (M_trial z11.2) (M_counted z11.2) (M_isSaved z11.2) (M_changes z11.2) 1 (M_isDenied z11.2) (M_code z11.2) (M_why z11.2) (M_detail z11.2) (M_cause z11.2) (M_input z11.2) (M_length z11.2) (M_fault z11.2) (M_signs z11.2) (M_signMany z11.2) (M_lastOver z11.2) (M_at z11.2) (M_told z11.2) (M_toldMany z11.2)) 0 0) else some (0, z11.2)) else if (bi z1.1) = 0 then (F_X5_fails (mkM (M_g z1.2) (M_kept z1.2) (M_saved z1.2) (M_before z1.2) (M_trial z1.2) (M_counted z1.2) (M_isSaved z1.2) (M_changes z1.2) (M_isWithin z1.2) (M_isDenied z1.2) (M_code z1.2) (M_why z1.2) (M_detail z1.2) (M_cause z1.2) (M_input z1.2) 0 (M_at z1.2) (M_signs z1.2) (M_signMany z1.2) (M_lastOver z1.2) (M_at z1.2) (M_told z1.2) (M_toldMany z1.2)) 1).bind (fun z19 => if (bi z19.1) = 0 then (F_X5_copies 83 83 (M_g z19.2) (M_before z19.2) 0 0).bind (fun z20 => F_X5_execute_L62  (fun b21 x22 x23 => if (M_code b21) ≤ 0 then (F_X5_keeps_b (mkM (M_g b21) (M_kept b21) (M_saved b21) (M_before b21) (M_trial b21) (M_counted b21) (M_isSaved b21) (M_changes b21) 0 (M_isDenied b21) (M_code b21) (M_why b21) (M_detail b21) (M_cause b21) (M_input b21) (M_length b21) (M_fault b21) (M_signs b21) (M_signMany b21) (M_lastOver b21) (M_at b21) (M_told b21) (M_toldMany b21))).bind (fun z24 => some (M_toldMany z24, z24)) else (F_X5_copies 83 83 (M_before b21) (M_g b21) 0 0).bind (fun z25 => (F_X5_deniesText (mkM z25 (M_kept b21) (M_saved b21) (M_before b21) (M_trial b21) (M_counted b21) (M_isSaved b21) (M_changes b21) 0 (M_isDenied b21) (M_code b21) (M_why b21) (M_detail b21) (M_cause b21) (M_input b21) (M_length b21) (M_fault b21) (M_signs b21) (M_signMany b21) (M_lastOver b21) (M_at b21) (M_told b21) (M_toldMany b21)) x22).bind (fun z26 => if x23 ≤ 0 then some (z26.1 + x23, z26.2) else some (z26.1 + 0, z26.2)))) 1000 (mkM (M_g z19.2) (M_kept z19.2) (M_saved z19.2) z20 (M_trial z19.2) (M_counted z19.2) (M_isSaved z19.2) (M_changes z19.2) 1 (M_isDenied z19.2) (M_code z19.2) (M_why z19.2) (M_detail z19.2) (M_cause z19.2) (M_input z19.2) (M_length z19.2) (M_fault z19.2) (M_signs z19.2) (M_signMany z19.2) (M_lastOver z19.2) (M_at z19.2) (M_told z19.2) (M_toldMany z19.2)) 0 0) else some (0, z19.2)) else (F_X5_fails (mkM (M_g z1.2) (M_kept z1.2) (M_saved z1.2) (M_before z1.2) (M_trial z1.2) (M_counted z1.2) (M_isSaved z1.2) (M_changes z1.2) (M_isWithin z1.2) (M_isDenied z1.2) (M_code z1.2) (M_why z1.2) (M_detail z1.2) (M_cause z1.2) (M_input z1.2) 0 (M_at z1.2) (M_signs z1.2) (M_signMany z1.2) (M_lastOver z1.2) (M_at z1.2) (M_told z1.2) (M_toldMany z1.2)) 0).bind (fun z27 => if (bi z27.1) = 0 then (F_X5_copies 83 83 (M_g z27.2) (M_before z27.2) 0 0).bind (fun z28 => F_X5_execute_L62  (fun b29 x30 x31 => if (M_code b29) ≤ 0 then (F_X5_keeps_b (mkM (M_g b29) (M_kept b29) (M_saved b29) (M_before b29) (M_trial b29) (M_counted b29) (M_isSaved b29) (M_changes b29) 0 (M_isDenied b29) (M_code b29) (M_why b29) (M_detail b29) (M_cause b29) (M_input b29) (M_length b29) (M_fault b29) (M_signs b29) (M_signMany b29) (M_lastOver b29) (M_at b29) (M_told b29) (M_toldMany b29))).bind (fun z32 => some (M_toldMany z32, z32)) else (F_X5_copies 83 83 (M_before b29) (M_g b29) 0 0).bind (fun z33 => (F_X5_deniesText (mkM z33 (M_kept b29) (M_saved b29) (M_before b29) (M_trial b29) (M_counted b29) (M_isSaved b29) (M_changes b29) 0 (M_isDenied b29) (M_code b29) (M_why b29) (M_detail b29) (M_cause b29) (M_input b29) (M_length b29) (M_fault b29) (M_signs b29) (M_signMany b29) (M_lastOver b29) (M_at b29) (M_told b29) (M_toldMany b29)) x30).bind (fun z34 => if x31 ≤ 0 then some (z34.1 + x31, z34.2) else some (z34.1 + 0, z34.2)))) 1000 (mkM (M_g z27.2) (M_kept z27.2) (M_saved z27.2) z28 (M_trial z27.2) (M_counted z27.2) (M_isSaved z27.2) (M_changes z27.2) 1 (M_isDenied z27.2) (M_code z27.2) (M_why z27.2) (M_detail z27.2) (M_cause z27.2) (M_input z27.2) (M_length z27.2) (M_fault z27.2) (M_signs z27.2) (M_signMany z27.2) (M_lastOver z27.2) (M_at z27.2) (M_told z27.2) (M_toldMany z27.2)) 0 0) else some (0, z27.2)))
set_option maxHeartbeats 4000000 in
set_option maxRecDepth 100000 in
theorem c_X5_execute (g : GG) (l : Launch) (a : Nat → Nat) (mo : Mv) (z : Int32 × Mv) (hF : F_X5_execute mo = some z) : MI g l yX5_execute cX5_execute 4 (some .int) ({ frames := 8, cells := 0, slots := 0, locals := 176 } : Room) [.ref (a 0)] [wM g a mo] 0 0 z.1 [wM g a z.2] := by
  refine MI.bg (by decide) (Nat.le_of_ble_eq_true rfl) ?_
  intro p e s m below meth c A Q hQ hx hb hr hml hown hts hlocks hmn hK hE hA hP hD hS ls hl
  rw [F_X5_execute] at hF
  have hl : lv_has ls 4 [(0, .ref (a 0))] := hl
  refine lv_aload_n hx hb dX5_execute_0 rfl (lv_at hl 0 rfl) ?_
  obtain ⟨z1, hz1, hF⟩ := ob_bind hF
  refine cl_i (csR := []) (csF := [wM g a z1.2]) (rest := []) hx hb hml hown hts hK hE hA hl hP hD hS (c_X5_isText g l a mo z1 hz1) [0] [] [0] ⟨rfl, rfl, rfl, rfl, rfl, rfl, rfl⟩ ⟨0, 9, _, _, rfl, rfl, rfl⟩ 0 (jb_giV mw_1654 mw_1656 ms_60 mw_10 mw_1657) ⟨rfl, rfl⟩ (by decide +kernel) ⟨⟨(Nat.le_of_ble_eq_true rfl), (Nat.le_of_ble_eq_true rfl)⟩, (Nat.le_of_ble_eq_true rfl), (Nat.le_of_ble_eq_true rfl)⟩ ⟨rfl, rfl⟩ (Nat.le_of_ble_eq_true rfl) dX5_execute_1 (fun H locs hP hD hS => ?_)
  refine lv_istore_n (lv' := [(1, .int (bi z1.1)), (0, .ref (a 0))]) hx hb dX5_execute_4 rfl hl (by decide) rfl (fun ls hl => ?_)
  refine lv_iload_n hx hb dX5_execute_5 rfl (lv_at hl 0 rfl) ?_
  refine lv_if_ne (tgt := 17) hx hb dX5_execute_6 (by decide) (fun c2 => ?_) (fun c2 => ?_)
  · have hF := ob_pos c2 hF
    refine lv_aload_n hx hb dX5_execute_17 rfl (lv_at hl 1 rfl) ?_
    refine lv_iconst (v := 0) hx hb dX5_execute_18 (by decide) ?_
    refine va_put (D := g.1) (ci := 9) (v := .int 0) (ty := .int) (C := RX5) (T := TX5) (N := 23) hx hb hts inX5 tyX5 tyX5_ok nmX5 hown hK hP hD hS 0 rfl rfl 15 (by decide) (hts _ mw_1326) (fun _ h9 => h9) rfl (by decide +kernel) rfl rfl (Nat.le_of_ble_eq_true rfl) dX5_execute_19 (fun H locs hP hD hS => ?_)
    have hP : va_P g.1 vwCl ([wMc g a (M_g z1.2) (M_kept z1.2) (M_saved z1.2) (M_before z1.2) (M_trial z1.2) (M_counted z1.2) (M_isSaved z1.2) (M_changes z1.2) (M_isWithin z1.2) (M_isDenied z1.2) (M_code z1.2) (M_why z1.2) (M_detail z1.2) (M_cause z1.2) (M_input z1.2) 0 (M_fault z1.2) (M_signs z1.2) (M_signMany z1.2) (M_lastOver z1.2) (M_at z1.2) (M_told z1.2) (M_toldMany z1.2)] : List va_W).flatten _ := hP
    have hD : va_D A ([wMc g a (M_g z1.2) (M_kept z1.2) (M_saved z1.2) (M_before z1.2) (M_trial z1.2) (M_counted z1.2) (M_isSaved z1.2) (M_changes z1.2) (M_isWithin z1.2) (M_isDenied z1.2) (M_code z1.2) (M_why z1.2) (M_detail z1.2) (M_cause z1.2) (M_input z1.2) 0 (M_fault z1.2) (M_signs z1.2) (M_signMany z1.2) (M_lastOver z1.2) (M_at z1.2) (M_told z1.2) (M_toldMany z1.2)] : List va_W).flatten := hD
    refine lv_aload_n hx hb dX5_execute_22 rfl (lv_at hl 1 rfl) ?_
    refine lv_iload_n hx hb dX5_execute_23 rfl (lv_at hl 0 rfl) ?_
    refine lv_if_eq (tgt := 31) hx hb dX5_execute_24 (by decide) (fun c3 => ?_) (fun c3 => ?_)
    · have hF := ob_pos c3 hF
      refine lv_iconst (v := 1) hx hb dX5_execute_31 (by decide) ?_
      obtain ⟨z4, hz4, hF⟩ := ob_bind hF
      refine cl_i (csR := []) (csF := [wM g a z4.2]) (rest := []) hx hb hml hown hts hK hE hA hl hP hD hS (c_X5_fails g l a (mkM (M_g z1.2) (M_kept z1.2) (M_saved z1.2) (M_before z1.2) (M_trial z1.2) (M_counted z1.2) (M_isSaved z1.2) (M_changes z1.2) (M_isWithin z1.2) (M_isDenied z1.2) (M_code z1.2) (M_why z1.2) (M_detail z1.2) (M_cause z1.2) (M_input z1.2) 0 (M_fault z1.2) (M_signs z1.2) (M_signMany z1.2) (M_lastOver z1.2) (M_at z1.2) (M_told z1.2) (M_toldMany z1.2)) 1 z4 hz4) [0] [] [0] ⟨rfl, rfl, rfl, rfl, rfl, rfl, rfl⟩ ⟨0, 9, _, _, rfl, rfl, rfl⟩ 1 (jb_giV mw_1392 mw_1394 ms_32 mw_10 mw_1395) ⟨rfl, rfl⟩ (by decide +kernel) ⟨⟨(Nat.le_of_ble_eq_true rfl), (Nat.le_of_ble_eq_true rfl)⟩, (Nat.le_of_ble_eq_true rfl), (Nat.le_of_ble_eq_true rfl)⟩ ⟨rfl, rfl⟩ (Nat.le_of_ble_eq_true rfl) dX5_execute_32 (fun H locs hP hD hS => ?_)
      refine lv_if_eq (tgt := 40) hx hb dX5_execute_35 (by decide) (fun c5 => ?_) (fun c5 => ?_)
      · have hF := ob_pos c5 hF
        refine lv_aload_n hx hb dX5_execute_40 rfl (lv_at hl 1 rfl) ?_
        refine va_get (D := g.1) (ci := 9) (v := .ref (a 1)) (C := RX5) (T := TX5) (N := 23) hx hb hts inX5 hown hK hP 0 rfl rfl 0 (by decide) (hts _ mw_1311) (fun _ h9 => h9) rfl dX5_execute_41 ?_
        refine lv_iconst (v := 0) hx hb dX5_execute_44 (by decide) ?_
        refine lv_aload_n hx hb dX5_execute_45 rfl (lv_at hl 1 rfl) ?_
        refine va_get (D := g.1) (ci := 9) (v := .ref (a 4)) (C := RX5) (T := TX5) (N := 23) hx hb hts inX5 hown hK hP 0 rfl rfl 3 (by decide) (hts _ mw_1314) (fun _ h9 => h9) rfl dX5_execute_46 ?_
        refine lv_iconst (v := 0) hx hb dX5_execute_49 (by decide) ?_
        obtain ⟨z6, hz6, hF⟩ := ob_bind hF
        have hP : va_P g.1 vwCl ([[(a 0, .inr (9, [.ref (a 1), .ref (a 2), .ref (a 3), .ref (a 4), .ref (a 5), .ref (a 6), .int (M_isSaved z4.2), .int (M_changes z4.2), .int (M_isWithin z4.2), .int (M_isDenied z4.2), .int (M_code z4.2), .int (M_why z4.2), .int (M_detail z4.2), .int (M_cause z4.2), .ref (a 7), .int (M_length z4.2), .int (M_fault z4.2), .ref (a 8), .int (M_signMany z4.2), .int (M_lastOver z4.2), .int (M_at z4.2), .ref (a 9), .int (M_toldMany z4.2)]))], [(a 1, .inl (g.2.1 0, 83, .inl (M_g z4.2)))], [(a 2, .inl (g.2.1 0, 664, .inl (M_kept z4.2)))], [(a 3, .inl (g.2.1 0, 83, .inl (M_saved z4.2)))], [(a 4, .inl (g.2.1 0, 83, .inl (M_before z4.2)))], [(a 5, .inl (g.2.1 0, 83, .inl (M_trial z4.2)))], [(a 6, .inl (g.2.1 0, 10, .inl (M_counted z4.2)))], [(a 7, .inl (g.2.1 0, 60, .inl (M_input z4.2)))], [(a 8, .inl (g.2.1 1, 200, .inl (M_signs z4.2)))], [(a 9, .inl (g.2.1 0, 93, .inl (M_told z4.2)))]] : List va_W).flatten _ := hP
        have hD : va_D A ([[(a 0, .inr (9, [.ref (a 1), .ref (a 2), .ref (a 3), .ref (a 4), .ref (a 5), .ref (a 6), .int (M_isSaved z4.2), .int (M_changes z4.2), .int (M_isWithin z4.2), .int (M_isDenied z4.2), .int (M_code z4.2), .int (M_why z4.2), .int (M_detail z4.2), .int (M_cause z4.2), .ref (a 7), .int (M_length z4.2), .int (M_fault z4.2), .ref (a 8), .int (M_signMany z4.2), .int (M_lastOver z4.2), .int (M_at z4.2), .ref (a 9), .int (M_toldMany z4.2)]))], [(a 1, .inl (g.2.1 0, 83, .inl (M_g z4.2)))], [(a 2, .inl (g.2.1 0, 664, .inl (M_kept z4.2)))], [(a 3, .inl (g.2.1 0, 83, .inl (M_saved z4.2)))], [(a 4, .inl (g.2.1 0, 83, .inl (M_before z4.2)))], [(a 5, .inl (g.2.1 0, 83, .inl (M_trial z4.2)))], [(a 6, .inl (g.2.1 0, 10, .inl (M_counted z4.2)))], [(a 7, .inl (g.2.1 0, 60, .inl (M_input z4.2)))], [(a 8, .inl (g.2.1 1, 200, .inl (M_signs z4.2)))], [(a 9, .inl (g.2.1 0, 93, .inl (M_told z4.2)))]] : List va_W).flatten := hD
        refine cl_sv (csR := [[(a 0, .inr (9, [.ref (a 1), .ref (a 2), .ref (a 3), .ref (a 4), .ref (a 5), .ref (a 6), .int (M_isSaved z4.2), .int (M_changes z4.2), .int (M_isWithin z4.2), .int (M_isDenied z4.2), .int (M_code z4.2), .int (M_why z4.2), .int (M_detail z4.2), .int (M_cause z4.2), .ref (a 7), .int (M_length z4.2), .int (M_fault z4.2), .ref (a 8), .int (M_signMany z4.2), .int (M_lastOver z4.2), .int (M_at z4.2), .ref (a 9), .int (M_toldMany z4.2)]))], [(a 2, .inl (g.2.1 0, 664, .inl (M_kept z4.2)))], [(a 3, .inl (g.2.1 0, 83, .inl (M_saved z4.2)))], [(a 5, .inl (g.2.1 0, 83, .inl (M_trial z4.2)))], [(a 6, .inl (g.2.1 0, 10, .inl (M_counted z4.2)))], [(a 7, .inl (g.2.1 0, 60, .inl (M_input z4.2)))], [(a 8, .inl (g.2.1 1, 200, .inl (M_signs z4.2)))], [(a 9, .inl (g.2.1 0, 93, .inl (M_told z4.2)))]]) (csF := [[(a 0, .inr (9, [.ref (a 1), .ref (a 2), .ref (a 3), .ref (a 4), .ref (a 5), .ref (a 6), .int (M_isSaved z4.2), .int (M_changes z4.2), .int (M_isWithin z4.2), .int (M_isDenied z4.2), .int (M_code z4.2), .int (M_why z4.2), .int (M_detail z4.2), .int (M_cause z4.2), .ref (a 7), .int (M_length z4.2), .int (M_fault z4.2), .ref (a 8), .int (M_signMany z4.2), .int (M_lastOver z4.2), .int (M_at z4.2), .ref (a 9), .int (M_toldMany z4.2)]))], [(a 1, .inl (g.2.1 0, 83, .inl (M_g z4.2)))], [(a 2, .inl (g.2.1 0, 664, .inl (M_kept z4.2)))], [(a 3, .inl (g.2.1 0, 83, .inl (M_saved z4.2)))], [(a 4, .inl (g.2.1 0, 83, .inl z6))], [(a 5, .inl (g.2.1 0, 83, .inl (M_trial z4.2)))], [(a 6, .inl (g.2.1 0, 10, .inl (M_counted z4.2)))], [(a 7, .inl (g.2.1 0, 60, .inl (M_input z4.2)))], [(a 8, .inl (g.2.1 1, 200, .inl (M_signs z4.2)))], [(a 9, .inl (g.2.1 0, 93, .inl (M_told z4.2)))]]) (rest := []) hx hb hml hown hts hK hE hA hl hP hD hS (c_X5_copies g l (fun _ => a 1) 83 (fun _ => a 4) 83 (M_g z4.2) (M_before z4.2) 0 0 z6 hz6) [1, 4] [0, 2, 3, 5, 6, 7, 8, 9] [0, 8, 1, 2, 9, 3, 4, 5, 6, 7] ⟨rfl, rfl, rfl, rfl, rfl, rfl, rfl⟩ 4 (jb_giS mw_1404 mw_1405 mw_10 mw_1406) ⟨rfl, rfl⟩ (by decide +kernel) ⟨⟨(Nat.le_of_ble_eq_true rfl), (Nat.le_of_ble_eq_true rfl)⟩, (Nat.le_of_ble_eq_true rfl), (Nat.le_of_ble_eq_true rfl)⟩ ⟨rfl, rfl⟩ (Nat.le_of_ble_eq_true rfl) dX5_execute_50 (fun H locs hP hD hS => ?_)
        have hP : va_P g.1 vwCl ([wMc g a (M_g z4.2) (M_kept z4.2) (M_saved z4.2) z6 (M_trial z4.2) (M_counted z4.2) (M_isSaved z4.2) (M_changes z4.2) (M_isWithin z4.2) (M_isDenied z4.2) (M_code z4.2) (M_why z4.2) (M_detail z4.2) (M_cause z4.2) (M_input z4.2) (M_length z4.2) (M_fault z4.2) (M_signs z4.2) (M_signMany z4.2) (M_lastOver z4.2) (M_at z4.2) (M_told z4.2) (M_toldMany z4.2)] : List va_W).flatten _ := hP
        have hD : va_D A ([wMc g a (M_g z4.2) (M_kept z4.2) (M_saved z4.2) z6 (M_trial z4.2) (M_counted z4.2) (M_isSaved z4.2) (M_changes z4.2) (M_isWithin z4.2) (M_isDenied z4.2) (M_code z4.2) (M_why z4.2) (M_detail z4.2) (M_cause z4.2) (M_input z4.2) (M_length z4.2) (M_fault z4.2) (M_signs z4.2) (M_signMany z4.2) (M_lastOver z4.2) (M_at z4.2) (M_told z4.2) (M_toldMany z4.2)] : List va_W).flatten := hD
        refine lv_aload_n hx hb dX5_execute_53 rfl (lv_at hl 1 rfl) ?_
        refine lv_iconst (v := 1) hx hb dX5_execute_54 (by decide) ?_
        refine va_put (D := g.1) (ci := 9) (v := .int 1) (ty := .boolean) (C := RX5) (T := TX5) (N := 23) hx hb hts inX5 tyX5 tyX5_ok nmX5 hown hK hP hD hS 0 rfl rfl 8 (by decide) (hts _ mw_1319) (fun _ h9 => h9) rfl (by decide +kernel) rfl rfl (Nat.le_of_ble_eq_true rfl) dX5_execute_55 (fun H locs hP hD hS => ?_)
        have hP : va_P g.1 vwCl ([wMc g a (M_g z4.2) (M_kept z4.2) (M_saved z4.2) z6 (M_trial z4.2) (M_counted z4.2) (M_isSaved z4.2) (M_changes z4.2) 1 (M_isDenied z4.2) (M_code z4.2) (M_why z4.2) (M_detail z4.2) (M_cause z4.2) (M_input z4.2) (M_length z4.2) (M_fault z4.2) (M_signs z4.2) (M_signMany z4.2) (M_lastOver z4.2) (M_at z4.2) (M_told z4.2) (M_toldMany z4.2)] : List va_W).flatten _ := hP
        have hD : va_D A ([wMc g a (M_g z4.2) (M_kept z4.2) (M_saved z4.2) z6 (M_trial z4.2) (M_counted z4.2) (M_isSaved z4.2) (M_changes z4.2) 1 (M_isDenied z4.2) (M_code z4.2) (M_why z4.2) (M_detail z4.2) (M_cause z4.2) (M_input z4.2) (M_length z4.2) (M_fault z4.2) (M_signs z4.2) (M_signMany z4.2) (M_lastOver z4.2) (M_at z4.2) (M_told z4.2) (M_toldMany z4.2)] : List va_W).flatten := hD
        refine lv_iconst (v := 0) hx hb dX5_execute_58 (by decide) ?_
        refine lv_istore_n (lv' := [(2, .int 0), (1, .int (bi z1.1)), (0, .ref (a 0))]) hx hb dX5_execute_59 rfl hl (by decide) rfl (fun ls hl => ?_)
        refine lv_iconst (v := 0) hx hb dX5_execute_60 (by decide) ?_
        refine lv_istore_n (lv' := [(3, .int 0), (2, .int 0), (1, .int (bi z1.1)), (0, .ref (a 0))]) hx hb dX5_execute_61 rfl hl (by decide) rfl (fun ls hl => ?_)
        obtain ⟨k9, ek9, hF⟩ := ob_k (F := fun k9 => F_X5_execute_L62  k9 1000 (mkM (M_g z4.2) (M_kept z4.2) (M_saved z4.2) z6 (M_trial z4.2) (M_counted z4.2) (M_isSaved z4.2) (M_changes z4.2) 1 (M_isDenied z4.2) (M_code z4.2) (M_why z4.2) (M_detail z4.2) (M_cause z4.2) (M_input z4.2) (M_length z4.2) (M_fault z4.2) (M_signs z4.2) (M_signMany z4.2) (M_lastOver z4.2) (M_at z4.2) (M_told z4.2) (M_toldMany z4.2)) 0 0) hF
        have loop9 : ∀ (n9 : Nat) (b7 : Mv) (x8 : Int32) (x9 : Int32), F_X5_execute_L62  k9 n9 b7 x8 x9 = some z → ∀ (H : Heap) (locs : List Loc), va_P g.1 vwCl ([wM g a b7] : List va_W).flatten H → va_D A ([wM g a b7] : List va_W).flatten → va_S A s.heap H locs → ∀ ls : Array Slot, lv_has ls 4 [(0, .ref (a 0)), (2, .int x8), (3, .int x9)] → W p l e ({ frames := 8, cells := 0, slots := 0, locals := 176 } : Room) s m ([.ref (a 0)] : List Value).toArray below meth c H locs 0 0 Q (F0 m 62 ls []) := by
          intro n9
          induction n9 with
          | zero => intro b7 x8 x9 hF; rw [F_X5_execute_L62] at hF; cases hF
          | succ n9 ih9 =>
            intro b7 x8 x9 hF H locs hP hD hS ls hl
            rw [F_X5_execute_L62] at hF
            refine lv_iload_n hx hb dX5_execute_62 rfl (lv_at hl 1 rfl) ?_
            refine lv_aload_n hx hb dX5_execute_63 rfl (lv_at hl 0 rfl) ?_
            refine va_get (D := g.1) (ci := 9) (v := .int (M_toldMany b7)) (C := RX5) (T := TX5) (N := 23) hx hb hts inX5 hown hK hP 0 rfl rfl 22 (by decide) (hts _ mw_1333) (fun _ h9 => h9) rfl dX5_execute_64 ?_
            refine lv_icmp_ge (tgt := 98) hx hb dX5_execute_67 (by decide) (fun c10 => ?_) (fun c10 => ?_)
            · have hF := ob_pos c10 hF
              rw [ek9] at hF
              refine lv_aload_n hx hb dX5_execute_98 rfl (lv_at hl 0 rfl) ?_
              refine lv_iconst (v := 0) hx hb dX5_execute_99 (by decide) ?_
              refine va_put (D := g.1) (ci := 9) (v := .int 0) (ty := .boolean) (C := RX5) (T := TX5) (N := 23) hx hb hts inX5 tyX5 tyX5_ok nmX5 hown hK hP hD hS 0 rfl rfl 8 (by decide) (hts _ mw_1319) (fun _ h9 => h9) rfl (by decide +kernel) rfl rfl (Nat.le_of_ble_eq_true rfl) dX5_execute_100 (fun H locs hP hD hS => ?_)
              have hP : va_P g.1 vwCl ([wMc g a (M_g b7) (M_kept b7) (M_saved b7) (M_before b7) (M_trial b7) (M_counted b7) (M_isSaved b7) (M_changes b7) 0 (M_isDenied b7) (M_code b7) (M_why b7) (M_detail b7) (M_cause b7) (M_input b7) (M_length b7) (M_fault b7) (M_signs b7) (M_signMany b7) (M_lastOver b7) (M_at b7) (M_told b7) (M_toldMany b7)] : List va_W).flatten _ := hP
              have hD : va_D A ([wMc g a (M_g b7) (M_kept b7) (M_saved b7) (M_before b7) (M_trial b7) (M_counted b7) (M_isSaved b7) (M_changes b7) 0 (M_isDenied b7) (M_code b7) (M_why b7) (M_detail b7) (M_cause b7) (M_input b7) (M_length b7) (M_fault b7) (M_signs b7) (M_signMany b7) (M_lastOver b7) (M_at b7) (M_told b7) (M_toldMany b7)] : List va_W).flatten := hD
              refine lv_aload_n hx hb dX5_execute_103 rfl (lv_at hl 0 rfl) ?_
              refine va_get (D := g.1) (ci := 9) (v := .int (M_code b7)) (C := RX5) (T := TX5) (N := 23) hx hb hts inX5 hown hK hP 0 rfl rfl 10 (by decide) (hts _ mw_1321) (fun _ h9 => h9) rfl dX5_execute_104 ?_
              refine lv_if_le (tgt := 139) hx hb dX5_execute_107 (by decide) (fun c11 => ?_) (fun c11 => ?_)
              · have hF := ob_pos c11 hF
                refine lv_aload_n hx hb dX5_execute_139 rfl (lv_at hl 0 rfl) ?_
                refine lv_aload_n hx hb dX5_execute_140 rfl (lv_at hl 0 rfl) ?_
                refine va_get (D := g.1) (ci := 9) (v := .ref (a 4)) (C := RX5) (T := TX5) (N := 23) hx hb hts inX5 hown hK hP 0 rfl rfl 3 (by decide) (hts _ mw_1314) (fun _ h9 => h9) rfl dX5_execute_141 ?_
                obtain ⟨z12, hz12, hF⟩ := ob_bind hF
                refine cl_v (csR := []) (csF := [wM g a z12]) (rest := []) hx hb hml hown hts hK hE hA hl hP hD hS (c_X5_keeps_b g l a (mkM (M_g b7) (M_kept b7) (M_saved b7) (M_before b7) (M_trial b7) (M_counted b7) (M_isSaved b7) (M_changes b7) 0 (M_isDenied b7) (M_code b7) (M_why b7) (M_detail b7) (M_cause b7) (M_input b7) (M_length b7) (M_fault b7) (M_signs b7) (M_signMany b7) (M_lastOver b7) (M_at b7) (M_told b7) (M_toldMany b7)) z12 hz12) [0] [] [0] ⟨rfl, rfl, rfl, rfl, rfl, rfl, rfl⟩ ⟨0, 9, _, _, rfl, rfl, rfl⟩ 1 (jb_giV mw_1400 mw_1402 ms_34 mw_10 mw_1403) ⟨rfl, rfl⟩ (by decide +kernel) ⟨⟨(Nat.le_of_ble_eq_true rfl), (Nat.le_of_ble_eq_true rfl)⟩, (Nat.le_of_ble_eq_true rfl), (Nat.le_of_ble_eq_true rfl)⟩ ⟨rfl, rfl⟩ (Nat.le_of_ble_eq_true rfl) dX5_execute_144 (fun H locs hP hD hS => ?_)
                refine lv_aload_n hx hb dX5_execute_147 rfl (lv_at hl 0 rfl) ?_
                refine va_get (D := g.1) (ci := 9) (v := .int (M_toldMany z12)) (C := RX5) (T := TX5) (N := 23) hx hb hts inX5 hown hK hP 0 rfl rfl 22 (by decide) (hts _ mw_1333) (fun _ h9 => h9) rfl dX5_execute_148 ?_
                cases hF
                rw [hQ]
                exact jb_iret hx hb hr hlocks hP hD hS dX5_execute_151 rfl (Nat.le_of_ble_eq_true rfl) (Nat.le_of_ble_eq_true rfl)
              · have hF := ob_neg c11 hF
                refine lv_aload_n hx hb dX5_execute_110 rfl (lv_at hl 0 rfl) ?_
                refine va_get (D := g.1) (ci := 9) (v := .ref (a 4)) (C := RX5) (T := TX5) (N := 23) hx hb hts inX5 hown hK hP 0 rfl rfl 3 (by decide) (hts _ mw_1314) (fun _ h9 => h9) rfl dX5_execute_111 ?_
                refine lv_iconst (v := 0) hx hb dX5_execute_114 (by decide) ?_
                refine lv_aload_n hx hb dX5_execute_115 rfl (lv_at hl 0 rfl) ?_
                refine va_get (D := g.1) (ci := 9) (v := .ref (a 1)) (C := RX5) (T := TX5) (N := 23) hx hb hts inX5 hown hK hP 0 rfl rfl 0 (by decide) (hts _ mw_1311) (fun _ h9 => h9) rfl dX5_execute_116 ?_
                refine lv_iconst (v := 0) hx hb dX5_execute_119 (by decide) ?_
                obtain ⟨z13, hz13, hF⟩ := ob_bind hF
                have hP : va_P g.1 vwCl ([[(a 0, .inr (9, [.ref (a 1), .ref (a 2), .ref (a 3), .ref (a 4), .ref (a 5), .ref (a 6), .int (M_isSaved b7), .int (M_changes b7), .int 0, .int (M_isDenied b7), .int (M_code b7), .int (M_why b7), .int (M_detail b7), .int (M_cause b7), .ref (a 7), .int (M_length b7), .int (M_fault b7), .ref (a 8), .int (M_signMany b7), .int (M_lastOver b7), .int (M_at b7), .ref (a 9), .int (M_toldMany b7)]))], [(a 1, .inl (g.2.1 0, 83, .inl (M_g b7)))], [(a 2, .inl (g.2.1 0, 664, .inl (M_kept b7)))], [(a 3, .inl (g.2.1 0, 83, .inl (M_saved b7)))], [(a 4, .inl (g.2.1 0, 83, .inl (M_before b7)))], [(a 5, .inl (g.2.1 0, 83, .inl (M_trial b7)))], [(a 6, .inl (g.2.1 0, 10, .inl (M_counted b7)))], [(a 7, .inl (g.2.1 0, 60, .inl (M_input b7)))], [(a 8, .inl (g.2.1 1, 200, .inl (M_signs b7)))], [(a 9, .inl (g.2.1 0, 93, .inl (M_told b7)))]] : List va_W).flatten _ := hP
                have hD : va_D A ([[(a 0, .inr (9, [.ref (a 1), .ref (a 2), .ref (a 3), .ref (a 4), .ref (a 5), .ref (a 6), .int (M_isSaved b7), .int (M_changes b7), .int 0, .int (M_isDenied b7), .int (M_code b7), .int (M_why b7), .int (M_detail b7), .int (M_cause b7), .ref (a 7), .int (M_length b7), .int (M_fault b7), .ref (a 8), .int (M_signMany b7), .int (M_lastOver b7), .int (M_at b7), .ref (a 9), .int (M_toldMany b7)]))], [(a 1, .inl (g.2.1 0, 83, .inl (M_g b7)))], [(a 2, .inl (g.2.1 0, 664, .inl (M_kept b7)))], [(a 3, .inl (g.2.1 0, 83, .inl (M_saved b7)))], [(a 4, .inl (g.2.1 0, 83, .inl (M_before b7)))], [(a 5, .inl (g.2.1 0, 83, .inl (M_trial b7)))], [(a 6, .inl (g.2.1 0, 10, .inl (M_counted b7)))], [(a 7, .inl (g.2.1 0, 60, .inl (M_input b7)))], [(a 8, .inl (g.2.1 1, 200, .inl (M_signs b7)))], [(a 9, .inl (g.2.1 0, 93, .inl (M_told b7)))]] : List va_W).flatten := hD
                refine cl_sv (csR := [[(a 0, .inr (9, [.ref (a 1), .ref (a 2), .ref (a 3), .ref (a 4), .ref (a 5), .ref (a 6), .int (M_isSaved b7), .int (M_changes b7), .int 0, .int (M_isDenied b7), .int (M_code b7), .int (M_why b7), .int (M_detail b7), .int (M_cause b7), .ref (a 7), .int (M_length b7), .int (M_fault b7), .ref (a 8), .int (M_signMany b7), .int (M_lastOver b7), .int (M_at b7), .ref (a 9), .int (M_toldMany b7)]))], [(a 2, .inl (g.2.1 0, 664, .inl (M_kept b7)))], [(a 3, .inl (g.2.1 0, 83, .inl (M_saved b7)))], [(a 5, .inl (g.2.1 0, 83, .inl (M_trial b7)))], [(a 6, .inl (g.2.1 0, 10, .inl (M_counted b7)))], [(a 7, .inl (g.2.1 0, 60, .inl (M_input b7)))], [(a 8, .inl (g.2.1 1, 200, .inl (M_signs b7)))], [(a 9, .inl (g.2.1 0, 93, .inl (M_told b7)))]]) (csF := [[(a 0, .inr (9, [.ref (a 1), .ref (a 2), .ref (a 3), .ref (a 4), .ref (a 5), .ref (a 6), .int (M_isSaved b7), .int (M_changes b7), .int 0, .int (M_isDenied b7), .int (M_code b7), .int (M_why b7), .int (M_detail b7), .int (M_cause b7), .ref (a 7), .int (M_length b7), .int (M_fault b7), .ref (a 8), .int (M_signMany b7), .int (M_lastOver b7), .int (M_at b7), .ref (a 9), .int (M_toldMany b7)]))], [(a 1, .inl (g.2.1 0, 83, .inl z13))], [(a 2, .inl (g.2.1 0, 664, .inl (M_kept b7)))], [(a 3, .inl (g.2.1 0, 83, .inl (M_saved b7)))], [(a 4, .inl (g.2.1 0, 83, .inl (M_before b7)))], [(a 5, .inl (g.2.1 0, 83, .inl (M_trial b7)))], [(a 6, .inl (g.2.1 0, 10, .inl (M_counted b7)))], [(a 7, .inl (g.2.1 0, 60, .inl (M_input b7)))], [(a 8, .inl (g.2.1 1, 200, .inl (M_signs b7)))], [(a 9, .inl (g.2.1 0, 93, .inl (M_told b7)))]]) (rest := []) hx hb hml hown hts hK hE hA hl hP hD hS (c_X5_copies g l (fun _ => a 4) 83 (fun _ => a 1) 83 (M_before b7) (M_g b7) 0 0 z13 hz13) [4, 1] [0, 2, 3, 5, 6, 7, 8, 9] [0, 9, 1, 2, 8, 3, 4, 5, 6, 7] ⟨rfl, rfl, rfl, rfl, rfl, rfl, rfl⟩ 4 (jb_giS mw_1404 mw_1405 mw_10 mw_1406) ⟨rfl, rfl⟩ (by decide +kernel) ⟨⟨(Nat.le_of_ble_eq_true rfl), (Nat.le_of_ble_eq_true rfl)⟩, (Nat.le_of_ble_eq_true rfl), (Nat.le_of_ble_eq_true rfl)⟩ ⟨rfl, rfl⟩ (Nat.le_of_ble_eq_true rfl) dX5_execute_120 (fun H locs hP hD hS => ?_)
                have hP : va_P g.1 vwCl ([wMc g a z13 (M_kept b7) (M_saved b7) (M_before b7) (M_trial b7) (M_counted b7) (M_isSaved b7) (M_changes b7) 0 (M_isDenied b7) (M_code b7) (M_why b7) (M_detail b7) (M_cause b7) (M_input b7) (M_length b7) (M_fault b7) (M_signs b7) (M_signMany b7) (M_lastOver b7) (M_at b7) (M_told b7) (M_toldMany b7)] : List va_W).flatten _ := hP
                have hD : va_D A ([wMc g a z13 (M_kept b7) (M_saved b7) (M_before b7) (M_trial b7) (M_counted b7) (M_isSaved b7) (M_changes b7) 0 (M_isDenied b7) (M_code b7) (M_why b7) (M_detail b7) (M_cause b7) (M_input b7) (M_length b7) (M_fault b7) (M_signs b7) (M_signMany b7) (M_lastOver b7) (M_at b7) (M_told b7) (M_toldMany b7)] : List va_W).flatten := hD
                refine lv_aload_n hx hb dX5_execute_123 rfl (lv_at hl 0 rfl) ?_
                refine lv_iload_n hx hb dX5_execute_124 rfl (lv_at hl 1 rfl) ?_
                obtain ⟨z14, hz14, hF⟩ := ob_bind hF
                refine cl_i (csR := []) (csF := [wM g a z14.2]) (rest := []) hx hb hml hown hts hK hE hA hl hP hD hS (c_X5_deniesText g l a (mkM z13 (M_kept b7) (M_saved b7) (M_before b7) (M_trial b7) (M_counted b7) (M_isSaved b7) (M_changes b7) 0 (M_isDenied b7) (M_code b7) (M_why b7) (M_detail b7) (M_cause b7) (M_input b7) (M_length b7) (M_fault b7) (M_signs b7) (M_signMany b7) (M_lastOver b7) (M_at b7) (M_told b7) (M_toldMany b7)) x8 z14 hz14) [0] [] [0] ⟨rfl, rfl, rfl, rfl, rfl, rfl, rfl⟩ ⟨0, 9, _, _, rfl, rfl, rfl⟩ 1 (jb_giV mw_1698 mw_1700 ms_67 mw_10 mw_1701) ⟨rfl, rfl⟩ (by decide +kernel) ⟨⟨(Nat.le_of_ble_eq_true rfl), (Nat.le_of_ble_eq_true rfl)⟩, (Nat.le_of_ble_eq_true rfl), (Nat.le_of_ble_eq_true rfl)⟩ ⟨rfl, rfl⟩ (Nat.le_of_ble_eq_true rfl) dX5_execute_125 (fun H locs hP hD hS => ?_)
                refine lv_iload_n hx hb dX5_execute_128 rfl (lv_at hl 2 rfl) ?_
                refine lv_if_le (tgt := 136) hx hb dX5_execute_129 (by decide) (fun c15 => ?_) (fun c15 => ?_)
                · have hF := ob_pos c15 hF
                  refine lv_iload_n hx hb dX5_execute_136 rfl (lv_at hl 2 rfl) ?_
                  refine lv_iadd hx hb dX5_execute_137 ?_
                  cases hF
                  rw [hQ]
                  exact jb_iret hx hb hr hlocks hP hD hS dX5_execute_138 rfl (Nat.le_of_ble_eq_true rfl) (Nat.le_of_ble_eq_true rfl)
                · have hF := ob_neg c15 hF
                  refine lv_iconst (v := 0) hx hb dX5_execute_132 (by decide) ?_
                  refine lv_goto (tgt := 137) hx hb dX5_execute_133 (by decide) ?_
                  refine lv_iadd hx hb dX5_execute_137 ?_
                  cases hF
                  rw [hQ]
                  exact jb_iret hx hb hr hlocks hP hD hS dX5_execute_138 rfl (Nat.le_of_ble_eq_true rfl) (Nat.le_of_ble_eq_true rfl)
            · have hF := ob_neg c10 hF
              refine lv_aload_n hx hb dX5_execute_70 rfl (lv_at hl 0 rfl) ?_
              refine va_get (D := g.1) (ci := 9) (v := .int (M_code b7)) (C := RX5) (T := TX5) (N := 23) hx hb hts inX5 hown hK hP 0 rfl rfl 10 (by decide) (hts _ mw_1321) (fun _ h9 => h9) rfl dX5_execute_71 ?_
              refine lv_if_ne (tgt := 98) hx hb dX5_execute_74 (by decide) (fun c16 => ?_) (fun c16 => ?_)
              · have hF := ob_pos c16 hF
                rw [ek9] at hF
                refine lv_aload_n hx hb dX5_execute_98 rfl (lv_at hl 0 rfl) ?_
                refine lv_iconst (v := 0) hx hb dX5_execute_99 (by decide) ?_
                refine va_put (D := g.1) (ci := 9) (v := .int 0) (ty := .boolean) (C := RX5) (T := TX5) (N := 23) hx hb hts inX5 tyX5 tyX5_ok nmX5 hown hK hP hD hS 0 rfl rfl 8 (by decide) (hts _ mw_1319) (fun _ h9 => h9) rfl (by decide +kernel) rfl rfl (Nat.le_of_ble_eq_true rfl) dX5_execute_100 (fun H locs hP hD hS => ?_)
                have hP : va_P g.1 vwCl ([wMc g a (M_g b7) (M_kept b7) (M_saved b7) (M_before b7) (M_trial b7) (M_counted b7) (M_isSaved b7) (M_changes b7) 0 (M_isDenied b7) (M_code b7) (M_why b7) (M_detail b7) (M_cause b7) (M_input b7) (M_length b7) (M_fault b7) (M_signs b7) (M_signMany b7) (M_lastOver b7) (M_at b7) (M_told b7) (M_toldMany b7)] : List va_W).flatten _ := hP
                have hD : va_D A ([wMc g a (M_g b7) (M_kept b7) (M_saved b7) (M_before b7) (M_trial b7) (M_counted b7) (M_isSaved b7) (M_changes b7) 0 (M_isDenied b7) (M_code b7) (M_why b7) (M_detail b7) (M_cause b7) (M_input b7) (M_length b7) (M_fault b7) (M_signs b7) (M_signMany b7) (M_lastOver b7) (M_at b7) (M_told b7) (M_toldMany b7)] : List va_W).flatten := hD
                refine lv_aload_n hx hb dX5_execute_103 rfl (lv_at hl 0 rfl) ?_
                refine va_get (D := g.1) (ci := 9) (v := .int (M_code b7)) (C := RX5) (T := TX5) (N := 23) hx hb hts inX5 hown hK hP 0 rfl rfl 10 (by decide) (hts _ mw_1321) (fun _ h9 => h9) rfl dX5_execute_104 ?_
                refine lv_if_le (tgt := 139) hx hb dX5_execute_107 (by decide) (fun c17 => ?_) (fun c17 => ?_)
                · have hF := ob_pos c17 hF
                  refine lv_aload_n hx hb dX5_execute_139 rfl (lv_at hl 0 rfl) ?_
                  refine lv_aload_n hx hb dX5_execute_140 rfl (lv_at hl 0 rfl) ?_
                  refine va_get (D := g.1) (ci := 9) (v := .ref (a 4)) (C := RX5) (T := TX5) (N := 23) hx hb hts inX5 hown hK hP 0 rfl rfl 3 (by decide) (hts _ mw_1314) (fun _ h9 => h9) rfl dX5_execute_141 ?_
                  obtain ⟨z18, hz18, hF⟩ := ob_bind hF
                  refine cl_v (csR := []) (csF := [wM g a z18]) (rest := []) hx hb hml hown hts hK hE hA hl hP hD hS (c_X5_keeps_b g l a (mkM (M_g b7) (M_kept b7) (M_saved b7) (M_before b7) (M_trial b7) (M_counted b7) (M_isSaved b7) (M_changes b7) 0 (M_isDenied b7) (M_code b7) (M_why b7) (M_detail b7) (M_cause b7) (M_input b7) (M_length b7) (M_fault b7) (M_signs b7) (M_signMany b7) (M_lastOver b7) (M_at b7) (M_told b7) (M_toldMany b7)) z18 hz18) [0] [] [0] ⟨rfl, rfl, rfl, rfl, rfl, rfl, rfl⟩ ⟨0, 9, _, _, rfl, rfl, rfl⟩ 1 (jb_giV mw_1400 mw_1402 ms_34 mw_10 mw_1403) ⟨rfl, rfl⟩ (by decide +kernel) ⟨⟨(Nat.le_of_ble_eq_true rfl), (Nat.le_of_ble_eq_true rfl)⟩, (Nat.le_of_ble_eq_true rfl), (Nat.le_of_ble_eq_true rfl)⟩ ⟨rfl, rfl⟩ (Nat.le_of_ble_eq_true rfl) dX5_execute_144 (fun H locs hP hD hS => ?_)
                  refine lv_aload_n hx hb dX5_execute_147 rfl (lv_at hl 0 rfl) ?_
                  refine va_get (D := g.1) (ci := 9) (v := .int (M_toldMany z18)) (C := RX5) (T := TX5) (N := 23) hx hb hts inX5 hown hK hP 0 rfl rfl 22 (by decide) (hts _ mw_1333) (fun _ h9 => h9) rfl dX5_execute_148 ?_
                  cases hF
                  rw [hQ]
                  exact jb_iret hx hb hr hlocks hP hD hS dX5_execute_151 rfl (Nat.le_of_ble_eq_true rfl) (Nat.le_of_ble_eq_true rfl)
                · have hF := ob_neg c17 hF
                  refine lv_aload_n hx hb dX5_execute_110 rfl (lv_at hl 0 rfl) ?_
                  refine va_get (D := g.1) (ci := 9) (v := .ref (a 4)) (C := RX5) (T := TX5) (N := 23) hx hb hts inX5 hown hK hP 0 rfl rfl 3 (by decide) (hts _ mw_1314) (fun _ h9 => h9) rfl dX5_execute_111 ?_
                  refine lv_iconst (v := 0) hx hb dX5_execute_114 (by decide) ?_
                  refine lv_aload_n hx hb dX5_execute_115 rfl (lv_at hl 0 rfl) ?_
                  refine va_get (D := g.1) (ci := 9) (v := .ref (a 1)) (C := RX5) (T := TX5) (N := 23) hx hb hts inX5 hown hK hP 0 rfl rfl 0 (by decide) (hts _ mw_1311) (fun _ h9 => h9) rfl dX5_execute_116 ?_
                  refine lv_iconst (v := 0) hx hb dX5_execute_119 (by decide) ?_
                  obtain ⟨z19, hz19, hF⟩ := ob_bind hF
                  have hP : va_P g.1 vwCl ([[(a 0, .inr (9, [.ref (a 1), .ref (a 2), .ref (a 3), .ref (a 4), .ref (a 5), .ref (a 6), .int (M_isSaved b7), .int (M_changes b7), .int 0, .int (M_isDenied b7), .int (M_code b7), .int (M_why b7), .int (M_detail b7), .int (M_cause b7), .ref (a 7), .int (M_length b7), .int (M_fault b7), .ref (a 8), .int (M_signMany b7), .int (M_lastOver b7), .int (M_at b7), .ref (a 9), .int (M_toldMany b7)]))], [(a 1, .inl (g.2.1 0, 83, .inl (M_g b7)))], [(a 2, .inl (g.2.1 0, 664, .inl (M_kept b7)))], [(a 3, .inl (g.2.1 0, 83, .inl (M_saved b7)))], [(a 4, .inl (g.2.1 0, 83, .inl (M_before b7)))], [(a 5, .inl (g.2.1 0, 83, .inl (M_trial b7)))], [(a 6, .inl (g.2.1 0, 10, .inl (M_counted b7)))], [(a 7, .inl (g.2.1 0, 60, .inl (M_input b7)))], [(a 8, .inl (g.2.1 1, 200, .inl (M_signs b7)))], [(a 9, .inl (g.2.1 0, 93, .inl (M_told b7)))]] : List va_W).flatten _ := hP
                  have hD : va_D A ([[(a 0, .inr (9, [.ref (a 1), .ref (a 2), .ref (a 3), .ref (a 4), .ref (a 5), .ref (a 6), .int (M_isSaved b7), .int (M_changes b7), .int 0, .int (M_isDenied b7), .int (M_code b7), .int (M_why b7), .int (M_detail b7), .int (M_cause b7), .ref (a 7), .int (M_length b7), .int (M_fault b7), .ref (a 8), .int (M_signMany b7), .int (M_lastOver b7), .int (M_at b7), .ref (a 9), .int (M_toldMany b7)]))], [(a 1, .inl (g.2.1 0, 83, .inl (M_g b7)))], [(a 2, .inl (g.2.1 0, 664, .inl (M_kept b7)))], [(a 3, .inl (g.2.1 0, 83, .inl (M_saved b7)))], [(a 4, .inl (g.2.1 0, 83, .inl (M_before b7)))], [(a 5, .inl (g.2.1 0, 83, .inl (M_trial b7)))], [(a 6, .inl (g.2.1 0, 10, .inl (M_counted b7)))], [(a 7, .inl (g.2.1 0, 60, .inl (M_input b7)))], [(a 8, .inl (g.2.1 1, 200, .inl (M_signs b7)))], [(a 9, .inl (g.2.1 0, 93, .inl (M_told b7)))]] : List va_W).flatten := hD
                  refine cl_sv (csR := [[(a 0, .inr (9, [.ref (a 1), .ref (a 2), .ref (a 3), .ref (a 4), .ref (a 5), .ref (a 6), .int (M_isSaved b7), .int (M_changes b7), .int 0, .int (M_isDenied b7), .int (M_code b7), .int (M_why b7), .int (M_detail b7), .int (M_cause b7), .ref (a 7), .int (M_length b7), .int (M_fault b7), .ref (a 8), .int (M_signMany b7), .int (M_lastOver b7), .int (M_at b7), .ref (a 9), .int (M_toldMany b7)]))], [(a 2, .inl (g.2.1 0, 664, .inl (M_kept b7)))], [(a 3, .inl (g.2.1 0, 83, .inl (M_saved b7)))], [(a 5, .inl (g.2.1 0, 83, .inl (M_trial b7)))], [(a 6, .inl (g.2.1 0, 10, .inl (M_counted b7)))], [(a 7, .inl (g.2.1 0, 60, .inl (M_input b7)))], [(a 8, .inl (g.2.1 1, 200, .inl (M_signs b7)))], [(a 9, .inl (g.2.1 0, 93, .inl (M_told b7)))]]) (csF := [[(a 0, .inr (9, [.ref (a 1), .ref (a 2), .ref (a 3), .ref (a 4), .ref (a 5), .ref (a 6), .int (M_isSaved b7), .int (M_changes b7), .int 0, .int (M_isDenied b7), .int (M_code b7), .int (M_why b7), .int (M_detail b7), .int (M_cause b7), .ref (a 7), .int (M_length b7), .int (M_fault b7), .ref (a 8), .int (M_signMany b7), .int (M_lastOver b7), .int (M_at b7), .ref (a 9), .int (M_toldMany b7)]))], [(a 1, .inl (g.2.1 0, 83, .inl z19))], [(a 2, .inl (g.2.1 0, 664, .inl (M_kept b7)))], [(a 3, .inl (g.2.1 0, 83, .inl (M_saved b7)))], [(a 4, .inl (g.2.1 0, 83, .inl (M_before b7)))], [(a 5, .inl (g.2.1 0, 83, .inl (M_trial b7)))], [(a 6, .inl (g.2.1 0, 10, .inl (M_counted b7)))], [(a 7, .inl (g.2.1 0, 60, .inl (M_input b7)))], [(a 8, .inl (g.2.1 1, 200, .inl (M_signs b7)))], [(a 9, .inl (g.2.1 0, 93, .inl (M_told b7)))]]) (rest := []) hx hb hml hown hts hK hE hA hl hP hD hS (c_X5_copies g l (fun _ => a 4) 83 (fun _ => a 1) 83 (M_before b7) (M_g b7) 0 0 z19 hz19) [4, 1] [0, 2, 3, 5, 6, 7, 8, 9] [0, 9, 1, 2, 8, 3, 4, 5, 6, 7] ⟨rfl, rfl, rfl, rfl, rfl, rfl, rfl⟩ 4 (jb_giS mw_1404 mw_1405 mw_10 mw_1406) ⟨rfl, rfl⟩ (by decide +kernel) ⟨⟨(Nat.le_of_ble_eq_true rfl), (Nat.le_of_ble_eq_true rfl)⟩, (Nat.le_of_ble_eq_true rfl), (Nat.le_of_ble_eq_true rfl)⟩ ⟨rfl, rfl⟩ (Nat.le_of_ble_eq_true rfl) dX5_execute_120 (fun H locs hP hD hS => ?_)
                  have hP : va_P g.1 vwCl ([wMc g a z19 (M_kept b7) (M_saved b7) (M_before b7) (M_trial b7) (M_counted b7) (M_isSaved b7) (M_changes b7) 0 (M_isDenied b7) (M_code b7) (M_why b7) (M_detail b7) (M_cause b7) (M_input b7) (M_length b7) (M_fault b7) (M_signs b7) (M_signMany b7) (M_lastOver b7) (M_at b7) (M_told b7) (M_toldMany b7)] : List va_W).flatten _ := hP
                  have hD : va_D A ([wMc g a z19 (M_kept b7) (M_saved b7) (M_before b7) (M_trial b7) (M_counted b7) (M_isSaved b7) (M_changes b7) 0 (M_isDenied b7) (M_code b7) (M_why b7) (M_detail b7) (M_cause b7) (M_input b7) (M_length b7) (M_fault b7) (M_signs b7) (M_signMany b7) (M_lastOver b7) (M_at b7) (M_told b7) (M_toldMany b7)] : List va_W).flatten := hD
                  refine lv_aload_n hx hb dX5_execute_123 rfl (lv_at hl 0 rfl) ?_
                  refine lv_iload_n hx hb dX5_execute_124 rfl (lv_at hl 1 rfl) ?_
                  obtain ⟨z20, hz20, hF⟩ := ob_bind hF
                  refine cl_i (csR := []) (csF := [wM g a z20.2]) (rest := []) hx hb hml hown hts hK hE hA hl hP hD hS (c_X5_deniesText g l a (mkM z19 (M_kept b7) (M_saved b7) (M_before b7) (M_trial b7) (M_counted b7) (M_isSaved b7) (M_changes b7) 0 (M_isDenied b7) (M_code b7) (M_why b7) (M_detail b7) (M_cause b7) (M_input b7) (M_length b7) (M_fault b7) (M_signs b7) (M_signMany b7) (M_lastOver b7) (M_at b7) (M_told b7) (M_toldMany b7)) x8 z20 hz20) [0] [] [0] ⟨rfl, rfl, rfl, rfl, rfl, rfl, rfl⟩ ⟨0, 9, _, _, rfl, rfl, rfl⟩ 1 (jb_giV mw_1698 mw_1700 ms_67 mw_10 mw_1701) ⟨rfl, rfl⟩ (by decide +kernel) ⟨⟨(Nat.le_of_ble_eq_true rfl), (Nat.le_of_ble_eq_true rfl)⟩, (Nat.le_of_ble_eq_true rfl), (Nat.le_of_ble_eq_true rfl)⟩ ⟨rfl, rfl⟩ (Nat.le_of_ble_eq_true rfl) dX5_execute_125 (fun H locs hP hD hS => ?_)
                  refine lv_iload_n hx hb dX5_execute_128 rfl (lv_at hl 2 rfl) ?_
                  refine lv_if_le (tgt := 136) hx hb dX5_execute_129 (by decide) (fun c21 => ?_) (fun c21 => ?_)
                  · have hF := ob_pos c21 hF
                    refine lv_iload_n hx hb dX5_execute_136 rfl (lv_at hl 2 rfl) ?_
                    refine lv_iadd hx hb dX5_execute_137 ?_
                    cases hF
                    rw [hQ]
                    exact jb_iret hx hb hr hlocks hP hD hS dX5_execute_138 rfl (Nat.le_of_ble_eq_true rfl) (Nat.le_of_ble_eq_true rfl)
                  · have hF := ob_neg c21 hF
                    refine lv_iconst (v := 0) hx hb dX5_execute_132 (by decide) ?_
                    refine lv_goto (tgt := 137) hx hb dX5_execute_133 (by decide) ?_
                    refine lv_iadd hx hb dX5_execute_137 ?_
                    cases hF
                    rw [hQ]
                    exact jb_iret hx hb hr hlocks hP hD hS dX5_execute_138 rfl (Nat.le_of_ble_eq_true rfl) (Nat.le_of_ble_eq_true rfl)
              · have hF := ob_nneg c16 hF
                refine lv_aload_n hx hb dX5_execute_77 rfl (lv_at hl 0 rfl) ?_
                refine lv_iconst (v := 3) hx hb dX5_execute_78 (by decide) ?_
                refine lv_iload_n hx hb dX5_execute_79 rfl (lv_at hl 1 rfl) ?_
                refine lv_imul hx hb dX5_execute_80 ?_
                obtain ⟨z22, hz22, hF⟩ := ob_bind hF
                refine cl_i (csR := []) (csF := [wM g a z22.2]) (rest := []) hx hb hml hown hts hK hE hA hl hP hD hS (c_X5_carries g l a b7 (3 * x8) z22 hz22) [0] [] [0] ⟨rfl, rfl, rfl, rfl, rfl, rfl, rfl⟩ ⟨0, 9, _, _, rfl, rfl, rfl⟩ 1 (jb_giV mw_1687 mw_1689 ms_66 mw_10 mw_1690) ⟨rfl, rfl⟩ (by decide +kernel) ⟨⟨(Nat.le_of_ble_eq_true rfl), (Nat.le_of_ble_eq_true rfl)⟩, (Nat.le_of_ble_eq_true rfl), (Nat.le_of_ble_eq_true rfl)⟩ ⟨rfl, rfl⟩ (Nat.le_of_ble_eq_true rfl) dX5_execute_81 (fun H locs hP hD hS => ?_)
                refine lv_istore_n (lv' := [(3, .int z22.1), (0, .ref (a 0)), (2, .int x8)]) hx hb dX5_execute_84 rfl hl (by decide) rfl (fun ls hl => ?_)
                refine lv_aload_n hx hb dX5_execute_85 rfl (lv_at hl 1 rfl) ?_
                refine va_get (D := g.1) (ci := 9) (v := .int (M_code z22.2)) (C := RX5) (T := TX5) (N := 23) hx hb hts inX5 hown hK hP 0 rfl rfl 10 (by decide) (hts _ mw_1321) (fun _ h9 => h9) rfl dX5_execute_86 ?_
                refine lv_if_ne (tgt := 62) hx hb dX5_execute_89 (by decide) (fun c23 => ?_) (fun c23 => ?_)
                · have hF := ob_pos c23 hF
                  exact ih9 _ _ _ hF _ _ hP hD hS ls (lv_sub hl [1, 2, 0] rfl)
                · have hF := ob_nneg c23 hF
                  refine lv_iinc (v := x8 + 1) (lv' := [(2, .int (x8 + 1)), (3, .int z22.1), (0, .ref (a 0))]) hx hb dX5_execute_92 hl (k := 2) rfl (by rfl) (by decide) rfl (fun ls hl => ?_)
                  refine lv_goto (tgt := 62) hx hb dX5_execute_95 (by decide) ?_
                  exact ih9 _ _ _ hF _ _ hP hD hS ls (lv_sub hl [2, 0, 1] rfl)
        exact loop9 1000 _ _ _ hF _ _ hP hD hS ls (lv_sub hl [3, 1, 0] rfl)
      · have hF := ob_neg c5 hF
        refine lv_iconst (v := 0) hx hb dX5_execute_38 (by decide) ?_
        cases hF
        rw [hQ]
        exact jb_iret hx hb hr hlocks hP hD hS dX5_execute_39 rfl (Nat.le_of_ble_eq_true rfl) (Nat.le_of_ble_eq_true rfl)
    · have hF := ob_neg c3 hF
      refine lv_iconst (v := 0) hx hb dX5_execute_27 (by decide) ?_
      refine lv_goto (tgt := 32) hx hb dX5_execute_28 (by decide) ?_
      obtain ⟨z24, hz24, hF⟩ := ob_bind hF
      refine cl_i (csR := []) (csF := [wM g a z24.2]) (rest := []) hx hb hml hown hts hK hE hA hl hP hD hS (c_X5_fails g l a (mkM (M_g z1.2) (M_kept z1.2) (M_saved z1.2) (M_before z1.2) (M_trial z1.2) (M_counted z1.2) (M_isSaved z1.2) (M_changes z1.2) (M_isWithin z1.2) (M_isDenied z1.2) (M_code z1.2) (M_why z1.2) (M_detail z1.2) (M_cause z1.2) (M_input z1.2) 0 (M_fault z1.2) (M_signs z1.2) (M_signMany z1.2) (M_lastOver z1.2) (M_at z1.2) (M_told z1.2) (M_toldMany z1.2)) 0 z24 hz24) [0] [] [0] ⟨rfl, rfl, rfl, rfl, rfl, rfl, rfl⟩ ⟨0, 9, _, _, rfl, rfl, rfl⟩ 1 (jb_giV mw_1392 mw_1394 ms_32 mw_10 mw_1395) ⟨rfl, rfl⟩ (by decide +kernel) ⟨⟨(Nat.le_of_ble_eq_true rfl), (Nat.le_of_ble_eq_true rfl)⟩, (Nat.le_of_ble_eq_true rfl), (Nat.le_of_ble_eq_true rfl)⟩ ⟨rfl, rfl⟩ (Nat.le_of_ble_eq_true rfl) dX5_execute_32 (fun H locs hP hD hS => ?_)
      refine lv_if_eq (tgt := 40) hx hb dX5_execute_35 (by decide) (fun c25 => ?_) (fun c25 => ?_)
      · have hF := ob_pos c25 hF
        refine lv_aload_n hx hb dX5_execute_40 rfl (lv_at hl 1 rfl) ?_
        refine va_get (D := g.1) (ci := 9) (v := .ref (a 1)) (C := RX5) (T := TX5) (N := 23) hx hb hts inX5 hown hK hP 0 rfl rfl 0 (by decide) (hts _ mw_1311) (fun _ h9 => h9) rfl dX5_execute_41 ?_
        refine lv_iconst (v := 0) hx hb dX5_execute_44 (by decide) ?_
        refine lv_aload_n hx hb dX5_execute_45 rfl (lv_at hl 1 rfl) ?_
        refine va_get (D := g.1) (ci := 9) (v := .ref (a 4)) (C := RX5) (T := TX5) (N := 23) hx hb hts inX5 hown hK hP 0 rfl rfl 3 (by decide) (hts _ mw_1314) (fun _ h9 => h9) rfl dX5_execute_46 ?_
        refine lv_iconst (v := 0) hx hb dX5_execute_49 (by decide) ?_
        obtain ⟨z26, hz26, hF⟩ := ob_bind hF
        have hP : va_P g.1 vwCl ([[(a 0, .inr (9, [.ref (a 1), .ref (a 2), .ref (a 3), .ref (a 4), .ref (a 5), .ref (a 6), .int (M_isSaved z24.2), .int (M_changes z24.2), .int (M_isWithin z24.2), .int (M_isDenied z24.2), .int (M_code z24.2), .int (M_why z24.2), .int (M_detail z24.2), .int (M_cause z24.2), .ref (a 7), .int (M_length z24.2), .int (M_fault z24.2), .ref (a 8), .int (M_signMany z24.2), .int (M_lastOver z24.2), .int (M_at z24.2), .ref (a 9), .int (M_toldMany z24.2)]))], [(a 1, .inl (g.2.1 0, 83, .inl (M_g z24.2)))], [(a 2, .inl (g.2.1 0, 664, .inl (M_kept z24.2)))], [(a 3, .inl (g.2.1 0, 83, .inl (M_saved z24.2)))], [(a 4, .inl (g.2.1 0, 83, .inl (M_before z24.2)))], [(a 5, .inl (g.2.1 0, 83, .inl (M_trial z24.2)))], [(a 6, .inl (g.2.1 0, 10, .inl (M_counted z24.2)))], [(a 7, .inl (g.2.1 0, 60, .inl (M_input z24.2)))], [(a 8, .inl (g.2.1 1, 200, .inl (M_signs z24.2)))], [(a 9, .inl (g.2.1 0, 93, .inl (M_told z24.2)))]] : List va_W).flatten _ := hP
        have hD : va_D A ([[(a 0, .inr (9, [.ref (a 1), .ref (a 2), .ref (a 3), .ref (a 4), .ref (a 5), .ref (a 6), .int (M_isSaved z24.2), .int (M_changes z24.2), .int (M_isWithin z24.2), .int (M_isDenied z24.2), .int (M_code z24.2), .int (M_why z24.2), .int (M_detail z24.2), .int (M_cause z24.2), .ref (a 7), .int (M_length z24.2), .int (M_fault z24.2), .ref (a 8), .int (M_signMany z24.2), .int (M_lastOver z24.2), .int (M_at z24.2), .ref (a 9), .int (M_toldMany z24.2)]))], [(a 1, .inl (g.2.1 0, 83, .inl (M_g z24.2)))], [(a 2, .inl (g.2.1 0, 664, .inl (M_kept z24.2)))], [(a 3, .inl (g.2.1 0, 83, .inl (M_saved z24.2)))], [(a 4, .inl (g.2.1 0, 83, .inl (M_before z24.2)))], [(a 5, .inl (g.2.1 0, 83, .inl (M_trial z24.2)))], [(a 6, .inl (g.2.1 0, 10, .inl (M_counted z24.2)))], [(a 7, .inl (g.2.1 0, 60, .inl (M_input z24.2)))], [(a 8, .inl (g.2.1 1, 200, .inl (M_signs z24.2)))], [(a 9, .inl (g.2.1 0, 93, .inl (M_told z24.2)))]] : List va_W).flatten := hD
        refine cl_sv (csR := [[(a 0, .inr (9, [.ref (a 1), .ref (a 2), .ref (a 3), .ref (a 4), .ref (a 5), .ref (a 6), .int (M_isSaved z24.2), .int (M_changes z24.2), .int (M_isWithin z24.2), .int (M_isDenied z24.2), .int (M_code z24.2), .int (M_why z24.2), .int (M_detail z24.2), .int (M_cause z24.2), .ref (a 7), .int (M_length z24.2), .int (M_fault z24.2), .ref (a 8), .int (M_signMany z24.2), .int (M_lastOver z24.2), .int (M_at z24.2), .ref (a 9), .int (M_toldMany z24.2)]))], [(a 2, .inl (g.2.1 0, 664, .inl (M_kept z24.2)))], [(a 3, .inl (g.2.1 0, 83, .inl (M_saved z24.2)))], [(a 5, .inl (g.2.1 0, 83, .inl (M_trial z24.2)))], [(a 6, .inl (g.2.1 0, 10, .inl (M_counted z24.2)))], [(a 7, .inl (g.2.1 0, 60, .inl (M_input z24.2)))], [(a 8, .inl (g.2.1 1, 200, .inl (M_signs z24.2)))], [(a 9, .inl (g.2.1 0, 93, .inl (M_told z24.2)))]]) (csF := [[(a 0, .inr (9, [.ref (a 1), .ref (a 2), .ref (a 3), .ref (a 4), .ref (a 5), .ref (a 6), .int (M_isSaved z24.2), .int (M_changes z24.2), .int (M_isWithin z24.2), .int (M_isDenied z24.2), .int (M_code z24.2), .int (M_why z24.2), .int (M_detail z24.2), .int (M_cause z24.2), .ref (a 7), .int (M_length z24.2), .int (M_fault z24.2), .ref (a 8), .int (M_signMany z24.2), .int (M_lastOver z24.2), .int (M_at z24.2), .ref (a 9), .int (M_toldMany z24.2)]))], [(a 1, .inl (g.2.1 0, 83, .inl (M_g z24.2)))], [(a 2, .inl (g.2.1 0, 664, .inl (M_kept z24.2)))], [(a 3, .inl (g.2.1 0, 83, .inl (M_saved z24.2)))], [(a 4, .inl (g.2.1 0, 83, .inl z26))], [(a 5, .inl (g.2.1 0, 83, .inl (M_trial z24.2)))], [(a 6, .inl (g.2.1 0, 10, .inl (M_counted z24.2)))], [(a 7, .inl (g.2.1 0, 60, .inl (M_input z24.2)))], [(a 8, .inl (g.2.1 1, 200, .inl (M_signs z24.2)))], [(a 9, .inl (g.2.1 0, 93, .inl (M_told z24.2)))]]) (rest := []) hx hb hml hown hts hK hE hA hl hP hD hS (c_X5_copies g l (fun _ => a 1) 83 (fun _ => a 4) 83 (M_g z24.2) (M_before z24.2) 0 0 z26 hz26) [1, 4] [0, 2, 3, 5, 6, 7, 8, 9] [0, 8, 1, 2, 9, 3, 4, 5, 6, 7] ⟨rfl, rfl, rfl, rfl, rfl, rfl, rfl⟩ 4 (jb_giS mw_1404 mw_1405 mw_10 mw_1406) ⟨rfl, rfl⟩ (by decide +kernel) ⟨⟨(Nat.le_of_ble_eq_true rfl), (Nat.le_of_ble_eq_true rfl)⟩, (Nat.le_of_ble_eq_true rfl), (Nat.le_of_ble_eq_true rfl)⟩ ⟨rfl, rfl⟩ (Nat.le_of_ble_eq_true rfl) dX5_execute_50 (fun H locs hP hD hS => ?_)
        have hP : va_P g.1 vwCl ([wMc g a (M_g z24.2) (M_kept z24.2) (M_saved z24.2) z26 (M_trial z24.2) (M_counted z24.2) (M_isSaved z24.2) (M_changes z24.2) (M_isWithin z24.2) (M_isDenied z24.2) (M_code z24.2) (M_why z24.2) (M_detail z24.2) (M_cause z24.2) (M_input z24.2) (M_length z24.2) (M_fault z24.2) (M_signs z24.2) (M_signMany z24.2) (M_lastOver z24.2) (M_at z24.2) (M_told z24.2) (M_toldMany z24.2)] : List va_W).flatten _ := hP
        have hD : va_D A ([wMc g a (M_g z24.2) (M_kept z24.2) (M_saved z24.2) z26 (M_trial z24.2) (M_counted z24.2) (M_isSaved z24.2) (M_changes z24.2) (M_isWithin z24.2) (M_isDenied z24.2) (M_code z24.2) (M_why z24.2) (M_detail z24.2) (M_cause z24.2) (M_input z24.2) (M_length z24.2) (M_fault z24.2) (M_signs z24.2) (M_signMany z24.2) (M_lastOver z24.2) (M_at z24.2) (M_told z24.2) (M_toldMany z24.2)] : List va_W).flatten := hD
        refine lv_aload_n hx hb dX5_execute_53 rfl (lv_at hl 1 rfl) ?_
        refine lv_iconst (v := 1) hx hb dX5_execute_54 (by decide) ?_
        refine va_put (D := g.1) (ci := 9) (v := .int 1) (ty := .boolean) (C := RX5) (T := TX5) (N := 23) hx hb hts inX5 tyX5 tyX5_ok nmX5 hown hK hP hD hS 0 rfl rfl 8 (by decide) (hts _ mw_1319) (fun _ h9 => h9) rfl (by decide +kernel) rfl rfl (Nat.le_of_ble_eq_true rfl) dX5_execute_55 (fun H locs hP hD hS => ?_)
        have hP : va_P g.1 vwCl ([wMc g a (M_g z24.2) (M_kept z24.2) (M_saved z24.2) z26 (M_trial z24.2) (M_counted z24.2) (M_isSaved z24.2) (M_changes z24.2) 1 (M_isDenied z24.2) (M_code z24.2) (M_why z24.2) (M_detail z24.2) (M_cause z24.2) (M_input z24.2) (M_length z24.2) (M_fault z24.2) (M_signs z24.2) (M_signMany z24.2) (M_lastOver z24.2) (M_at z24.2) (M_told z24.2) (M_toldMany z24.2)] : List va_W).flatten _ := hP
        have hD : va_D A ([wMc g a (M_g z24.2) (M_kept z24.2) (M_saved z24.2) z26 (M_trial z24.2) (M_counted z24.2) (M_isSaved z24.2) (M_changes z24.2) 1 (M_isDenied z24.2) (M_code z24.2) (M_why z24.2) (M_detail z24.2) (M_cause z24.2) (M_input z24.2) (M_length z24.2) (M_fault z24.2) (M_signs z24.2) (M_signMany z24.2) (M_lastOver z24.2) (M_at z24.2) (M_told z24.2) (M_toldMany z24.2)] : List va_W).flatten := hD
        refine lv_iconst (v := 0) hx hb dX5_execute_58 (by decide) ?_
        refine lv_istore_n (lv' := [(2, .int 0), (1, .int (bi z1.1)), (0, .ref (a 0))]) hx hb dX5_execute_59 rfl hl (by decide) rfl (fun ls hl => ?_)
        refine lv_iconst (v := 0) hx hb dX5_execute_60 (by decide) ?_
        refine lv_istore_n (lv' := [(3, .int 0), (2, .int 0), (1, .int (bi z1.1)), (0, .ref (a 0))]) hx hb dX5_execute_61 rfl hl (by decide) rfl (fun ls hl => ?_)
        obtain ⟨k29, ek29, hF⟩ := ob_k (F := fun k9 => F_X5_execute_L62  k9 1000 (mkM (M_g z24.2) (M_kept z24.2) (M_saved z24.2) z26 (M_trial z24.2) (M_counted z24.2) (M_isSaved z24.2) (M_changes z24.2) 1 (M_isDenied z24.2) (M_code z24.2) (M_why z24.2) (M_detail z24.2) (M_cause z24.2) (M_input z24.2) (M_length z24.2) (M_fault z24.2) (M_signs z24.2) (M_signMany z24.2) (M_lastOver z24.2) (M_at z24.2) (M_told z24.2) (M_toldMany z24.2)) 0 0) hF
        have loop29 : ∀ (n9 : Nat) (b27 : Mv) (x28 : Int32) (x29 : Int32), F_X5_execute_L62  k29 n9 b27 x28 x29 = some z → ∀ (H : Heap) (locs : List Loc), va_P g.1 vwCl ([wM g a b27] : List va_W).flatten H → va_D A ([wM g a b27] : List va_W).flatten → va_S A s.heap H locs → ∀ ls : Array Slot, lv_has ls 4 [(0, .ref (a 0)), (2, .int x28), (3, .int x29)] → W p l e ({ frames := 8, cells := 0, slots := 0, locals := 176 } : Room) s m ([.ref (a 0)] : List Value).toArray below meth c H locs 0 0 Q (F0 m 62 ls []) := by
          intro n9
          induction n9 with
          | zero => intro b27 x28 x29 hF; rw [F_X5_execute_L62] at hF; cases hF
          | succ n9 ih29 =>
            intro b27 x28 x29 hF H locs hP hD hS ls hl
            rw [F_X5_execute_L62] at hF
            refine lv_iload_n hx hb dX5_execute_62 rfl (lv_at hl 1 rfl) ?_
            refine lv_aload_n hx hb dX5_execute_63 rfl (lv_at hl 0 rfl) ?_
            refine va_get (D := g.1) (ci := 9) (v := .int (M_toldMany b27)) (C := RX5) (T := TX5) (N := 23) hx hb hts inX5 hown hK hP 0 rfl rfl 22 (by decide) (hts _ mw_1333) (fun _ h9 => h9) rfl dX5_execute_64 ?_
            refine lv_icmp_ge (tgt := 98) hx hb dX5_execute_67 (by decide) (fun c30 => ?_) (fun c30 => ?_)
            · have hF := ob_pos c30 hF
              rw [ek29] at hF
              refine lv_aload_n hx hb dX5_execute_98 rfl (lv_at hl 0 rfl) ?_
              refine lv_iconst (v := 0) hx hb dX5_execute_99 (by decide) ?_
              refine va_put (D := g.1) (ci := 9) (v := .int 0) (ty := .boolean) (C := RX5) (T := TX5) (N := 23) hx hb hts inX5 tyX5 tyX5_ok nmX5 hown hK hP hD hS 0 rfl rfl 8 (by decide) (hts _ mw_1319) (fun _ h9 => h9) rfl (by decide +kernel) rfl rfl (Nat.le_of_ble_eq_true rfl) dX5_execute_100 (fun H locs hP hD hS => ?_)
              have hP : va_P g.1 vwCl ([wMc g a (M_g b27) (M_kept b27) (M_saved b27) (M_before b27) (M_trial b27) (M_counted b27) (M_isSaved b27) (M_changes b27) 0 (M_isDenied b27) (M_code b27) (M_why b27) (M_detail b27) (M_cause b27) (M_input b27) (M_length b27) (M_fault b27) (M_signs b27) (M_signMany b27) (M_lastOver b27) (M_at b27) (M_told b27) (M_toldMany b27)] : List va_W).flatten _ := hP
              have hD : va_D A ([wMc g a (M_g b27) (M_kept b27) (M_saved b27) (M_before b27) (M_trial b27) (M_counted b27) (M_isSaved b27) (M_changes b27) 0 (M_isDenied b27) (M_code b27) (M_why b27) (M_detail b27) (M_cause b27) (M_input b27) (M_length b27) (M_fault b27) (M_signs b27) (M_signMany b27) (M_lastOver b27) (M_at b27) (M_told b27) (M_toldMany b27)] : List va_W).flatten := hD
              refine lv_aload_n hx hb dX5_execute_103 rfl (lv_at hl 0 rfl) ?_
              refine va_get (D := g.1) (ci := 9) (v := .int (M_code b27)) (C := RX5) (T := TX5) (N := 23) hx hb hts inX5 hown hK hP 0 rfl rfl 10 (by decide) (hts _ mw_1321) (fun _ h9 => h9) rfl dX5_execute_104 ?_
              refine lv_if_le (tgt := 139) hx hb dX5_execute_107 (by decide) (fun c31 => ?_) (fun c31 => ?_)
              · have hF := ob_pos c31 hF
                refine lv_aload_n hx hb dX5_execute_139 rfl (lv_at hl 0 rfl) ?_
                refine lv_aload_n hx hb dX5_execute_140 rfl (lv_at hl 0 rfl) ?_
                refine va_get (D := g.1) (ci := 9) (v := .ref (a 4)) (C := RX5) (T := TX5) (N := 23) hx hb hts inX5 hown hK hP 0 rfl rfl 3 (by decide) (hts _ mw_1314) (fun _ h9 => h9) rfl dX5_execute_141 ?_
                obtain ⟨z32, hz32, hF⟩ := ob_bind hF
                refine cl_v (csR := []) (csF := [wM g a z32]) (rest := []) hx hb hml hown hts hK hE hA hl hP hD hS (c_X5_keeps_b g l a (mkM (M_g b27) (M_kept b27) (M_saved b27) (M_before b27) (M_trial b27) (M_counted b27) (M_isSaved b27) (M_changes b27) 0 (M_isDenied b27) (M_code b27) (M_why b27) (M_detail b27) (M_cause b27) (M_input b27) (M_length b27) (M_fault b27) (M_signs b27) (M_signMany b27) (M_lastOver b27) (M_at b27) (M_told b27) (M_toldMany b27)) z32 hz32) [0] [] [0] ⟨rfl, rfl, rfl, rfl, rfl, rfl, rfl⟩ ⟨0, 9, _, _, rfl, rfl, rfl⟩ 1 (jb_giV mw_1400 mw_1402 ms_34 mw_10 mw_1403) ⟨rfl, rfl⟩ (by decide +kernel) ⟨⟨(Nat.le_of_ble_eq_true rfl), (Nat.le_of_ble_eq_true rfl)⟩, (Nat.le_of_ble_eq_true rfl), (Nat.le_of_ble_eq_true rfl)⟩ ⟨rfl, rfl⟩ (Nat.le_of_ble_eq_true rfl) dX5_execute_144 (fun H locs hP hD hS => ?_)
                refine lv_aload_n hx hb dX5_execute_147 rfl (lv_at hl 0 rfl) ?_
                refine va_get (D := g.1) (ci := 9) (v := .int (M_toldMany z32)) (C := RX5) (T := TX5) (N := 23) hx hb hts inX5 hown hK hP 0 rfl rfl 22 (by decide) (hts _ mw_1333) (fun _ h9 => h9) rfl dX5_execute_148 ?_
                cases hF
                rw [hQ]
                exact jb_iret hx hb hr hlocks hP hD hS dX5_execute_151 rfl (Nat.le_of_ble_eq_true rfl) (Nat.le_of_ble_eq_true rfl)
              · have hF := ob_neg c31 hF
                refine lv_aload_n hx hb dX5_execute_110 rfl (lv_at hl 0 rfl) ?_
                refine va_get (D := g.1) (ci := 9) (v := .ref (a 4)) (C := RX5) (T := TX5) (N := 23) hx hb hts inX5 hown hK hP 0 rfl rfl 3 (by decide) (hts _ mw_1314) (fun _ h9 => h9) rfl dX5_execute_111 ?_
                refine lv_iconst (v := 0) hx hb dX5_execute_114 (by decide) ?_
                refine lv_aload_n hx hb dX5_execute_115 rfl (lv_at hl 0 rfl) ?_
                refine va_get (D := g.1) (ci := 9) (v := .ref (a 1)) (C := RX5) (T := TX5) (N := 23) hx hb hts inX5 hown hK hP 0 rfl rfl 0 (by decide) (hts _ mw_1311) (fun _ h9 => h9) rfl dX5_execute_116 ?_
                refine lv_iconst (v := 0) hx hb dX5_execute_119 (by decide) ?_
                obtain ⟨z33, hz33, hF⟩ := ob_bind hF
                have hP : va_P g.1 vwCl ([[(a 0, .inr (9, [.ref (a 1), .ref (a 2), .ref (a 3), .ref (a 4), .ref (a 5), .ref (a 6), .int (M_isSaved b27), .int (M_changes b27), .int 0, .int (M_isDenied b27), .int (M_code b27), .int (M_why b27), .int (M_detail b27), .int (M_cause b27), .ref (a 7), .int (M_length b27), .int (M_fault b27), .ref (a 8), .int (M_signMany b27), .int (M_lastOver b27), .int (M_at b27), .ref (a 9), .int (M_toldMany b27)]))], [(a 1, .inl (g.2.1 0, 83, .inl (M_g b27)))], [(a 2, .inl (g.2.1 0, 664, .inl (M_kept b27)))], [(a 3, .inl (g.2.1 0, 83, .inl (M_saved b27)))], [(a 4, .inl (g.2.1 0, 83, .inl (M_before b27)))], [(a 5, .inl (g.2.1 0, 83, .inl (M_trial b27)))], [(a 6, .inl (g.2.1 0, 10, .inl (M_counted b27)))], [(a 7, .inl (g.2.1 0, 60, .inl (M_input b27)))], [(a 8, .inl (g.2.1 1, 200, .inl (M_signs b27)))], [(a 9, .inl (g.2.1 0, 93, .inl (M_told b27)))]] : List va_W).flatten _ := hP
                have hD : va_D A ([[(a 0, .inr (9, [.ref (a 1), .ref (a 2), .ref (a 3), .ref (a 4), .ref (a 5), .ref (a 6), .int (M_isSaved b27), .int (M_changes b27), .int 0, .int (M_isDenied b27), .int (M_code b27), .int (M_why b27), .int (M_detail b27), .int (M_cause b27), .ref (a 7), .int (M_length b27), .int (M_fault b27), .ref (a 8), .int (M_signMany b27), .int (M_lastOver b27), .int (M_at b27), .ref (a 9), .int (M_toldMany b27)]))], [(a 1, .inl (g.2.1 0, 83, .inl (M_g b27)))], [(a 2, .inl (g.2.1 0, 664, .inl (M_kept b27)))], [(a 3, .inl (g.2.1 0, 83, .inl (M_saved b27)))], [(a 4, .inl (g.2.1 0, 83, .inl (M_before b27)))], [(a 5, .inl (g.2.1 0, 83, .inl (M_trial b27)))], [(a 6, .inl (g.2.1 0, 10, .inl (M_counted b27)))], [(a 7, .inl (g.2.1 0, 60, .inl (M_input b27)))], [(a 8, .inl (g.2.1 1, 200, .inl (M_signs b27)))], [(a 9, .inl (g.2.1 0, 93, .inl (M_told b27)))]] : List va_W).flatten := hD
                refine cl_sv (csR := [[(a 0, .inr (9, [.ref (a 1), .ref (a 2), .ref (a 3), .ref (a 4), .ref (a 5), .ref (a 6), .int (M_isSaved b27), .int (M_changes b27), .int 0, .int (M_isDenied b27), .int (M_code b27), .int (M_why b27), .int (M_detail b27), .int (M_cause b27), .ref (a 7), .int (M_length b27), .int (M_fault b27), .ref (a 8), .int (M_signMany b27), .int (M_lastOver b27), .int (M_at b27), .ref (a 9), .int (M_toldMany b27)]))], [(a 2, .inl (g.2.1 0, 664, .inl (M_kept b27)))], [(a 3, .inl (g.2.1 0, 83, .inl (M_saved b27)))], [(a 5, .inl (g.2.1 0, 83, .inl (M_trial b27)))], [(a 6, .inl (g.2.1 0, 10, .inl (M_counted b27)))], [(a 7, .inl (g.2.1 0, 60, .inl (M_input b27)))], [(a 8, .inl (g.2.1 1, 200, .inl (M_signs b27)))], [(a 9, .inl (g.2.1 0, 93, .inl (M_told b27)))]]) (csF := [[(a 0, .inr (9, [.ref (a 1), .ref (a 2), .ref (a 3), .ref (a 4), .ref (a 5), .ref (a 6), .int (M_isSaved b27), .int (M_changes b27), .int 0, .int (M_isDenied b27), .int (M_code b27), .int (M_why b27), .int (M_detail b27), .int (M_cause b27), .ref (a 7), .int (M_length b27), .int (M_fault b27), .ref (a 8), .int (M_signMany b27), .int (M_lastOver b27), .int (M_at b27), .ref (a 9), .int (M_toldMany b27)]))], [(a 1, .inl (g.2.1 0, 83, .inl z33))], [(a 2, .inl (g.2.1 0, 664, .inl (M_kept b27)))], [(a 3, .inl (g.2.1 0, 83, .inl (M_saved b27)))], [(a 4, .inl (g.2.1 0, 83, .inl (M_before b27)))], [(a 5, .inl (g.2.1 0, 83, .inl (M_trial b27)))], [(a 6, .inl (g.2.1 0, 10, .inl (M_counted b27)))], [(a 7, .inl (g.2.1 0, 60, .inl (M_input b27)))], [(a 8, .inl (g.2.1 1, 200, .inl (M_signs b27)))], [(a 9, .inl (g.2.1 0, 93, .inl (M_told b27)))]]) (rest := []) hx hb hml hown hts hK hE hA hl hP hD hS (c_X5_copies g l (fun _ => a 4) 83 (fun _ => a 1) 83 (M_before b27) (M_g b27) 0 0 z33 hz33) [4, 1] [0, 2, 3, 5, 6, 7, 8, 9] [0, 9, 1, 2, 8, 3, 4, 5, 6, 7] ⟨rfl, rfl, rfl, rfl, rfl, rfl, rfl⟩ 4 (jb_giS mw_1404 mw_1405 mw_10 mw_1406) ⟨rfl, rfl⟩ (by decide +kernel) ⟨⟨(Nat.le_of_ble_eq_true rfl), (Nat.le_of_ble_eq_true rfl)⟩, (Nat.le_of_ble_eq_true rfl), (Nat.le_of_ble_eq_true rfl)⟩ ⟨rfl, rfl⟩ (Nat.le_of_ble_eq_true rfl) dX5_execute_120 (fun H locs hP hD hS => ?_)
                have hP : va_P g.1 vwCl ([wMc g a z33 (M_kept b27) (M_saved b27) (M_before b27) (M_trial b27) (M_counted b27) (M_isSaved b27) (M_changes b27) 0 (M_isDenied b27) (M_code b27) (M_why b27) (M_detail b27) (M_cause b27) (M_input b27) (M_length b27) (M_fault b27) (M_signs b27) (M_signMany b27) (M_lastOver b27) (M_at b27) (M_told b27) (M_toldMany b27)] : List va_W).flatten _ := hP
                have hD : va_D A ([wMc g a z33 (M_kept b27) (M_saved b27) (M_before b27) (M_trial b27) (M_counted b27) (M_isSaved b27) (M_changes b27) 0 (M_isDenied b27) (M_code b27) (M_why b27) (M_detail b27) (M_cause b27) (M_input b27) (M_length b27) (M_fault b27) (M_signs b27) (M_signMany b27) (M_lastOver b27) (M_at b27) (M_told b27) (M_toldMany b27)] : List va_W).flatten := hD
                refine lv_aload_n hx hb dX5_execute_123 rfl (lv_at hl 0 rfl) ?_
                refine lv_iload_n hx hb dX5_execute_124 rfl (lv_at hl 1 rfl) ?_
                obtain ⟨z34, hz34, hF⟩ := ob_bind hF
                refine cl_i (csR := []) (csF := [wM g a z34.2]) (rest := []) hx hb hml hown hts hK hE hA hl hP hD hS (c_X5_deniesText g l a (mkM z33 (M_kept b27) (M_saved b27) (M_before b27) (M_trial b27) (M_counted b27) (M_isSaved b27) (M_changes b27) 0 (M_isDenied b27) (M_code b27) (M_why b27) (M_detail b27) (M_cause b27) (M_input b27) (M_length b27) (M_fault b27) (M_signs b27) (M_signMany b27) (M_lastOver b27) (M_at b27) (M_told b27) (M_toldMany b27)) x28 z34 hz34) [0] [] [0] ⟨rfl, rfl, rfl, rfl, rfl, rfl, rfl⟩ ⟨0, 9, _, _, rfl, rfl, rfl⟩ 1 (jb_giV mw_1698 mw_1700 ms_67 mw_10 mw_1701) ⟨rfl, rfl⟩ (by decide +kernel) ⟨⟨(Nat.le_of_ble_eq_true rfl), (Nat.le_of_ble_eq_true rfl)⟩, (Nat.le_of_ble_eq_true rfl), (Nat.le_of_ble_eq_true rfl)⟩ ⟨rfl, rfl⟩ (Nat.le_of_ble_eq_true rfl) dX5_execute_125 (fun H locs hP hD hS => ?_)
                refine lv_iload_n hx hb dX5_execute_128 rfl (lv_at hl 2 rfl) ?_
                refine lv_if_le (tgt := 136) hx hb dX5_execute_129 (by decide) (fun c35 => ?_) (fun c35 => ?_)
                · have hF := ob_pos c35 hF
                  refine lv_iload_n hx hb dX5_execute_136 rfl (lv_at hl 2 rfl) ?_
                  refine lv_iadd hx hb dX5_execute_137 ?_
                  cases hF
                  rw [hQ]
                  exact jb_iret hx hb hr hlocks hP hD hS dX5_execute_138 rfl (Nat.le_of_ble_eq_true rfl) (Nat.le_of_ble_eq_true rfl)
                · have hF := ob_neg c35 hF
                  refine lv_iconst (v := 0) hx hb dX5_execute_132 (by decide) ?_
                  refine lv_goto (tgt := 137) hx hb dX5_execute_133 (by decide) ?_
                  refine lv_iadd hx hb dX5_execute_137 ?_
                  cases hF
                  rw [hQ]
                  exact jb_iret hx hb hr hlocks hP hD hS dX5_execute_138 rfl (Nat.le_of_ble_eq_true rfl) (Nat.le_of_ble_eq_true rfl)
            · have hF := ob_neg c30 hF
              refine lv_aload_n hx hb dX5_execute_70 rfl (lv_at hl 0 rfl) ?_
              refine va_get (D := g.1) (ci := 9) (v := .int (M_code b27)) (C := RX5) (T := TX5) (N := 23) hx hb hts inX5 hown hK hP 0 rfl rfl 10 (by decide) (hts _ mw_1321) (fun _ h9 => h9) rfl dX5_execute_71 ?_
              refine lv_if_ne (tgt := 98) hx hb dX5_execute_74 (by decide) (fun c36 => ?_) (fun c36 => ?_)
              · have hF := ob_pos c36 hF
                rw [ek29] at hF
                refine lv_aload_n hx hb dX5_execute_98 rfl (lv_at hl 0 rfl) ?_
                refine lv_iconst (v := 0) hx hb dX5_execute_99 (by decide) ?_
                refine va_put (D := g.1) (ci := 9) (v := .int 0) (ty := .boolean) (C := RX5) (T := TX5) (N := 23) hx hb hts inX5 tyX5 tyX5_ok nmX5 hown hK hP hD hS 0 rfl rfl 8 (by decide) (hts _ mw_1319) (fun _ h9 => h9) rfl (by decide +kernel) rfl rfl (Nat.le_of_ble_eq_true rfl) dX5_execute_100 (fun H locs hP hD hS => ?_)
                have hP : va_P g.1 vwCl ([wMc g a (M_g b27) (M_kept b27) (M_saved b27) (M_before b27) (M_trial b27) (M_counted b27) (M_isSaved b27) (M_changes b27) 0 (M_isDenied b27) (M_code b27) (M_why b27) (M_detail b27) (M_cause b27) (M_input b27) (M_length b27) (M_fault b27) (M_signs b27) (M_signMany b27) (M_lastOver b27) (M_at b27) (M_told b27) (M_toldMany b27)] : List va_W).flatten _ := hP
                have hD : va_D A ([wMc g a (M_g b27) (M_kept b27) (M_saved b27) (M_before b27) (M_trial b27) (M_counted b27) (M_isSaved b27) (M_changes b27) 0 (M_isDenied b27) (M_code b27) (M_why b27) (M_detail b27) (M_cause b27) (M_input b27) (M_length b27) (M_fault b27) (M_signs b27) (M_signMany b27) (M_lastOver b27) (M_at b27) (M_told b27) (M_toldMany b27)] : List va_W).flatten := hD
                refine lv_aload_n hx hb dX5_execute_103 rfl (lv_at hl 0 rfl) ?_
                refine va_get (D := g.1) (ci := 9) (v := .int (M_code b27)) (C := RX5) (T := TX5) (N := 23) hx hb hts inX5 hown hK hP 0 rfl rfl 10 (by decide) (hts _ mw_1321) (fun _ h9 => h9) rfl dX5_execute_104 ?_
                refine lv_if_le (tgt := 139) hx hb dX5_execute_107 (by decide) (fun c37 => ?_) (fun c37 => ?_)
                · have hF := ob_pos c37 hF
                  refine lv_aload_n hx hb dX5_execute_139 rfl (lv_at hl 0 rfl) ?_
                  refine lv_aload_n hx hb dX5_execute_140 rfl (lv_at hl 0 rfl) ?_
                  refine va_get (D := g.1) (ci := 9) (v := .ref (a 4)) (C := RX5) (T := TX5) (N := 23) hx hb hts inX5 hown hK hP 0 rfl rfl 3 (by decide) (hts _ mw_1314) (fun _ h9 => h9) rfl dX5_execute_141 ?_
                  obtain ⟨z38, hz38, hF⟩ := ob_bind hF
                  refine cl_v (csR := []) (csF := [wM g a z38]) (rest := []) hx hb hml hown hts hK hE hA hl hP hD hS (c_X5_keeps_b g l a (mkM (M_g b27) (M_kept b27) (M_saved b27) (M_before b27) (M_trial b27) (M_counted b27) (M_isSaved b27) (M_changes b27) 0 (M_isDenied b27) (M_code b27) (M_why b27) (M_detail b27) (M_cause b27) (M_input b27) (M_length b27) (M_fault b27) (M_signs b27) (M_signMany b27) (M_lastOver b27) (M_at b27) (M_told b27) (M_toldMany b27)) z38 hz38) [0] [] [0] ⟨rfl, rfl, rfl, rfl, rfl, rfl, rfl⟩ ⟨0, 9, _, _, rfl, rfl, rfl⟩ 1 (jb_giV mw_1400 mw_1402 ms_34 mw_10 mw_1403) ⟨rfl, rfl⟩ (by decide +kernel) ⟨⟨(Nat.le_of_ble_eq_true rfl), (Nat.le_of_ble_eq_true rfl)⟩, (Nat.le_of_ble_eq_true rfl), (Nat.le_of_ble_eq_true rfl)⟩ ⟨rfl, rfl⟩ (Nat.le_of_ble_eq_true rfl) dX5_execute_144 (fun H locs hP hD hS => ?_)
                  refine lv_aload_n hx hb dX5_execute_147 rfl (lv_at hl 0 rfl) ?_
                  refine va_get (D := g.1) (ci := 9) (v := .int (M_toldMany z38)) (C := RX5) (T := TX5) (N := 23) hx hb hts inX5 hown hK hP 0 rfl rfl 22 (by decide) (hts _ mw_1333) (fun _ h9 => h9) rfl dX5_execute_148 ?_
                  cases hF
                  rw [hQ]
                  exact jb_iret hx hb hr hlocks hP hD hS dX5_execute_151 rfl (Nat.le_of_ble_eq_true rfl) (Nat.le_of_ble_eq_true rfl)
                · have hF := ob_neg c37 hF
                  refine lv_aload_n hx hb dX5_execute_110 rfl (lv_at hl 0 rfl) ?_
                  refine va_get (D := g.1) (ci := 9) (v := .ref (a 4)) (C := RX5) (T := TX5) (N := 23) hx hb hts inX5 hown hK hP 0 rfl rfl 3 (by decide) (hts _ mw_1314) (fun _ h9 => h9) rfl dX5_execute_111 ?_
                  refine lv_iconst (v := 0) hx hb dX5_execute_114 (by decide) ?_
                  refine lv_aload_n hx hb dX5_execute_115 rfl (lv_at hl 0 rfl) ?_
                  refine va_get (D := g.1) (ci := 9) (v := .ref (a 1)) (C := RX5) (T := TX5) (N := 23) hx hb hts inX5 hown hK hP 0 rfl rfl 0 (by decide) (hts _ mw_1311) (fun _ h9 => h9) rfl dX5_execute_116 ?_
                  refine lv_iconst (v := 0) hx hb dX5_execute_119 (by decide) ?_
                  obtain ⟨z39, hz39, hF⟩ := ob_bind hF
                  have hP : va_P g.1 vwCl ([[(a 0, .inr (9, [.ref (a 1), .ref (a 2), .ref (a 3), .ref (a 4), .ref (a 5), .ref (a 6), .int (M_isSaved b27), .int (M_changes b27), .int 0, .int (M_isDenied b27), .int (M_code b27), .int (M_why b27), .int (M_detail b27), .int (M_cause b27), .ref (a 7), .int (M_length b27), .int (M_fault b27), .ref (a 8), .int (M_signMany b27), .int (M_lastOver b27), .int (M_at b27), .ref (a 9), .int (M_toldMany b27)]))], [(a 1, .inl (g.2.1 0, 83, .inl (M_g b27)))], [(a 2, .inl (g.2.1 0, 664, .inl (M_kept b27)))], [(a 3, .inl (g.2.1 0, 83, .inl (M_saved b27)))], [(a 4, .inl (g.2.1 0, 83, .inl (M_before b27)))], [(a 5, .inl (g.2.1 0, 83, .inl (M_trial b27)))], [(a 6, .inl (g.2.1 0, 10, .inl (M_counted b27)))], [(a 7, .inl (g.2.1 0, 60, .inl (M_input b27)))], [(a 8, .inl (g.2.1 1, 200, .inl (M_signs b27)))], [(a 9, .inl (g.2.1 0, 93, .inl (M_told b27)))]] : List va_W).flatten _ := hP
                  have hD : va_D A ([[(a 0, .inr (9, [.ref (a 1), .ref (a 2), .ref (a 3), .ref (a 4), .ref (a 5), .ref (a 6), .int (M_isSaved b27), .int (M_changes b27), .int 0, .int (M_isDenied b27), .int (M_code b27), .int (M_why b27), .int (M_detail b27), .int (M_cause b27), .ref (a 7), .int (M_length b27), .int (M_fault b27), .ref (a 8), .int (M_signMany b27), .int (M_lastOver b27), .int (M_at b27), .ref (a 9), .int (M_toldMany b27)]))], [(a 1, .inl (g.2.1 0, 83, .inl (M_g b27)))], [(a 2, .inl (g.2.1 0, 664, .inl (M_kept b27)))], [(a 3, .inl (g.2.1 0, 83, .inl (M_saved b27)))], [(a 4, .inl (g.2.1 0, 83, .inl (M_before b27)))], [(a 5, .inl (g.2.1 0, 83, .inl (M_trial b27)))], [(a 6, .inl (g.2.1 0, 10, .inl (M_counted b27)))], [(a 7, .inl (g.2.1 0, 60, .inl (M_input b27)))], [(a 8, .inl (g.2.1 1, 200, .inl (M_signs b27)))], [(a 9, .inl (g.2.1 0, 93, .inl (M_told b27)))]] : List va_W).flatten := hD
                  refine cl_sv (csR := [[(a 0, .inr (9, [.ref (a 1), .ref (a 2), .ref (a 3), .ref (a 4), .ref (a 5), .ref (a 6), .int (M_isSaved b27), .int (M_changes b27), .int 0, .int (M_isDenied b27), .int (M_code b27), .int (M_why b27), .int (M_detail b27), .int (M_cause b27), .ref (a 7), .int (M_length b27), .int (M_fault b27), .ref (a 8), .int (M_signMany b27), .int (M_lastOver b27), .int (M_at b27), .ref (a 9), .int (M_toldMany b27)]))], [(a 2, .inl (g.2.1 0, 664, .inl (M_kept b27)))], [(a 3, .inl (g.2.1 0, 83, .inl (M_saved b27)))], [(a 5, .inl (g.2.1 0, 83, .inl (M_trial b27)))], [(a 6, .inl (g.2.1 0, 10, .inl (M_counted b27)))], [(a 7, .inl (g.2.1 0, 60, .inl (M_input b27)))], [(a 8, .inl (g.2.1 1, 200, .inl (M_signs b27)))], [(a 9, .inl (g.2.1 0, 93, .inl (M_told b27)))]]) (csF := [[(a 0, .inr (9, [.ref (a 1), .ref (a 2), .ref (a 3), .ref (a 4), .ref (a 5), .ref (a 6), .int (M_isSaved b27), .int (M_changes b27), .int 0, .int (M_isDenied b27), .int (M_code b27), .int (M_why b27), .int (M_detail b27), .int (M_cause b27), .ref (a 7), .int (M_length b27), .int (M_fault b27), .ref (a 8), .int (M_signMany b27), .int (M_lastOver b27), .int (M_at b27), .ref (a 9), .int (M_toldMany b27)]))], [(a 1, .inl (g.2.1 0, 83, .inl z39))], [(a 2, .inl (g.2.1 0, 664, .inl (M_kept b27)))], [(a 3, .inl (g.2.1 0, 83, .inl (M_saved b27)))], [(a 4, .inl (g.2.1 0, 83, .inl (M_before b27)))], [(a 5, .inl (g.2.1 0, 83, .inl (M_trial b27)))], [(a 6, .inl (g.2.1 0, 10, .inl (M_counted b27)))], [(a 7, .inl (g.2.1 0, 60, .inl (M_input b27)))], [(a 8, .inl (g.2.1 1, 200, .inl (M_signs b27)))], [(a 9, .inl (g.2.1 0, 93, .inl (M_told b27)))]]) (rest := []) hx hb hml hown hts hK hE hA hl hP hD hS (c_X5_copies g l (fun _ => a 4) 83 (fun _ => a 1) 83 (M_before b27) (M_g b27) 0 0 z39 hz39) [4, 1] [0, 2, 3, 5, 6, 7, 8, 9] [0, 9, 1, 2, 8, 3, 4, 5, 6, 7] ⟨rfl, rfl, rfl, rfl, rfl, rfl, rfl⟩ 4 (jb_giS mw_1404 mw_1405 mw_10 mw_1406) ⟨rfl, rfl⟩ (by decide +kernel) ⟨⟨(Nat.le_of_ble_eq_true rfl), (Nat.le_of_ble_eq_true rfl)⟩, (Nat.le_of_ble_eq_true rfl), (Nat.le_of_ble_eq_true rfl)⟩ ⟨rfl, rfl⟩ (Nat.le_of_ble_eq_true rfl) dX5_execute_120 (fun H locs hP hD hS => ?_)
                  have hP : va_P g.1 vwCl ([wMc g a z39 (M_kept b27) (M_saved b27) (M_before b27) (M_trial b27) (M_counted b27) (M_isSaved b27) (M_changes b27) 0 (M_isDenied b27) (M_code b27) (M_why b27) (M_detail b27) (M_cause b27) (M_input b27) (M_length b27) (M_fault b27) (M_signs b27) (M_signMany b27) (M_lastOver b27) (M_at b27) (M_told b27) (M_toldMany b27)] : List va_W).flatten _ := hP
                  have hD : va_D A ([wMc g a z39 (M_kept b27) (M_saved b27) (M_before b27) (M_trial b27) (M_counted b27) (M_isSaved b27) (M_changes b27) 0 (M_isDenied b27) (M_code b27) (M_why b27) (M_detail b27) (M_cause b27) (M_input b27) (M_length b27) (M_fault b27) (M_signs b27) (M_signMany b27) (M_lastOver b27) (M_at b27) (M_told b27) (M_toldMany b27)] : List va_W).flatten := hD
                  refine lv_aload_n hx hb dX5_execute_123 rfl (lv_at hl 0 rfl) ?_
                  refine lv_iload_n hx hb dX5_execute_124 rfl (lv_at hl 1 rfl) ?_
                  obtain ⟨z40, hz40, hF⟩ := ob_bind hF
                  refine cl_i (csR := []) (csF := [wM g a z40.2]) (rest := []) hx hb hml hown hts hK hE hA hl hP hD hS (c_X5_deniesText g l a (mkM z39 (M_kept b27) (M_saved b27) (M_before b27) (M_trial b27) (M_counted b27) (M_isSaved b27) (M_changes b27) 0 (M_isDenied b27) (M_code b27) (M_why b27) (M_detail b27) (M_cause b27) (M_input b27) (M_length b27) (M_fault b27) (M_signs b27) (M_signMany b27) (M_lastOver b27) (M_at b27) (M_told b27) (M_toldMany b27)) x28 z40 hz40) [0] [] [0] ⟨rfl, rfl, rfl, rfl, rfl, rfl, rfl⟩ ⟨0, 9, _, _, rfl, rfl, rfl⟩ 1 (jb_giV mw_1698 mw_1700 ms_67 mw_10 mw_1701) ⟨rfl, rfl⟩ (by decide +kernel) ⟨⟨(Nat.le_of_ble_eq_true rfl), (Nat.le_of_ble_eq_true rfl)⟩, (Nat.le_of_ble_eq_true rfl), (Nat.le_of_ble_eq_true rfl)⟩ ⟨rfl, rfl⟩ (Nat.le_of_ble_eq_true rfl) dX5_execute_125 (fun H locs hP hD hS => ?_)
                  refine lv_iload_n hx hb dX5_execute_128 rfl (lv_at hl 2 rfl) ?_
                  refine lv_if_le (tgt := 136) hx hb dX5_execute_129 (by decide) (fun c41 => ?_) (fun c41 => ?_)
                  · have hF := ob_pos c41 hF
                    refine lv_iload_n hx hb dX5_execute_136 rfl (lv_at hl 2 rfl) ?_
                    refine lv_iadd hx hb dX5_execute_137 ?_
                    cases hF
                    rw [hQ]
                    exact jb_iret hx hb hr hlocks hP hD hS dX5_execute_138 rfl (Nat.le_of_ble_eq_true rfl) (Nat.le_of_ble_eq_true rfl)
                  · have hF := ob_neg c41 hF
                    refine lv_iconst (v := 0) hx hb dX5_execute_132 (by decide) ?_
                    refine lv_goto (tgt := 137) hx hb dX5_execute_133 (by decide) ?_
                    refine lv_iadd hx hb dX5_execute_137 ?_
                    cases hF
                    rw [hQ]
                    exact jb_iret hx hb hr hlocks hP hD hS dX5_execute_138 rfl (Nat.le_of_ble_eq_true rfl) (Nat.le_of_ble_eq_true rfl)
              · have hF := ob_nneg c36 hF
                refine lv_aload_n hx hb dX5_execute_77 rfl (lv_at hl 0 rfl) ?_
                refine lv_iconst (v := 3) hx hb dX5_execute_78 (by decide) ?_
                refine lv_iload_n hx hb dX5_execute_79 rfl (lv_at hl 1 rfl) ?_
                refine lv_imul hx hb dX5_execute_80 ?_
                obtain ⟨z42, hz42, hF⟩ := ob_bind hF
                refine cl_i (csR := []) (csF := [wM g a z42.2]) (rest := []) hx hb hml hown hts hK hE hA hl hP hD hS (c_X5_carries g l a b27 (3 * x28) z42 hz42) [0] [] [0] ⟨rfl, rfl, rfl, rfl, rfl, rfl, rfl⟩ ⟨0, 9, _, _, rfl, rfl, rfl⟩ 1 (jb_giV mw_1687 mw_1689 ms_66 mw_10 mw_1690) ⟨rfl, rfl⟩ (by decide +kernel) ⟨⟨(Nat.le_of_ble_eq_true rfl), (Nat.le_of_ble_eq_true rfl)⟩, (Nat.le_of_ble_eq_true rfl), (Nat.le_of_ble_eq_true rfl)⟩ ⟨rfl, rfl⟩ (Nat.le_of_ble_eq_true rfl) dX5_execute_81 (fun H locs hP hD hS => ?_)
                refine lv_istore_n (lv' := [(3, .int z42.1), (0, .ref (a 0)), (2, .int x28)]) hx hb dX5_execute_84 rfl hl (by decide) rfl (fun ls hl => ?_)
                refine lv_aload_n hx hb dX5_execute_85 rfl (lv_at hl 1 rfl) ?_
                refine va_get (D := g.1) (ci := 9) (v := .int (M_code z42.2)) (C := RX5) (T := TX5) (N := 23) hx hb hts inX5 hown hK hP 0 rfl rfl 10 (by decide) (hts _ mw_1321) (fun _ h9 => h9) rfl dX5_execute_86 ?_
                refine lv_if_ne (tgt := 62) hx hb dX5_execute_89 (by decide) (fun c43 => ?_) (fun c43 => ?_)
                · have hF := ob_pos c43 hF
                  exact ih29 _ _ _ hF _ _ hP hD hS ls (lv_sub hl [1, 2, 0] rfl)
                · have hF := ob_nneg c43 hF
                  refine lv_iinc (v := x28 + 1) (lv' := [(2, .int (x28 + 1)), (3, .int z42.1), (0, .ref (a 0))]) hx hb dX5_execute_92 hl (k := 2) rfl (by rfl) (by decide) rfl (fun ls hl => ?_)
                  refine lv_goto (tgt := 62) hx hb dX5_execute_95 (by decide) ?_
                  exact ih29 _ _ _ hF _ _ hP hD hS ls (lv_sub hl [2, 0, 1] rfl)
        exact loop29 1000 _ _ _ hF _ _ hP hD hS ls (lv_sub hl [3, 1, 0] rfl)
      · have hF := ob_neg c25 hF
        refine lv_iconst (v := 0) hx hb dX5_execute_38 (by decide) ?_
        cases hF
        rw [hQ]
        exact jb_iret hx hb hr hlocks hP hD hS dX5_execute_39 rfl (Nat.le_of_ble_eq_true rfl) (Nat.le_of_ble_eq_true rfl)
  · have hF := ob_nneg c2 hF
    refine lv_aload_n hx hb dX5_execute_9 rfl (lv_at hl 1 rfl) ?_
    refine lv_aload_n hx hb dX5_execute_10 rfl (lv_at hl 1 rfl) ?_
    refine va_get (D := g.1) (ci := 9) (v := .int (M_at z1.2)) (C := RX5) (T := TX5) (N := 23) hx hb hts inX5 hown hK hP 0 rfl rfl 20 (by decide) (hts _ mw_1331) (fun _ h9 => h9) rfl dX5_execute_11 ?_
    refine va_put (D := g.1) (ci := 9) (v := .int (M_at z1.2)) (ty := .int) (C := RX5) (T := TX5) (N := 23) hx hb hts inX5 tyX5 tyX5_ok nmX5 hown hK hP hD hS 0 rfl rfl 16 (by decide) (hts _ mw_1327) (fun _ h9 => h9) rfl (by decide +kernel) rfl rfl (Nat.le_of_ble_eq_true rfl) dX5_execute_14 (fun H locs hP hD hS => ?_)
    have hP : va_P g.1 vwCl ([wMc g a (M_g z1.2) (M_kept z1.2) (M_saved z1.2) (M_before z1.2) (M_trial z1.2) (M_counted z1.2) (M_isSaved z1.2) (M_changes z1.2) (M_isWithin z1.2) (M_isDenied z1.2) (M_code z1.2) (M_why z1.2) (M_detail z1.2) (M_cause z1.2) (M_input z1.2) (M_length z1.2) (M_at z1.2) (M_signs z1.2) (M_signMany z1.2) (M_lastOver z1.2) (M_at z1.2) (M_told z1.2) (M_toldMany z1.2)] : List va_W).flatten _ := hP
    have hD : va_D A ([wMc g a (M_g z1.2) (M_kept z1.2) (M_saved z1.2) (M_before z1.2) (M_trial z1.2) (M_counted z1.2) (M_isSaved z1.2) (M_changes z1.2) (M_isWithin z1.2) (M_isDenied z1.2) (M_code z1.2) (M_why z1.2) (M_detail z1.2) (M_cause z1.2) (M_input z1.2) (M_length z1.2) (M_at z1.2) (M_signs z1.2) (M_signMany z1.2) (M_lastOver z1.2) (M_at z1.2) (M_told z1.2) (M_toldMany z1.2)] : List va_W).flatten := hD
    refine lv_aload_n hx hb dX5_execute_17 rfl (lv_at hl 1 rfl) ?_
    refine lv_iconst (v := 0) hx hb dX5_execute_18 (by decide) ?_
    refine va_put (D := g.1) (ci := 9) (v := .int 0) (ty := .int) (C := RX5) (T := TX5) (N := 23) hx hb hts inX5 tyX5 tyX5_ok nmX5 hown hK hP hD hS 0 rfl rfl 15 (by decide) (hts _ mw_1326) (fun _ h9 => h9) rfl (by decide +kernel) rfl rfl (Nat.le_of_ble_eq_true rfl) dX5_execute_19 (fun H locs hP hD hS => ?_)
    have hP : va_P g.1 vwCl ([wMc g a (M_g z1.2) (M_kept z1.2) (M_saved z1.2) (M_before z1.2) (M_trial z1.2) (M_counted z1.2) (M_isSaved z1.2) (M_changes z1.2) (M_isWithin z1.2) (M_isDenied z1.2) (M_code z1.2) (M_why z1.2) (M_detail z1.2) (M_cause z1.2) (M_input z1.2) 0 (M_at z1.2) (M_signs z1.2) (M_signMany z1.2) (M_lastOver z1.2) (M_at z1.2) (M_told z1.2) (M_toldMany z1.2)] : List va_W).flatten _ := hP
    have hD : va_D A ([wMc g a (M_g z1.2) (M_kept z1.2) (M_saved z1.2) (M_before z1.2) (M_trial z1.2) (M_counted z1.2) (M_isSaved z1.2) (M_changes z1.2) (M_isWithin z1.2) (M_isDenied z1.2) (M_code z1.2) (M_why z1.2) (M_detail z1.2) (M_cause z1.2) (M_input z1.2) 0 (M_at z1.2) (M_signs z1.2) (M_signMany z1.2) (M_lastOver z1.2) (M_at z1.2) (M_told z1.2) (M_toldMany z1.2)] : List va_W).flatten := hD
    refine lv_aload_n hx hb dX5_execute_22 rfl (lv_at hl 1 rfl) ?_
    refine lv_iload_n hx hb dX5_execute_23 rfl (lv_at hl 0 rfl) ?_
    refine lv_if_eq (tgt := 31) hx hb dX5_execute_24 (by decide) (fun c44 => ?_) (fun c44 => ?_)
    · have hF := ob_pos c44 hF
      refine lv_iconst (v := 1) hx hb dX5_execute_31 (by decide) ?_
      obtain ⟨z45, hz45, hF⟩ := ob_bind hF
      refine cl_i (csR := []) (csF := [wM g a z45.2]) (rest := []) hx hb hml hown hts hK hE hA hl hP hD hS (c_X5_fails g l a (mkM (M_g z1.2) (M_kept z1.2) (M_saved z1.2) (M_before z1.2) (M_trial z1.2) (M_counted z1.2) (M_isSaved z1.2) (M_changes z1.2) (M_isWithin z1.2) (M_isDenied z1.2) (M_code z1.2) (M_why z1.2) (M_detail z1.2) (M_cause z1.2) (M_input z1.2) 0 (M_at z1.2) (M_signs z1.2) (M_signMany z1.2) (M_lastOver z1.2) (M_at z1.2) (M_told z1.2) (M_toldMany z1.2)) 1 z45 hz45) [0] [] [0] ⟨rfl, rfl, rfl, rfl, rfl, rfl, rfl⟩ ⟨0, 9, _, _, rfl, rfl, rfl⟩ 1 (jb_giV mw_1392 mw_1394 ms_32 mw_10 mw_1395) ⟨rfl, rfl⟩ (by decide +kernel) ⟨⟨(Nat.le_of_ble_eq_true rfl), (Nat.le_of_ble_eq_true rfl)⟩, (Nat.le_of_ble_eq_true rfl), (Nat.le_of_ble_eq_true rfl)⟩ ⟨rfl, rfl⟩ (Nat.le_of_ble_eq_true rfl) dX5_execute_32 (fun H locs hP hD hS => ?_)
      refine lv_if_eq (tgt := 40) hx hb dX5_execute_35 (by decide) (fun c46 => ?_) (fun c46 => ?_)
      · have hF := ob_pos c46 hF
        refine lv_aload_n hx hb dX5_execute_40 rfl (lv_at hl 1 rfl) ?_
        refine va_get (D := g.1) (ci := 9) (v := .ref (a 1)) (C := RX5) (T := TX5) (N := 23) hx hb hts inX5 hown hK hP 0 rfl rfl 0 (by decide) (hts _ mw_1311) (fun _ h9 => h9) rfl dX5_execute_41 ?_
        refine lv_iconst (v := 0) hx hb dX5_execute_44 (by decide) ?_
        refine lv_aload_n hx hb dX5_execute_45 rfl (lv_at hl 1 rfl) ?_
        refine va_get (D := g.1) (ci := 9) (v := .ref (a 4)) (C := RX5) (T := TX5) (N := 23) hx hb hts inX5 hown hK hP 0 rfl rfl 3 (by decide) (hts _ mw_1314) (fun _ h9 => h9) rfl dX5_execute_46 ?_
        refine lv_iconst (v := 0) hx hb dX5_execute_49 (by decide) ?_
        obtain ⟨z47, hz47, hF⟩ := ob_bind hF
        have hP : va_P g.1 vwCl ([[(a 0, .inr (9, [.ref (a 1), .ref (a 2), .ref (a 3), .ref (a 4), .ref (a 5), .ref (a 6), .int (M_isSaved z45.2), .int (M_changes z45.2), .int (M_isWithin z45.2), .int (M_isDenied z45.2), .int (M_code z45.2), .int (M_why z45.2), .int (M_detail z45.2), .int (M_cause z45.2), .ref (a 7), .int (M_length z45.2), .int (M_fault z45.2), .ref (a 8), .int (M_signMany z45.2), .int (M_lastOver z45.2), .int (M_at z45.2), .ref (a 9), .int (M_toldMany z45.2)]))], [(a 1, .inl (g.2.1 0, 83, .inl (M_g z45.2)))], [(a 2, .inl (g.2.1 0, 664, .inl (M_kept z45.2)))], [(a 3, .inl (g.2.1 0, 83, .inl (M_saved z45.2)))], [(a 4, .inl (g.2.1 0, 83, .inl (M_before z45.2)))], [(a 5, .inl (g.2.1 0, 83, .inl (M_trial z45.2)))], [(a 6, .inl (g.2.1 0, 10, .inl (M_counted z45.2)))], [(a 7, .inl (g.2.1 0, 60, .inl (M_input z45.2)))], [(a 8, .inl (g.2.1 1, 200, .inl (M_signs z45.2)))], [(a 9, .inl (g.2.1 0, 93, .inl (M_told z45.2)))]] : List va_W).flatten _ := hP
        have hD : va_D A ([[(a 0, .inr (9, [.ref (a 1), .ref (a 2), .ref (a 3), .ref (a 4), .ref (a 5), .ref (a 6), .int (M_isSaved z45.2), .int (M_changes z45.2), .int (M_isWithin z45.2), .int (M_isDenied z45.2), .int (M_code z45.2), .int (M_why z45.2), .int (M_detail z45.2), .int (M_cause z45.2), .ref (a 7), .int (M_length z45.2), .int (M_fault z45.2), .ref (a 8), .int (M_signMany z45.2), .int (M_lastOver z45.2), .int (M_at z45.2), .ref (a 9), .int (M_toldMany z45.2)]))], [(a 1, .inl (g.2.1 0, 83, .inl (M_g z45.2)))], [(a 2, .inl (g.2.1 0, 664, .inl (M_kept z45.2)))], [(a 3, .inl (g.2.1 0, 83, .inl (M_saved z45.2)))], [(a 4, .inl (g.2.1 0, 83, .inl (M_before z45.2)))], [(a 5, .inl (g.2.1 0, 83, .inl (M_trial z45.2)))], [(a 6, .inl (g.2.1 0, 10, .inl (M_counted z45.2)))], [(a 7, .inl (g.2.1 0, 60, .inl (M_input z45.2)))], [(a 8, .inl (g.2.1 1, 200, .inl (M_signs z45.2)))], [(a 9, .inl (g.2.1 0, 93, .inl (M_told z45.2)))]] : List va_W).flatten := hD
        refine cl_sv (csR := [[(a 0, .inr (9, [.ref (a 1), .ref (a 2), .ref (a 3), .ref (a 4), .ref (a 5), .ref (a 6), .int (M_isSaved z45.2), .int (M_changes z45.2), .int (M_isWithin z45.2), .int (M_isDenied z45.2), .int (M_code z45.2), .int (M_why z45.2), .int (M_detail z45.2), .int (M_cause z45.2), .ref (a 7), .int (M_length z45.2), .int (M_fault z45.2), .ref (a 8), .int (M_signMany z45.2), .int (M_lastOver z45.2), .int (M_at z45.2), .ref (a 9), .int (M_toldMany z45.2)]))], [(a 2, .inl (g.2.1 0, 664, .inl (M_kept z45.2)))], [(a 3, .inl (g.2.1 0, 83, .inl (M_saved z45.2)))], [(a 5, .inl (g.2.1 0, 83, .inl (M_trial z45.2)))], [(a 6, .inl (g.2.1 0, 10, .inl (M_counted z45.2)))], [(a 7, .inl (g.2.1 0, 60, .inl (M_input z45.2)))], [(a 8, .inl (g.2.1 1, 200, .inl (M_signs z45.2)))], [(a 9, .inl (g.2.1 0, 93, .inl (M_told z45.2)))]]) (csF := [[(a 0, .inr (9, [.ref (a 1), .ref (a 2), .ref (a 3), .ref (a 4), .ref (a 5), .ref (a 6), .int (M_isSaved z45.2), .int (M_changes z45.2), .int (M_isWithin z45.2), .int (M_isDenied z45.2), .int (M_code z45.2), .int (M_why z45.2), .int (M_detail z45.2), .int (M_cause z45.2), .ref (a 7), .int (M_length z45.2), .int (M_fault z45.2), .ref (a 8), .int (M_signMany z45.2), .int (M_lastOver z45.2), .int (M_at z45.2), .ref (a 9), .int (M_toldMany z45.2)]))], [(a 1, .inl (g.2.1 0, 83, .inl (M_g z45.2)))], [(a 2, .inl (g.2.1 0, 664, .inl (M_kept z45.2)))], [(a 3, .inl (g.2.1 0, 83, .inl (M_saved z45.2)))], [(a 4, .inl (g.2.1 0, 83, .inl z47))], [(a 5, .inl (g.2.1 0, 83, .inl (M_trial z45.2)))], [(a 6, .inl (g.2.1 0, 10, .inl (M_counted z45.2)))], [(a 7, .inl (g.2.1 0, 60, .inl (M_input z45.2)))], [(a 8, .inl (g.2.1 1, 200, .inl (M_signs z45.2)))], [(a 9, .inl (g.2.1 0, 93, .inl (M_told z45.2)))]]) (rest := []) hx hb hml hown hts hK hE hA hl hP hD hS (c_X5_copies g l (fun _ => a 1) 83 (fun _ => a 4) 83 (M_g z45.2) (M_before z45.2) 0 0 z47 hz47) [1, 4] [0, 2, 3, 5, 6, 7, 8, 9] [0, 8, 1, 2, 9, 3, 4, 5, 6, 7] ⟨rfl, rfl, rfl, rfl, rfl, rfl, rfl⟩ 4 (jb_giS mw_1404 mw_1405 mw_10 mw_1406) ⟨rfl, rfl⟩ (by decide +kernel) ⟨⟨(Nat.le_of_ble_eq_true rfl), (Nat.le_of_ble_eq_true rfl)⟩, (Nat.le_of_ble_eq_true rfl), (Nat.le_of_ble_eq_true rfl)⟩ ⟨rfl, rfl⟩ (Nat.le_of_ble_eq_true rfl) dX5_execute_50 (fun H locs hP hD hS => ?_)
        have hP : va_P g.1 vwCl ([wMc g a (M_g z45.2) (M_kept z45.2) (M_saved z45.2) z47 (M_trial z45.2) (M_counted z45.2) (M_isSaved z45.2) (M_changes z45.2) (M_isWithin z45.2) (M_isDenied z45.2) (M_code z45.2) (M_why z45.2) (M_detail z45.2) (M_cause z45.2) (M_input z45.2) (M_length z45.2) (M_fault z45.2) (M_signs z45.2) (M_signMany z45.2) (M_lastOver z45.2) (M_at z45.2) (M_told z45.2) (M_toldMany z45.2)] : List va_W).flatten _ := hP
        have hD : va_D A ([wMc g a (M_g z45.2) (M_kept z45.2) (M_saved z45.2) z47 (M_trial z45.2) (M_counted z45.2) (M_isSaved z45.2) (M_changes z45.2) (M_isWithin z45.2) (M_isDenied z45.2) (M_code z45.2) (M_why z45.2) (M_detail z45.2) (M_cause z45.2) (M_input z45.2) (M_length z45.2) (M_fault z45.2) (M_signs z45.2) (M_signMany z45.2) (M_lastOver z45.2) (M_at z45.2) (M_told z45.2) (M_toldMany z45.2)] : List va_W).flatten := hD
        refine lv_aload_n hx hb dX5_execute_53 rfl (lv_at hl 1 rfl) ?_
        refine lv_iconst (v := 1) hx hb dX5_execute_54 (by decide) ?_
        refine va_put (D := g.1) (ci := 9) (v := .int 1) (ty := .boolean) (C := RX5) (T := TX5) (N := 23) hx hb hts inX5 tyX5 tyX5_ok nmX5 hown hK hP hD hS 0 rfl rfl 8 (by decide) (hts _ mw_1319) (fun _ h9 => h9) rfl (by decide +kernel) rfl rfl (Nat.le_of_ble_eq_true rfl) dX5_execute_55 (fun H locs hP hD hS => ?_)
        have hP : va_P g.1 vwCl ([wMc g a (M_g z45.2) (M_kept z45.2) (M_saved z45.2) z47 (M_trial z45.2) (M_counted z45.2) (M_isSaved z45.2) (M_changes z45.2) 1 (M_isDenied z45.2) (M_code z45.2) (M_why z45.2) (M_detail z45.2) (M_cause z45.2) (M_input z45.2) (M_length z45.2) (M_fault z45.2) (M_signs z45.2) (M_signMany z45.2) (M_lastOver z45.2) (M_at z45.2) (M_told z45.2) (M_toldMany z45.2)] : List va_W).flatten _ := hP
        have hD : va_D A ([wMc g a (M_g z45.2) (M_kept z45.2) (M_saved z45.2) z47 (M_trial z45.2) (M_counted z45.2) (M_isSaved z45.2) (M_changes z45.2) 1 (M_isDenied z45.2) (M_code z45.2) (M_why z45.2) (M_detail z45.2) (M_cause z45.2) (M_input z45.2) (M_length z45.2) (M_fault z45.2) (M_signs z45.2) (M_signMany z45.2) (M_lastOver z45.2) (M_at z45.2) (M_told z45.2) (M_toldMany z45.2)] : List va_W).flatten := hD
        refine lv_iconst (v := 0) hx hb dX5_execute_58 (by decide) ?_
        refine lv_istore_n (lv' := [(2, .int 0), (1, .int (bi z1.1)), (0, .ref (a 0))]) hx hb dX5_execute_59 rfl hl (by decide) rfl (fun ls hl => ?_)
        refine lv_iconst (v := 0) hx hb dX5_execute_60 (by decide) ?_
        refine lv_istore_n (lv' := [(3, .int 0), (2, .int 0), (1, .int (bi z1.1)), (0, .ref (a 0))]) hx hb dX5_execute_61 rfl hl (by decide) rfl (fun ls hl => ?_)
        obtain ⟨k50, ek50, hF⟩ := ob_k (F := fun k9 => F_X5_execute_L62  k9 1000 (mkM (M_g z45.2) (M_kept z45.2) (M_saved z45.2) z47 (M_trial z45.2) (M_counted z45.2) (M_isSaved z45.2) (M_changes z45.2) 1 (M_isDenied z45.2) (M_code z45.2) (M_why z45.2) (M_detail z45.2) (M_cause z45.2) (M_input z45.2) (M_length z45.2) (M_fault z45.2) (M_signs z45.2) (M_signMany z45.2) (M_lastOver z45.2) (M_at z45.2) (M_told z45.2) (M_toldMany z45.2)) 0 0) hF
        have loop50 : ∀ (n9 : Nat) (b48 : Mv) (x49 : Int32) (x50 : Int32), F_X5_execute_L62  k50 n9 b48 x49 x50 = some z → ∀ (H : Heap) (locs : List Loc), va_P g.1 vwCl ([wM g a b48] : List va_W).flatten H → va_D A ([wM g a b48] : List va_W).flatten → va_S A s.heap H locs → ∀ ls : Array Slot, lv_has ls 4 [(0, .ref (a 0)), (2, .int x49), (3, .int x50)] → W p l e ({ frames := 8, cells := 0, slots := 0, locals := 176 } : Room) s m ([.ref (a 0)] : List Value).toArray below meth c H locs 0 0 Q (F0 m 62 ls []) := by
          intro n9
          induction n9 with
          | zero => intro b48 x49 x50 hF; rw [F_X5_execute_L62] at hF; cases hF
          | succ n9 ih50 =>
            intro b48 x49 x50 hF H locs hP hD hS ls hl
            rw [F_X5_execute_L62] at hF
            refine lv_iload_n hx hb dX5_execute_62 rfl (lv_at hl 1 rfl) ?_
            refine lv_aload_n hx hb dX5_execute_63 rfl (lv_at hl 0 rfl) ?_
            refine va_get (D := g.1) (ci := 9) (v := .int (M_toldMany b48)) (C := RX5) (T := TX5) (N := 23) hx hb hts inX5 hown hK hP 0 rfl rfl 22 (by decide) (hts _ mw_1333) (fun _ h9 => h9) rfl dX5_execute_64 ?_
            refine lv_icmp_ge (tgt := 98) hx hb dX5_execute_67 (by decide) (fun c51 => ?_) (fun c51 => ?_)
            · have hF := ob_pos c51 hF
              rw [ek50] at hF
              refine lv_aload_n hx hb dX5_execute_98 rfl (lv_at hl 0 rfl) ?_
              refine lv_iconst (v := 0) hx hb dX5_execute_99 (by decide) ?_
              refine va_put (D := g.1) (ci := 9) (v := .int 0) (ty := .boolean) (C := RX5) (T := TX5) (N := 23) hx hb hts inX5 tyX5 tyX5_ok nmX5 hown hK hP hD hS 0 rfl rfl 8 (by decide) (hts _ mw_1319) (fun _ h9 => h9) rfl (by decide +kernel) rfl rfl (Nat.le_of_ble_eq_true rfl) dX5_execute_100 (fun H locs hP hD hS => ?_)
              have hP : va_P g.1 vwCl ([wMc g a (M_g b48) (M_kept b48) (M_saved b48) (M_before b48) (M_trial b48) (M_counted b48) (M_isSaved b48) (M_changes b48) 0 (M_isDenied b48) (M_code b48) (M_why b48) (M_detail b48) (M_cause b48) (M_input b48) (M_length b48) (M_fault b48) (M_signs b48) (M_signMany b48) (M_lastOver b48) (M_at b48) (M_told b48) (M_toldMany b48)] : List va_W).flatten _ := hP
              have hD : va_D A ([wMc g a (M_g b48) (M_kept b48) (M_saved b48) (M_before b48) (M_trial b48) (M_counted b48) (M_isSaved b48) (M_changes b48) 0 (M_isDenied b48) (M_code b48) (M_why b48) (M_detail b48) (M_cause b48) (M_input b48) (M_length b48) (M_fault b48) (M_signs b48) (M_signMany b48) (M_lastOver b48) (M_at b48) (M_told b48) (M_toldMany b48)] : List va_W).flatten := hD
              refine lv_aload_n hx hb dX5_execute_103 rfl (lv_at hl 0 rfl) ?_
              refine va_get (D := g.1) (ci := 9) (v := .int (M_code b48)) (C := RX5) (T := TX5) (N := 23) hx hb hts inX5 hown hK hP 0 rfl rfl 10 (by decide) (hts _ mw_1321) (fun _ h9 => h9) rfl dX5_execute_104 ?_
              refine lv_if_le (tgt := 139) hx hb dX5_execute_107 (by decide) (fun c52 => ?_) (fun c52 => ?_)
              · have hF := ob_pos c52 hF
                refine lv_aload_n hx hb dX5_execute_139 rfl (lv_at hl 0 rfl) ?_
                refine lv_aload_n hx hb dX5_execute_140 rfl (lv_at hl 0 rfl) ?_
                refine va_get (D := g.1) (ci := 9) (v := .ref (a 4)) (C := RX5) (T := TX5) (N := 23) hx hb hts inX5 hown hK hP 0 rfl rfl 3 (by decide) (hts _ mw_1314) (fun _ h9 => h9) rfl dX5_execute_141 ?_
                obtain ⟨z53, hz53, hF⟩ := ob_bind hF
                refine cl_v (csR := []) (csF := [wM g a z53]) (rest := []) hx hb hml hown hts hK hE hA hl hP hD hS (c_X5_keeps_b g l a (mkM (M_g b48) (M_kept b48) (M_saved b48) (M_before b48) (M_trial b48) (M_counted b48) (M_isSaved b48) (M_changes b48) 0 (M_isDenied b48) (M_code b48) (M_why b48) (M_detail b48) (M_cause b48) (M_input b48) (M_length b48) (M_fault b48) (M_signs b48) (M_signMany b48) (M_lastOver b48) (M_at b48) (M_told b48) (M_toldMany b48)) z53 hz53) [0] [] [0] ⟨rfl, rfl, rfl, rfl, rfl, rfl, rfl⟩ ⟨0, 9, _, _, rfl, rfl, rfl⟩ 1 (jb_giV mw_1400 mw_1402 ms_34 mw_10 mw_1403) ⟨rfl, rfl⟩ (by decide +kernel) ⟨⟨(Nat.le_of_ble_eq_true rfl), (Nat.le_of_ble_eq_true rfl)⟩, (Nat.le_of_ble_eq_true rfl), (Nat.le_of_ble_eq_true rfl)⟩ ⟨rfl, rfl⟩ (Nat.le_of_ble_eq_true rfl) dX5_execute_144 (fun H locs hP hD hS => ?_)
                refine lv_aload_n hx hb dX5_execute_147 rfl (lv_at hl 0 rfl) ?_
                refine va_get (D := g.1) (ci := 9) (v := .int (M_toldMany z53)) (C := RX5) (T := TX5) (N := 23) hx hb hts inX5 hown hK hP 0 rfl rfl 22 (by decide) (hts _ mw_1333) (fun _ h9 => h9) rfl dX5_execute_148 ?_
                cases hF
                rw [hQ]
                exact jb_iret hx hb hr hlocks hP hD hS dX5_execute_151 rfl (Nat.le_of_ble_eq_true rfl) (Nat.le_of_ble_eq_true rfl)
              · have hF := ob_neg c52 hF
                refine lv_aload_n hx hb dX5_execute_110 rfl (lv_at hl 0 rfl) ?_
                refine va_get (D := g.1) (ci := 9) (v := .ref (a 4)) (C := RX5) (T := TX5) (N := 23) hx hb hts inX5 hown hK hP 0 rfl rfl 3 (by decide) (hts _ mw_1314) (fun _ h9 => h9) rfl dX5_execute_111 ?_
                refine lv_iconst (v := 0) hx hb dX5_execute_114 (by decide) ?_
                refine lv_aload_n hx hb dX5_execute_115 rfl (lv_at hl 0 rfl) ?_
                refine va_get (D := g.1) (ci := 9) (v := .ref (a 1)) (C := RX5) (T := TX5) (N := 23) hx hb hts inX5 hown hK hP 0 rfl rfl 0 (by decide) (hts _ mw_1311) (fun _ h9 => h9) rfl dX5_execute_116 ?_
                refine lv_iconst (v := 0) hx hb dX5_execute_119 (by decide) ?_
                obtain ⟨z54, hz54, hF⟩ := ob_bind hF
                have hP : va_P g.1 vwCl ([[(a 0, .inr (9, [.ref (a 1), .ref (a 2), .ref (a 3), .ref (a 4), .ref (a 5), .ref (a 6), .int (M_isSaved b48), .int (M_changes b48), .int 0, .int (M_isDenied b48), .int (M_code b48), .int (M_why b48), .int (M_detail b48), .int (M_cause b48), .ref (a 7), .int (M_length b48), .int (M_fault b48), .ref (a 8), .int (M_signMany b48), .int (M_lastOver b48), .int (M_at b48), .ref (a 9), .int (M_toldMany b48)]))], [(a 1, .inl (g.2.1 0, 83, .inl (M_g b48)))], [(a 2, .inl (g.2.1 0, 664, .inl (M_kept b48)))], [(a 3, .inl (g.2.1 0, 83, .inl (M_saved b48)))], [(a 4, .inl (g.2.1 0, 83, .inl (M_before b48)))], [(a 5, .inl (g.2.1 0, 83, .inl (M_trial b48)))], [(a 6, .inl (g.2.1 0, 10, .inl (M_counted b48)))], [(a 7, .inl (g.2.1 0, 60, .inl (M_input b48)))], [(a 8, .inl (g.2.1 1, 200, .inl (M_signs b48)))], [(a 9, .inl (g.2.1 0, 93, .inl (M_told b48)))]] : List va_W).flatten _ := hP
                have hD : va_D A ([[(a 0, .inr (9, [.ref (a 1), .ref (a 2), .ref (a 3), .ref (a 4), .ref (a 5), .ref (a 6), .int (M_isSaved b48), .int (M_changes b48), .int 0, .int (M_isDenied b48), .int (M_code b48), .int (M_why b48), .int (M_detail b48), .int (M_cause b48), .ref (a 7), .int (M_length b48), .int (M_fault b48), .ref (a 8), .int (M_signMany b48), .int (M_lastOver b48), .int (M_at b48), .ref (a 9), .int (M_toldMany b48)]))], [(a 1, .inl (g.2.1 0, 83, .inl (M_g b48)))], [(a 2, .inl (g.2.1 0, 664, .inl (M_kept b48)))], [(a 3, .inl (g.2.1 0, 83, .inl (M_saved b48)))], [(a 4, .inl (g.2.1 0, 83, .inl (M_before b48)))], [(a 5, .inl (g.2.1 0, 83, .inl (M_trial b48)))], [(a 6, .inl (g.2.1 0, 10, .inl (M_counted b48)))], [(a 7, .inl (g.2.1 0, 60, .inl (M_input b48)))], [(a 8, .inl (g.2.1 1, 200, .inl (M_signs b48)))], [(a 9, .inl (g.2.1 0, 93, .inl (M_told b48)))]] : List va_W).flatten := hD
                refine cl_sv (csR := [[(a 0, .inr (9, [.ref (a 1), .ref (a 2), .ref (a 3), .ref (a 4), .ref (a 5), .ref (a 6), .int (M_isSaved b48), .int (M_changes b48), .int 0, .int (M_isDenied b48), .int (M_code b48), .int (M_why b48), .int (M_detail b48), .int (M_cause b48), .ref (a 7), .int (M_length b48), .int (M_fault b48), .ref (a 8), .int (M_signMany b48), .int (M_lastOver b48), .int (M_at b48), .ref (a 9), .int (M_toldMany b48)]))], [(a 2, .inl (g.2.1 0, 664, .inl (M_kept b48)))], [(a 3, .inl (g.2.1 0, 83, .inl (M_saved b48)))], [(a 5, .inl (g.2.1 0, 83, .inl (M_trial b48)))], [(a 6, .inl (g.2.1 0, 10, .inl (M_counted b48)))], [(a 7, .inl (g.2.1 0, 60, .inl (M_input b48)))], [(a 8, .inl (g.2.1 1, 200, .inl (M_signs b48)))], [(a 9, .inl (g.2.1 0, 93, .inl (M_told b48)))]]) (csF := [[(a 0, .inr (9, [.ref (a 1), .ref (a 2), .ref (a 3), .ref (a 4), .ref (a 5), .ref (a 6), .int (M_isSaved b48), .int (M_changes b48), .int 0, .int (M_isDenied b48), .int (M_code b48), .int (M_why b48), .int (M_detail b48), .int (M_cause b48), .ref (a 7), .int (M_length b48), .int (M_fault b48), .ref (a 8), .int (M_signMany b48), .int (M_lastOver b48), .int (M_at b48), .ref (a 9), .int (M_toldMany b48)]))], [(a 1, .inl (g.2.1 0, 83, .inl z54))], [(a 2, .inl (g.2.1 0, 664, .inl (M_kept b48)))], [(a 3, .inl (g.2.1 0, 83, .inl (M_saved b48)))], [(a 4, .inl (g.2.1 0, 83, .inl (M_before b48)))], [(a 5, .inl (g.2.1 0, 83, .inl (M_trial b48)))], [(a 6, .inl (g.2.1 0, 10, .inl (M_counted b48)))], [(a 7, .inl (g.2.1 0, 60, .inl (M_input b48)))], [(a 8, .inl (g.2.1 1, 200, .inl (M_signs b48)))], [(a 9, .inl (g.2.1 0, 93, .inl (M_told b48)))]]) (rest := []) hx hb hml hown hts hK hE hA hl hP hD hS (c_X5_copies g l (fun _ => a 4) 83 (fun _ => a 1) 83 (M_before b48) (M_g b48) 0 0 z54 hz54) [4, 1] [0, 2, 3, 5, 6, 7, 8, 9] [0, 9, 1, 2, 8, 3, 4, 5, 6, 7] ⟨rfl, rfl, rfl, rfl, rfl, rfl, rfl⟩ 4 (jb_giS mw_1404 mw_1405 mw_10 mw_1406) ⟨rfl, rfl⟩ (by decide +kernel) ⟨⟨(Nat.le_of_ble_eq_true rfl), (Nat.le_of_ble_eq_true rfl)⟩, (Nat.le_of_ble_eq_true rfl), (Nat.le_of_ble_eq_true rfl)⟩ ⟨rfl, rfl⟩ (Nat.le_of_ble_eq_true rfl) dX5_execute_120 (fun H locs hP hD hS => ?_)
                have hP : va_P g.1 vwCl ([wMc g a z54 (M_kept b48) (M_saved b48) (M_before b48) (M_trial b48) (M_counted b48) (M_isSaved b48) (M_changes b48) 0 (M_isDenied b48) (M_code b48) (M_why b48) (M_detail b48) (M_cause b48) (M_input b48) (M_length b48) (M_fault b48) (M_signs b48) (M_signMany b48) (M_lastOver b48) (M_at b48) (M_told b48) (M_toldMany b48)] : List va_W).flatten _ := hP
                have hD : va_D A ([wMc g a z54 (M_kept b48) (M_saved b48) (M_before b48) (M_trial b48) (M_counted b48) (M_isSaved b48) (M_changes b48) 0 (M_isDenied b48) (M_code b48) (M_why b48) (M_detail b48) (M_cause b48) (M_input b48) (M_length b48) (M_fault b48) (M_signs b48) (M_signMany b48) (M_lastOver b48) (M_at b48) (M_told b48) (M_toldMany b48)] : List va_W).flatten := hD
                refine lv_aload_n hx hb dX5_execute_123 rfl (lv_at hl 0 rfl) ?_
                refine lv_iload_n hx hb dX5_execute_124 rfl (lv_at hl 1 rfl) ?_
                obtain ⟨z55, hz55, hF⟩ := ob_bind hF
                refine cl_i (csR := []) (csF := [wM g a z55.2]) (rest := []) hx hb hml hown hts hK hE hA hl hP hD hS (c_X5_deniesText g l a (mkM z54 (M_kept b48) (M_saved b48) (M_before b48) (M_trial b48) (M_counted b48) (M_isSaved b48) (M_changes b48) 0 (M_isDenied b48) (M_code b48) (M_why b48) (M_detail b48) (M_cause b48) (M_input b48) (M_length b48) (M_fault b48) (M_signs b48) (M_signMany b48) (M_lastOver b48) (M_at b48) (M_told b48) (M_toldMany b48)) x49 z55 hz55) [0] [] [0] ⟨rfl, rfl, rfl, rfl, rfl, rfl, rfl⟩ ⟨0, 9, _, _, rfl, rfl, rfl⟩ 1 (jb_giV mw_1698 mw_1700 ms_67 mw_10 mw_1701) ⟨rfl, rfl⟩ (by decide +kernel) ⟨⟨(Nat.le_of_ble_eq_true rfl), (Nat.le_of_ble_eq_true rfl)⟩, (Nat.le_of_ble_eq_true rfl), (Nat.le_of_ble_eq_true rfl)⟩ ⟨rfl, rfl⟩ (Nat.le_of_ble_eq_true rfl) dX5_execute_125 (fun H locs hP hD hS => ?_)
                refine lv_iload_n hx hb dX5_execute_128 rfl (lv_at hl 2 rfl) ?_
                refine lv_if_le (tgt := 136) hx hb dX5_execute_129 (by decide) (fun c56 => ?_) (fun c56 => ?_)
                · have hF := ob_pos c56 hF
                  refine lv_iload_n hx hb dX5_execute_136 rfl (lv_at hl 2 rfl) ?_
                  refine lv_iadd hx hb dX5_execute_137 ?_
                  cases hF
                  rw [hQ]
                  exact jb_iret hx hb hr hlocks hP hD hS dX5_execute_138 rfl (Nat.le_of_ble_eq_true rfl) (Nat.le_of_ble_eq_true rfl)
                · have hF := ob_neg c56 hF
                  refine lv_iconst (v := 0) hx hb dX5_execute_132 (by decide) ?_
                  refine lv_goto (tgt := 137) hx hb dX5_execute_133 (by decide) ?_
                  refine lv_iadd hx hb dX5_execute_137 ?_
                  cases hF
                  rw [hQ]
                  exact jb_iret hx hb hr hlocks hP hD hS dX5_execute_138 rfl (Nat.le_of_ble_eq_true rfl) (Nat.le_of_ble_eq_true rfl)
            · have hF := ob_neg c51 hF
              refine lv_aload_n hx hb dX5_execute_70 rfl (lv_at hl 0 rfl) ?_
              refine va_get (D := g.1) (ci := 9) (v := .int (M_code b48)) (C := RX5) (T := TX5) (N := 23) hx hb hts inX5 hown hK hP 0 rfl rfl 10 (by decide) (hts _ mw_1321) (fun _ h9 => h9) rfl dX5_execute_71 ?_
              refine lv_if_ne (tgt := 98) hx hb dX5_execute_74 (by decide) (fun c57 => ?_) (fun c57 => ?_)
              · have hF := ob_pos c57 hF
                rw [ek50] at hF
                refine lv_aload_n hx hb dX5_execute_98 rfl (lv_at hl 0 rfl) ?_
                refine lv_iconst (v := 0) hx hb dX5_execute_99 (by decide) ?_
                refine va_put (D := g.1) (ci := 9) (v := .int 0) (ty := .boolean) (C := RX5) (T := TX5) (N := 23) hx hb hts inX5 tyX5 tyX5_ok nmX5 hown hK hP hD hS 0 rfl rfl 8 (by decide) (hts _ mw_1319) (fun _ h9 => h9) rfl (by decide +kernel) rfl rfl (Nat.le_of_ble_eq_true rfl) dX5_execute_100 (fun H locs hP hD hS => ?_)
                have hP : va_P g.1 vwCl ([wMc g a (M_g b48) (M_kept b48) (M_saved b48) (M_before b48) (M_trial b48) (M_counted b48) (M_isSaved b48) (M_changes b48) 0 (M_isDenied b48) (M_code b48) (M_why b48) (M_detail b48) (M_cause b48) (M_input b48) (M_length b48) (M_fault b48) (M_signs b48) (M_signMany b48) (M_lastOver b48) (M_at b48) (M_told b48) (M_toldMany b48)] : List va_W).flatten _ := hP
                have hD : va_D A ([wMc g a (M_g b48) (M_kept b48) (M_saved b48) (M_before b48) (M_trial b48) (M_counted b48) (M_isSaved b48) (M_changes b48) 0 (M_isDenied b48) (M_code b48) (M_why b48) (M_detail b48) (M_cause b48) (M_input b48) (M_length b48) (M_fault b48) (M_signs b48) (M_signMany b48) (M_lastOver b48) (M_at b48) (M_told b48) (M_toldMany b48)] : List va_W).flatten := hD
                refine lv_aload_n hx hb dX5_execute_103 rfl (lv_at hl 0 rfl) ?_
                refine va_get (D := g.1) (ci := 9) (v := .int (M_code b48)) (C := RX5) (T := TX5) (N := 23) hx hb hts inX5 hown hK hP 0 rfl rfl 10 (by decide) (hts _ mw_1321) (fun _ h9 => h9) rfl dX5_execute_104 ?_
                refine lv_if_le (tgt := 139) hx hb dX5_execute_107 (by decide) (fun c58 => ?_) (fun c58 => ?_)
                · have hF := ob_pos c58 hF
                  refine lv_aload_n hx hb dX5_execute_139 rfl (lv_at hl 0 rfl) ?_
                  refine lv_aload_n hx hb dX5_execute_140 rfl (lv_at hl 0 rfl) ?_
                  refine va_get (D := g.1) (ci := 9) (v := .ref (a 4)) (C := RX5) (T := TX5) (N := 23) hx hb hts inX5 hown hK hP 0 rfl rfl 3 (by decide) (hts _ mw_1314) (fun _ h9 => h9) rfl dX5_execute_141 ?_
                  obtain ⟨z59, hz59, hF⟩ := ob_bind hF
                  refine cl_v (csR := []) (csF := [wM g a z59]) (rest := []) hx hb hml hown hts hK hE hA hl hP hD hS (c_X5_keeps_b g l a (mkM (M_g b48) (M_kept b48) (M_saved b48) (M_before b48) (M_trial b48) (M_counted b48) (M_isSaved b48) (M_changes b48) 0 (M_isDenied b48) (M_code b48) (M_why b48) (M_detail b48) (M_cause b48) (M_input b48) (M_length b48) (M_fault b48) (M_signs b48) (M_signMany b48) (M_lastOver b48) (M_at b48) (M_told b48) (M_toldMany b48)) z59 hz59) [0] [] [0] ⟨rfl, rfl, rfl, rfl, rfl, rfl, rfl⟩ ⟨0, 9, _, _, rfl, rfl, rfl⟩ 1 (jb_giV mw_1400 mw_1402 ms_34 mw_10 mw_1403) ⟨rfl, rfl⟩ (by decide +kernel) ⟨⟨(Nat.le_of_ble_eq_true rfl), (Nat.le_of_ble_eq_true rfl)⟩, (Nat.le_of_ble_eq_true rfl), (Nat.le_of_ble_eq_true rfl)⟩ ⟨rfl, rfl⟩ (Nat.le_of_ble_eq_true rfl) dX5_execute_144 (fun H locs hP hD hS => ?_)
                  refine lv_aload_n hx hb dX5_execute_147 rfl (lv_at hl 0 rfl) ?_
                  refine va_get (D := g.1) (ci := 9) (v := .int (M_toldMany z59)) (C := RX5) (T := TX5) (N := 23) hx hb hts inX5 hown hK hP 0 rfl rfl 22 (by decide) (hts _ mw_1333) (fun _ h9 => h9) rfl dX5_execute_148 ?_
                  cases hF
                  rw [hQ]
                  exact jb_iret hx hb hr hlocks hP hD hS dX5_execute_151 rfl (Nat.le_of_ble_eq_true rfl) (Nat.le_of_ble_eq_true rfl)
                · have hF := ob_neg c58 hF
                  refine lv_aload_n hx hb dX5_execute_110 rfl (lv_at hl 0 rfl) ?_
                  refine va_get (D := g.1) (ci := 9) (v := .ref (a 4)) (C := RX5) (T := TX5) (N := 23) hx hb hts inX5 hown hK hP 0 rfl rfl 3 (by decide) (hts _ mw_1314) (fun _ h9 => h9) rfl dX5_execute_111 ?_
                  refine lv_iconst (v := 0) hx hb dX5_execute_114 (by decide) ?_
                  refine lv_aload_n hx hb dX5_execute_115 rfl (lv_at hl 0 rfl) ?_
                  refine va_get (D := g.1) (ci := 9) (v := .ref (a 1)) (C := RX5) (T := TX5) (N := 23) hx hb hts inX5 hown hK hP 0 rfl rfl 0 (by decide) (hts _ mw_1311) (fun _ h9 => h9) rfl dX5_execute_116 ?_
                  refine lv_iconst (v := 0) hx hb dX5_execute_119 (by decide) ?_
                  obtain ⟨z60, hz60, hF⟩ := ob_bind hF
                  have hP : va_P g.1 vwCl ([[(a 0, .inr (9, [.ref (a 1), .ref (a 2), .ref (a 3), .ref (a 4), .ref (a 5), .ref (a 6), .int (M_isSaved b48), .int (M_changes b48), .int 0, .int (M_isDenied b48), .int (M_code b48), .int (M_why b48), .int (M_detail b48), .int (M_cause b48), .ref (a 7), .int (M_length b48), .int (M_fault b48), .ref (a 8), .int (M_signMany b48), .int (M_lastOver b48), .int (M_at b48), .ref (a 9), .int (M_toldMany b48)]))], [(a 1, .inl (g.2.1 0, 83, .inl (M_g b48)))], [(a 2, .inl (g.2.1 0, 664, .inl (M_kept b48)))], [(a 3, .inl (g.2.1 0, 83, .inl (M_saved b48)))], [(a 4, .inl (g.2.1 0, 83, .inl (M_before b48)))], [(a 5, .inl (g.2.1 0, 83, .inl (M_trial b48)))], [(a 6, .inl (g.2.1 0, 10, .inl (M_counted b48)))], [(a 7, .inl (g.2.1 0, 60, .inl (M_input b48)))], [(a 8, .inl (g.2.1 1, 200, .inl (M_signs b48)))], [(a 9, .inl (g.2.1 0, 93, .inl (M_told b48)))]] : List va_W).flatten _ := hP
                  have hD : va_D A ([[(a 0, .inr (9, [.ref (a 1), .ref (a 2), .ref (a 3), .ref (a 4), .ref (a 5), .ref (a 6), .int (M_isSaved b48), .int (M_changes b48), .int 0, .int (M_isDenied b48), .int (M_code b48), .int (M_why b48), .int (M_detail b48), .int (M_cause b48), .ref (a 7), .int (M_length b48), .int (M_fault b48), .ref (a 8), .int (M_signMany b48), .int (M_lastOver b48), .int (M_at b48), .ref (a 9), .int (M_toldMany b48)]))], [(a 1, .inl (g.2.1 0, 83, .inl (M_g b48)))], [(a 2, .inl (g.2.1 0, 664, .inl (M_kept b48)))], [(a 3, .inl (g.2.1 0, 83, .inl (M_saved b48)))], [(a 4, .inl (g.2.1 0, 83, .inl (M_before b48)))], [(a 5, .inl (g.2.1 0, 83, .inl (M_trial b48)))], [(a 6, .inl (g.2.1 0, 10, .inl (M_counted b48)))], [(a 7, .inl (g.2.1 0, 60, .inl (M_input b48)))], [(a 8, .inl (g.2.1 1, 200, .inl (M_signs b48)))], [(a 9, .inl (g.2.1 0, 93, .inl (M_told b48)))]] : List va_W).flatten := hD
                  refine cl_sv (csR := [[(a 0, .inr (9, [.ref (a 1), .ref (a 2), .ref (a 3), .ref (a 4), .ref (a 5), .ref (a 6), .int (M_isSaved b48), .int (M_changes b48), .int 0, .int (M_isDenied b48), .int (M_code b48), .int (M_why b48), .int (M_detail b48), .int (M_cause b48), .ref (a 7), .int (M_length b48), .int (M_fault b48), .ref (a 8), .int (M_signMany b48), .int (M_lastOver b48), .int (M_at b48), .ref (a 9), .int (M_toldMany b48)]))], [(a 2, .inl (g.2.1 0, 664, .inl (M_kept b48)))], [(a 3, .inl (g.2.1 0, 83, .inl (M_saved b48)))], [(a 5, .inl (g.2.1 0, 83, .inl (M_trial b48)))], [(a 6, .inl (g.2.1 0, 10, .inl (M_counted b48)))], [(a 7, .inl (g.2.1 0, 60, .inl (M_input b48)))], [(a 8, .inl (g.2.1 1, 200, .inl (M_signs b48)))], [(a 9, .inl (g.2.1 0, 93, .inl (M_told b48)))]]) (csF := [[(a 0, .inr (9, [.ref (a 1), .ref (a 2), .ref (a 3), .ref (a 4), .ref (a 5), .ref (a 6), .int (M_isSaved b48), .int (M_changes b48), .int 0, .int (M_isDenied b48), .int (M_code b48), .int (M_why b48), .int (M_detail b48), .int (M_cause b48), .ref (a 7), .int (M_length b48), .int (M_fault b48), .ref (a 8), .int (M_signMany b48), .int (M_lastOver b48), .int (M_at b48), .ref (a 9), .int (M_toldMany b48)]))], [(a 1, .inl (g.2.1 0, 83, .inl z60))], [(a 2, .inl (g.2.1 0, 664, .inl (M_kept b48)))], [(a 3, .inl (g.2.1 0, 83, .inl (M_saved b48)))], [(a 4, .inl (g.2.1 0, 83, .inl (M_before b48)))], [(a 5, .inl (g.2.1 0, 83, .inl (M_trial b48)))], [(a 6, .inl (g.2.1 0, 10, .inl (M_counted b48)))], [(a 7, .inl (g.2.1 0, 60, .inl (M_input b48)))], [(a 8, .inl (g.2.1 1, 200, .inl (M_signs b48)))], [(a 9, .inl (g.2.1 0, 93, .inl (M_told b48)))]]) (rest := []) hx hb hml hown hts hK hE hA hl hP hD hS (c_X5_copies g l (fun _ => a 4) 83 (fun _ => a 1) 83 (M_before b48) (M_g b48) 0 0 z60 hz60) [4, 1] [0, 2, 3, 5, 6, 7, 8, 9] [0, 9, 1, 2, 8, 3, 4, 5, 6, 7] ⟨rfl, rfl, rfl, rfl, rfl, rfl, rfl⟩ 4 (jb_giS mw_1404 mw_1405 mw_10 mw_1406) ⟨rfl, rfl⟩ (by decide +kernel) ⟨⟨(Nat.le_of_ble_eq_true rfl), (Nat.le_of_ble_eq_true rfl)⟩, (Nat.le_of_ble_eq_true rfl), (Nat.le_of_ble_eq_true rfl)⟩ ⟨rfl, rfl⟩ (Nat.le_of_ble_eq_true rfl) dX5_execute_120 (fun H locs hP hD hS => ?_)
                  have hP : va_P g.1 vwCl ([wMc g a z60 (M_kept b48) (M_saved b48) (M_before b48) (M_trial b48) (M_counted b48) (M_isSaved b48) (M_changes b48) 0 (M_isDenied b48) (M_code b48) (M_why b48) (M_detail b48) (M_cause b48) (M_input b48) (M_length b48) (M_fault b48) (M_signs b48) (M_signMany b48) (M_lastOver b48) (M_at b48) (M_told b48) (M_toldMany b48)] : List va_W).flatten _ := hP
                  have hD : va_D A ([wMc g a z60 (M_kept b48) (M_saved b48) (M_before b48) (M_trial b48) (M_counted b48) (M_isSaved b48) (M_changes b48) 0 (M_isDenied b48) (M_code b48) (M_why b48) (M_detail b48) (M_cause b48) (M_input b48) (M_length b48) (M_fault b48) (M_signs b48) (M_signMany b48) (M_lastOver b48) (M_at b48) (M_told b48) (M_toldMany b48)] : List va_W).flatten := hD
                  refine lv_aload_n hx hb dX5_execute_123 rfl (lv_at hl 0 rfl) ?_
                  refine lv_iload_n hx hb dX5_execute_124 rfl (lv_at hl 1 rfl) ?_
                  obtain ⟨z61, hz61, hF⟩ := ob_bind hF
                  refine cl_i (csR := []) (csF := [wM g a z61.2]) (rest := []) hx hb hml hown hts hK hE hA hl hP hD hS (c_X5_deniesText g l a (mkM z60 (M_kept b48) (M_saved b48) (M_before b48) (M_trial b48) (M_counted b48) (M_isSaved b48) (M_changes b48) 0 (M_isDenied b48) (M_code b48) (M_why b48) (M_detail b48) (M_cause b48) (M_input b48) (M_length b48) (M_fault b48) (M_signs b48) (M_signMany b48) (M_lastOver b48) (M_at b48) (M_told b48) (M_toldMany b48)) x49 z61 hz61) [0] [] [0] ⟨rfl, rfl, rfl, rfl, rfl, rfl, rfl⟩ ⟨0, 9, _, _, rfl, rfl, rfl⟩ 1 (jb_giV mw_1698 mw_1700 ms_67 mw_10 mw_1701) ⟨rfl, rfl⟩ (by decide +kernel) ⟨⟨(Nat.le_of_ble_eq_true rfl), (Nat.le_of_ble_eq_true rfl)⟩, (Nat.le_of_ble_eq_true rfl), (Nat.le_of_ble_eq_true rfl)⟩ ⟨rfl, rfl⟩ (Nat.le_of_ble_eq_true rfl) dX5_execute_125 (fun H locs hP hD hS => ?_)
                  refine lv_iload_n hx hb dX5_execute_128 rfl (lv_at hl 2 rfl) ?_
                  refine lv_if_le (tgt := 136) hx hb dX5_execute_129 (by decide) (fun c62 => ?_) (fun c62 => ?_)
                  · have hF := ob_pos c62 hF
                    refine lv_iload_n hx hb dX5_execute_136 rfl (lv_at hl 2 rfl) ?_
                    refine lv_iadd hx hb dX5_execute_137 ?_
                    cases hF
                    rw [hQ]
                    exact jb_iret hx hb hr hlocks hP hD hS dX5_execute_138 rfl (Nat.le_of_ble_eq_true rfl) (Nat.le_of_ble_eq_true rfl)
                  · have hF := ob_neg c62 hF
                    refine lv_iconst (v := 0) hx hb dX5_execute_132 (by decide) ?_
                    refine lv_goto (tgt := 137) hx hb dX5_execute_133 (by decide) ?_
                    refine lv_iadd hx hb dX5_execute_137 ?_
                    cases hF
                    rw [hQ]
                    exact jb_iret hx hb hr hlocks hP hD hS dX5_execute_138 rfl (Nat.le_of_ble_eq_true rfl) (Nat.le_of_ble_eq_true rfl)
              · have hF := ob_nneg c57 hF
                refine lv_aload_n hx hb dX5_execute_77 rfl (lv_at hl 0 rfl) ?_
                refine lv_iconst (v := 3) hx hb dX5_execute_78 (by decide) ?_
                refine lv_iload_n hx hb dX5_execute_79 rfl (lv_at hl 1 rfl) ?_
                refine lv_imul hx hb dX5_execute_80 ?_
                obtain ⟨z63, hz63, hF⟩ := ob_bind hF
                refine cl_i (csR := []) (csF := [wM g a z63.2]) (rest := []) hx hb hml hown hts hK hE hA hl hP hD hS (c_X5_carries g l a b48 (3 * x49) z63 hz63) [0] [] [0] ⟨rfl, rfl, rfl, rfl, rfl, rfl, rfl⟩ ⟨0, 9, _, _, rfl, rfl, rfl⟩ 1 (jb_giV mw_1687 mw_1689 ms_66 mw_10 mw_1690) ⟨rfl, rfl⟩ (by decide +kernel) ⟨⟨(Nat.le_of_ble_eq_true rfl), (Nat.le_of_ble_eq_true rfl)⟩, (Nat.le_of_ble_eq_true rfl), (Nat.le_of_ble_eq_true rfl)⟩ ⟨rfl, rfl⟩ (Nat.le_of_ble_eq_true rfl) dX5_execute_81 (fun H locs hP hD hS => ?_)
                refine lv_istore_n (lv' := [(3, .int z63.1), (0, .ref (a 0)), (2, .int x49)]) hx hb dX5_execute_84 rfl hl (by decide) rfl (fun ls hl => ?_)
                refine lv_aload_n hx hb dX5_execute_85 rfl (lv_at hl 1 rfl) ?_
                refine va_get (D := g.1) (ci := 9) (v := .int (M_code z63.2)) (C := RX5) (T := TX5) (N := 23) hx hb hts inX5 hown hK hP 0 rfl rfl 10 (by decide) (hts _ mw_1321) (fun _ h9 => h9) rfl dX5_execute_86 ?_
                refine lv_if_ne (tgt := 62) hx hb dX5_execute_89 (by decide) (fun c64 => ?_) (fun c64 => ?_)
                · have hF := ob_pos c64 hF
                  exact ih50 _ _ _ hF _ _ hP hD hS ls (lv_sub hl [1, 2, 0] rfl)
                · have hF := ob_nneg c64 hF
                  refine lv_iinc (v := x49 + 1) (lv' := [(2, .int (x49 + 1)), (3, .int z63.1), (0, .ref (a 0))]) hx hb dX5_execute_92 hl (k := 2) rfl (by rfl) (by decide) rfl (fun ls hl => ?_)
                  refine lv_goto (tgt := 62) hx hb dX5_execute_95 (by decide) ?_
                  exact ih50 _ _ _ hF _ _ hP hD hS ls (lv_sub hl [2, 0, 1] rfl)
        exact loop50 1000 _ _ _ hF _ _ hP hD hS ls (lv_sub hl [3, 1, 0] rfl)
      · have hF := ob_neg c46 hF
        refine lv_iconst (v := 0) hx hb dX5_execute_38 (by decide) ?_
        cases hF
        rw [hQ]
        exact jb_iret hx hb hr hlocks hP hD hS dX5_execute_39 rfl (Nat.le_of_ble_eq_true rfl) (Nat.le_of_ble_eq_true rfl)
    · have hF := ob_neg c44 hF
      refine lv_iconst (v := 0) hx hb dX5_execute_27 (by decide) ?_
      refine lv_goto (tgt := 32) hx hb dX5_execute_28 (by decide) ?_
      obtain ⟨z65, hz65, hF⟩ := ob_bind hF
      refine cl_i (csR := []) (csF := [wM g a z65.2]) (rest := []) hx hb hml hown hts hK hE hA hl hP hD hS (c_X5_fails g l a (mkM (M_g z1.2) (M_kept z1.2) (M_saved z1.2) (M_before z1.2) (M_trial z1.2) (M_counted z1.2) (M_isSaved z1.2) (M_changes z1.2) (M_isWithin z1.2) (M_isDenied z1.2) (M_code z1.2) (M_why z1.2) (M_detail z1.2) (M_cause z1.2) (M_input z1.2) 0 (M_at z1.2) (M_signs z1.2) (M_signMany z1.2) (M_lastOver z1.2) (M_at z1.2) (M_told z1.2) (M_toldMany z1.2)) 0 z65 hz65) [0] [] [0] ⟨rfl, rfl, rfl, rfl, rfl, rfl, rfl⟩ ⟨0, 9, _, _, rfl, rfl, rfl⟩ 1 (jb_giV mw_1392 mw_1394 ms_32 mw_10 mw_1395) ⟨rfl, rfl⟩ (by decide +kernel) ⟨⟨(Nat.le_of_ble_eq_true rfl), (Nat.le_of_ble_eq_true rfl)⟩, (Nat.le_of_ble_eq_true rfl), (Nat.le_of_ble_eq_true rfl)⟩ ⟨rfl, rfl⟩ (Nat.le_of_ble_eq_true rfl) dX5_execute_32 (fun H locs hP hD hS => ?_)
      refine lv_if_eq (tgt := 40) hx hb dX5_execute_35 (by decide) (fun c66 => ?_) (fun c66 => ?_)
      · have hF := ob_pos c66 hF
        refine lv_aload_n hx hb dX5_execute_40 rfl (lv_at hl 1 rfl) ?_
        refine va_get (D := g.1) (ci := 9) (v := .ref (a 1)) (C := RX5) (T := TX5) (N := 23) hx hb hts inX5 hown hK hP 0 rfl rfl 0 (by decide) (hts _ mw_1311) (fun _ h9 => h9) rfl dX5_execute_41 ?_
        refine lv_iconst (v := 0) hx hb dX5_execute_44 (by decide) ?_
        refine lv_aload_n hx hb dX5_execute_45 rfl (lv_at hl 1 rfl) ?_
        refine va_get (D := g.1) (ci := 9) (v := .ref (a 4)) (C := RX5) (T := TX5) (N := 23) hx hb hts inX5 hown hK hP 0 rfl rfl 3 (by decide) (hts _ mw_1314) (fun _ h9 => h9) rfl dX5_execute_46 ?_
        refine lv_iconst (v := 0) hx hb dX5_execute_49 (by decide) ?_
        obtain ⟨z67, hz67, hF⟩ := ob_bind hF
        have hP : va_P g.1 vwCl ([[(a 0, .inr (9, [.ref (a 1), .ref (a 2), .ref (a 3), .ref (a 4), .ref (a 5), .ref (a 6), .int (M_isSaved z65.2), .int (M_changes z65.2), .int (M_isWithin z65.2), .int (M_isDenied z65.2), .int (M_code z65.2), .int (M_why z65.2), .int (M_detail z65.2), .int (M_cause z65.2), .ref (a 7), .int (M_length z65.2), .int (M_fault z65.2), .ref (a 8), .int (M_signMany z65.2), .int (M_lastOver z65.2), .int (M_at z65.2), .ref (a 9), .int (M_toldMany z65.2)]))], [(a 1, .inl (g.2.1 0, 83, .inl (M_g z65.2)))], [(a 2, .inl (g.2.1 0, 664, .inl (M_kept z65.2)))], [(a 3, .inl (g.2.1 0, 83, .inl (M_saved z65.2)))], [(a 4, .inl (g.2.1 0, 83, .inl (M_before z65.2)))], [(a 5, .inl (g.2.1 0, 83, .inl (M_trial z65.2)))], [(a 6, .inl (g.2.1 0, 10, .inl (M_counted z65.2)))], [(a 7, .inl (g.2.1 0, 60, .inl (M_input z65.2)))], [(a 8, .inl (g.2.1 1, 200, .inl (M_signs z65.2)))], [(a 9, .inl (g.2.1 0, 93, .inl (M_told z65.2)))]] : List va_W).flatten _ := hP
        have hD : va_D A ([[(a 0, .inr (9, [.ref (a 1), .ref (a 2), .ref (a 3), .ref (a 4), .ref (a 5), .ref (a 6), .int (M_isSaved z65.2), .int (M_changes z65.2), .int (M_isWithin z65.2), .int (M_isDenied z65.2), .int (M_code z65.2), .int (M_why z65.2), .int (M_detail z65.2), .int (M_cause z65.2), .ref (a 7), .int (M_length z65.2), .int (M_fault z65.2), .ref (a 8), .int (M_signMany z65.2), .int (M_lastOver z65.2), .int (M_at z65.2), .ref (a 9), .int (M_toldMany z65.2)]))], [(a 1, .inl (g.2.1 0, 83, .inl (M_g z65.2)))], [(a 2, .inl (g.2.1 0, 664, .inl (M_kept z65.2)))], [(a 3, .inl (g.2.1 0, 83, .inl (M_saved z65.2)))], [(a 4, .inl (g.2.1 0, 83, .inl (M_before z65.2)))], [(a 5, .inl (g.2.1 0, 83, .inl (M_trial z65.2)))], [(a 6, .inl (g.2.1 0, 10, .inl (M_counted z65.2)))], [(a 7, .inl (g.2.1 0, 60, .inl (M_input z65.2)))], [(a 8, .inl (g.2.1 1, 200, .inl (M_signs z65.2)))], [(a 9, .inl (g.2.1 0, 93, .inl (M_told z65.2)))]] : List va_W).flatten := hD
        refine cl_sv (csR := [[(a 0, .inr (9, [.ref (a 1), .ref (a 2), .ref (a 3), .ref (a 4), .ref (a 5), .ref (a 6), .int (M_isSaved z65.2), .int (M_changes z65.2), .int (M_isWithin z65.2), .int (M_isDenied z65.2), .int (M_code z65.2), .int (M_why z65.2), .int (M_detail z65.2), .int (M_cause z65.2), .ref (a 7), .int (M_length z65.2), .int (M_fault z65.2), .ref (a 8), .int (M_signMany z65.2), .int (M_lastOver z65.2), .int (M_at z65.2), .ref (a 9), .int (M_toldMany z65.2)]))], [(a 2, .inl (g.2.1 0, 664, .inl (M_kept z65.2)))], [(a 3, .inl (g.2.1 0, 83, .inl (M_saved z65.2)))], [(a 5, .inl (g.2.1 0, 83, .inl (M_trial z65.2)))], [(a 6, .inl (g.2.1 0, 10, .inl (M_counted z65.2)))], [(a 7, .inl (g.2.1 0, 60, .inl (M_input z65.2)))], [(a 8, .inl (g.2.1 1, 200, .inl (M_signs z65.2)))], [(a 9, .inl (g.2.1 0, 93, .inl (M_told z65.2)))]]) (csF := [[(a 0, .inr (9, [.ref (a 1), .ref (a 2), .ref (a 3), .ref (a 4), .ref (a 5), .ref (a 6), .int (M_isSaved z65.2), .int (M_changes z65.2), .int (M_isWithin z65.2), .int (M_isDenied z65.2), .int (M_code z65.2), .int (M_why z65.2), .int (M_detail z65.2), .int (M_cause z65.2), .ref (a 7), .int (M_length z65.2), .int (M_fault z65.2), .ref (a 8), .int (M_signMany z65.2), .int (M_lastOver z65.2), .int (M_at z65.2), .ref (a 9), .int (M_toldMany z65.2)]))], [(a 1, .inl (g.2.1 0, 83, .inl (M_g z65.2)))], [(a 2, .inl (g.2.1 0, 664, .inl (M_kept z65.2)))], [(a 3, .inl (g.2.1 0, 83, .inl (M_saved z65.2)))], [(a 4, .inl (g.2.1 0, 83, .inl z67))], [(a 5, .inl (g.2.1 0, 83, .inl (M_trial z65.2)))], [(a 6, .inl (g.2.1 0, 10, .inl (M_counted z65.2)))], [(a 7, .inl (g.2.1 0, 60, .inl (M_input z65.2)))], [(a 8, .inl (g.2.1 1, 200, .inl (M_signs z65.2)))], [(a 9, .inl (g.2.1 0, 93, .inl (M_told z65.2)))]]) (rest := []) hx hb hml hown hts hK hE hA hl hP hD hS (c_X5_copies g l (fun _ => a 1) 83 (fun _ => a 4) 83 (M_g z65.2) (M_before z65.2) 0 0 z67 hz67) [1, 4] [0, 2, 3, 5, 6, 7, 8, 9] [0, 8, 1, 2, 9, 3, 4, 5, 6, 7] ⟨rfl, rfl, rfl, rfl, rfl, rfl, rfl⟩ 4 (jb_giS mw_1404 mw_1405 mw_10 mw_1406) ⟨rfl, rfl⟩ (by decide +kernel) ⟨⟨(Nat.le_of_ble_eq_true rfl), (Nat.le_of_ble_eq_true rfl)⟩, (Nat.le_of_ble_eq_true rfl), (Nat.le_of_ble_eq_true rfl)⟩ ⟨rfl, rfl⟩ (Nat.le_of_ble_eq_true rfl) dX5_execute_50 (fun H locs hP hD hS => ?_)
        have hP : va_P g.1 vwCl ([wMc g a (M_g z65.2) (M_kept z65.2) (M_saved z65.2) z67 (M_trial z65.2) (M_counted z65.2) (M_isSaved z65.2) (M_changes z65.2) (M_isWithin z65.2) (M_isDenied z65.2) (M_code z65.2) (M_why z65.2) (M_detail z65.2) (M_cause z65.2) (M_input z65.2) (M_length z65.2) (M_fault z65.2) (M_signs z65.2) (M_signMany z65.2) (M_lastOver z65.2) (M_at z65.2) (M_told z65.2) (M_toldMany z65.2)] : List va_W).flatten _ := hP
        have hD : va_D A ([wMc g a (M_g z65.2) (M_kept z65.2) (M_saved z65.2) z67 (M_trial z65.2) (M_counted z65.2) (M_isSaved z65.2) (M_changes z65.2) (M_isWithin z65.2) (M_isDenied z65.2) (M_code z65.2) (M_why z65.2) (M_detail z65.2) (M_cause z65.2) (M_input z65.2) (M_length z65.2) (M_fault z65.2) (M_signs z65.2) (M_signMany z65.2) (M_lastOver z65.2) (M_at z65.2) (M_told z65.2) (M_toldMany z65.2)] : List va_W).flatten := hD
        refine lv_aload_n hx hb dX5_execute_53 rfl (lv_at hl 1 rfl) ?_
        refine lv_iconst (v := 1) hx hb dX5_execute_54 (by decide) ?_
        refine va_put (D := g.1) (ci := 9) (v := .int 1) (ty := .boolean) (C := RX5) (T := TX5) (N := 23) hx hb hts inX5 tyX5 tyX5_ok nmX5 hown hK hP hD hS 0 rfl rfl 8 (by decide) (hts _ mw_1319) (fun _ h9 => h9) rfl (by decide +kernel) rfl rfl (Nat.le_of_ble_eq_true rfl) dX5_execute_55 (fun H locs hP hD hS => ?_)
        have hP : va_P g.1 vwCl ([wMc g a (M_g z65.2) (M_kept z65.2) (M_saved z65.2) z67 (M_trial z65.2) (M_counted z65.2) (M_isSaved z65.2) (M_changes z65.2) 1 (M_isDenied z65.2) (M_code z65.2) (M_why z65.2) (M_detail z65.2) (M_cause z65.2) (M_input z65.2) (M_length z65.2) (M_fault z65.2) (M_signs z65.2) (M_signMany z65.2) (M_lastOver z65.2) (M_at z65.2) (M_told z65.2) (M_toldMany z65.2)] : List va_W).flatten _ := hP
        have hD : va_D A ([wMc g a (M_g z65.2) (M_kept z65.2) (M_saved z65.2) z67 (M_trial z65.2) (M_counted z65.2) (M_isSaved z65.2) (M_changes z65.2) 1 (M_isDenied z65.2) (M_code z65.2) (M_why z65.2) (M_detail z65.2) (M_cause z65.2) (M_input z65.2) (M_length z65.2) (M_fault z65.2) (M_signs z65.2) (M_signMany z65.2) (M_lastOver z65.2) (M_at z65.2) (M_told z65.2) (M_toldMany z65.2)] : List va_W).flatten := hD
        refine lv_iconst (v := 0) hx hb dX5_execute_58 (by decide) ?_
        refine lv_istore_n (lv' := [(2, .int 0), (1, .int (bi z1.1)), (0, .ref (a 0))]) hx hb dX5_execute_59 rfl hl (by decide) rfl (fun ls hl => ?_)
        refine lv_iconst (v := 0) hx hb dX5_execute_60 (by decide) ?_
        refine lv_istore_n (lv' := [(3, .int 0), (2, .int 0), (1, .int (bi z1.1)), (0, .ref (a 0))]) hx hb dX5_execute_61 rfl hl (by decide) rfl (fun ls hl => ?_)
        obtain ⟨k70, ek70, hF⟩ := ob_k (F := fun k9 => F_X5_execute_L62  k9 1000 (mkM (M_g z65.2) (M_kept z65.2) (M_saved z65.2) z67 (M_trial z65.2) (M_counted z65.2) (M_isSaved z65.2) (M_changes z65.2) 1 (M_isDenied z65.2) (M_code z65.2) (M_why z65.2) (M_detail z65.2) (M_cause z65.2) (M_input z65.2) (M_length z65.2) (M_fault z65.2) (M_signs z65.2) (M_signMany z65.2) (M_lastOver z65.2) (M_at z65.2) (M_told z65.2) (M_toldMany z65.2)) 0 0) hF
        have loop70 : ∀ (n9 : Nat) (b68 : Mv) (x69 : Int32) (x70 : Int32), F_X5_execute_L62  k70 n9 b68 x69 x70 = some z → ∀ (H : Heap) (locs : List Loc), va_P g.1 vwCl ([wM g a b68] : List va_W).flatten H → va_D A ([wM g a b68] : List va_W).flatten → va_S A s.heap H locs → ∀ ls : Array Slot, lv_has ls 4 [(0, .ref (a 0)), (2, .int x69), (3, .int x70)] → W p l e ({ frames := 8, cells := 0, slots := 0, locals := 176 } : Room) s m ([.ref (a 0)] : List Value).toArray below meth c H locs 0 0 Q (F0 m 62 ls []) := by
          intro n9
          induction n9 with
          | zero => intro b68 x69 x70 hF; rw [F_X5_execute_L62] at hF; cases hF
          | succ n9 ih70 =>
            intro b68 x69 x70 hF H locs hP hD hS ls hl
            rw [F_X5_execute_L62] at hF
            refine lv_iload_n hx hb dX5_execute_62 rfl (lv_at hl 1 rfl) ?_
            refine lv_aload_n hx hb dX5_execute_63 rfl (lv_at hl 0 rfl) ?_
            refine va_get (D := g.1) (ci := 9) (v := .int (M_toldMany b68)) (C := RX5) (T := TX5) (N := 23) hx hb hts inX5 hown hK hP 0 rfl rfl 22 (by decide) (hts _ mw_1333) (fun _ h9 => h9) rfl dX5_execute_64 ?_
            refine lv_icmp_ge (tgt := 98) hx hb dX5_execute_67 (by decide) (fun c71 => ?_) (fun c71 => ?_)
            · have hF := ob_pos c71 hF
              rw [ek70] at hF
              refine lv_aload_n hx hb dX5_execute_98 rfl (lv_at hl 0 rfl) ?_
              refine lv_iconst (v := 0) hx hb dX5_execute_99 (by decide) ?_
              refine va_put (D := g.1) (ci := 9) (v := .int 0) (ty := .boolean) (C := RX5) (T := TX5) (N := 23) hx hb hts inX5 tyX5 tyX5_ok nmX5 hown hK hP hD hS 0 rfl rfl 8 (by decide) (hts _ mw_1319) (fun _ h9 => h9) rfl (by decide +kernel) rfl rfl (Nat.le_of_ble_eq_true rfl) dX5_execute_100 (fun H locs hP hD hS => ?_)
              have hP : va_P g.1 vwCl ([wMc g a (M_g b68) (M_kept b68) (M_saved b68) (M_before b68) (M_trial b68) (M_counted b68) (M_isSaved b68) (M_changes b68) 0 (M_isDenied b68) (M_code b68) (M_why b68) (M_detail b68) (M_cause b68) (M_input b68) (M_length b68) (M_fault b68) (M_signs b68) (M_signMany b68) (M_lastOver b68) (M_at b68) (M_told b68) (M_toldMany b68)] : List va_W).flatten _ := hP
              have hD : va_D A ([wMc g a (M_g b68) (M_kept b68) (M_saved b68) (M_before b68) (M_trial b68) (M_counted b68) (M_isSaved b68) (M_changes b68) 0 (M_isDenied b68) (M_code b68) (M_why b68) (M_detail b68) (M_cause b68) (M_input b68) (M_length b68) (M_fault b68) (M_signs b68) (M_signMany b68) (M_lastOver b68) (M_at b68) (M_told b68) (M_toldMany b68)] : List va_W).flatten := hD
              refine lv_aload_n hx hb dX5_execute_103 rfl (lv_at hl 0 rfl) ?_
              refine va_get (D := g.1) (ci := 9) (v := .int (M_code b68)) (C := RX5) (T := TX5) (N := 23) hx hb hts inX5 hown hK hP 0 rfl rfl 10 (by decide) (hts _ mw_1321) (fun _ h9 => h9) rfl dX5_execute_104 ?_
              refine lv_if_le (tgt := 139) hx hb dX5_execute_107 (by decide) (fun c72 => ?_) (fun c72 => ?_)
              · have hF := ob_pos c72 hF
                refine lv_aload_n hx hb dX5_execute_139 rfl (lv_at hl 0 rfl) ?_
                refine lv_aload_n hx hb dX5_execute_140 rfl (lv_at hl 0 rfl) ?_
                refine va_get (D := g.1) (ci := 9) (v := .ref (a 4)) (C := RX5) (T := TX5) (N := 23) hx hb hts inX5 hown hK hP 0 rfl rfl 3 (by decide) (hts _ mw_1314) (fun _ h9 => h9) rfl dX5_execute_141 ?_
                obtain ⟨z73, hz73, hF⟩ := ob_bind hF
                refine cl_v (csR := []) (csF := [wM g a z73]) (rest := []) hx hb hml hown hts hK hE hA hl hP hD hS (c_X5_keeps_b g l a (mkM (M_g b68) (M_kept b68) (M_saved b68) (M_before b68) (M_trial b68) (M_counted b68) (M_isSaved b68) (M_changes b68) 0 (M_isDenied b68) (M_code b68) (M_why b68) (M_detail b68) (M_cause b68) (M_input b68) (M_length b68) (M_fault b68) (M_signs b68) (M_signMany b68) (M_lastOver b68) (M_at b68) (M_told b68) (M_toldMany b68)) z73 hz73) [0] [] [0] ⟨rfl, rfl, rfl, rfl, rfl, rfl, rfl⟩ ⟨0, 9, _, _, rfl, rfl, rfl⟩ 1 (jb_giV mw_1400 mw_1402 ms_34 mw_10 mw_1403) ⟨rfl, rfl⟩ (by decide +kernel) ⟨⟨(Nat.le_of_ble_eq_true rfl), (Nat.le_of_ble_eq_true rfl)⟩, (Nat.le_of_ble_eq_true rfl), (Nat.le_of_ble_eq_true rfl)⟩ ⟨rfl, rfl⟩ (Nat.le_of_ble_eq_true rfl) dX5_execute_144 (fun H locs hP hD hS => ?_)
                refine lv_aload_n hx hb dX5_execute_147 rfl (lv_at hl 0 rfl) ?_
                refine va_get (D := g.1) (ci := 9) (v := .int (M_toldMany z73)) (C := RX5) (T := TX5) (N := 23) hx hb hts inX5 hown hK hP 0 rfl rfl 22 (by decide) (hts _ mw_1333) (fun _ h9 => h9) rfl dX5_execute_148 ?_
                cases hF
                rw [hQ]
                exact jb_iret hx hb hr hlocks hP hD hS dX5_execute_151 rfl (Nat.le_of_ble_eq_true rfl) (Nat.le_of_ble_eq_true rfl)
              · have hF := ob_neg c72 hF
                refine lv_aload_n hx hb dX5_execute_110 rfl (lv_at hl 0 rfl) ?_
                refine va_get (D := g.1) (ci := 9) (v := .ref (a 4)) (C := RX5) (T := TX5) (N := 23) hx hb hts inX5 hown hK hP 0 rfl rfl 3 (by decide) (hts _ mw_1314) (fun _ h9 => h9) rfl dX5_execute_111 ?_
                refine lv_iconst (v := 0) hx hb dX5_execute_114 (by decide) ?_
                refine lv_aload_n hx hb dX5_execute_115 rfl (lv_at hl 0 rfl) ?_
                refine va_get (D := g.1) (ci := 9) (v := .ref (a 1)) (C := RX5) (T := TX5) (N := 23) hx hb hts inX5 hown hK hP 0 rfl rfl 0 (by decide) (hts _ mw_1311) (fun _ h9 => h9) rfl dX5_execute_116 ?_
                refine lv_iconst (v := 0) hx hb dX5_execute_119 (by decide) ?_
                obtain ⟨z74, hz74, hF⟩ := ob_bind hF
                have hP : va_P g.1 vwCl ([[(a 0, .inr (9, [.ref (a 1), .ref (a 2), .ref (a 3), .ref (a 4), .ref (a 5), .ref (a 6), .int (M_isSaved b68), .int (M_changes b68), .int 0, .int (M_isDenied b68), .int (M_code b68), .int (M_why b68), .int (M_detail b68), .int (M_cause b68), .ref (a 7), .int (M_length b68), .int (M_fault b68), .ref (a 8), .int (M_signMany b68), .int (M_lastOver b68), .int (M_at b68), .ref (a 9), .int (M_toldMany b68)]))], [(a 1, .inl (g.2.1 0, 83, .inl (M_g b68)))], [(a 2, .inl (g.2.1 0, 664, .inl (M_kept b68)))], [(a 3, .inl (g.2.1 0, 83, .inl (M_saved b68)))], [(a 4, .inl (g.2.1 0, 83, .inl (M_before b68)))], [(a 5, .inl (g.2.1 0, 83, .inl (M_trial b68)))], [(a 6, .inl (g.2.1 0, 10, .inl (M_counted b68)))], [(a 7, .inl (g.2.1 0, 60, .inl (M_input b68)))], [(a 8, .inl (g.2.1 1, 200, .inl (M_signs b68)))], [(a 9, .inl (g.2.1 0, 93, .inl (M_told b68)))]] : List va_W).flatten _ := hP
                have hD : va_D A ([[(a 0, .inr (9, [.ref (a 1), .ref (a 2), .ref (a 3), .ref (a 4), .ref (a 5), .ref (a 6), .int (M_isSaved b68), .int (M_changes b68), .int 0, .int (M_isDenied b68), .int (M_code b68), .int (M_why b68), .int (M_detail b68), .int (M_cause b68), .ref (a 7), .int (M_length b68), .int (M_fault b68), .ref (a 8), .int (M_signMany b68), .int (M_lastOver b68), .int (M_at b68), .ref (a 9), .int (M_toldMany b68)]))], [(a 1, .inl (g.2.1 0, 83, .inl (M_g b68)))], [(a 2, .inl (g.2.1 0, 664, .inl (M_kept b68)))], [(a 3, .inl (g.2.1 0, 83, .inl (M_saved b68)))], [(a 4, .inl (g.2.1 0, 83, .inl (M_before b68)))], [(a 5, .inl (g.2.1 0, 83, .inl (M_trial b68)))], [(a 6, .inl (g.2.1 0, 10, .inl (M_counted b68)))], [(a 7, .inl (g.2.1 0, 60, .inl (M_input b68)))], [(a 8, .inl (g.2.1 1, 200, .inl (M_signs b68)))], [(a 9, .inl (g.2.1 0, 93, .inl (M_told b68)))]] : List va_W).flatten := hD
                refine cl_sv (csR := [[(a 0, .inr (9, [.ref (a 1), .ref (a 2), .ref (a 3), .ref (a 4), .ref (a 5), .ref (a 6), .int (M_isSaved b68), .int (M_changes b68), .int 0, .int (M_isDenied b68), .int (M_code b68), .int (M_why b68), .int (M_detail b68), .int (M_cause b68), .ref (a 7), .int (M_length b68), .int (M_fault b68), .ref (a 8), .int (M_signMany b68), .int (M_lastOver b68), .int (M_at b68), .ref (a 9), .int (M_toldMany b68)]))], [(a 2, .inl (g.2.1 0, 664, .inl (M_kept b68)))], [(a 3, .inl (g.2.1 0, 83, .inl (M_saved b68)))], [(a 5, .inl (g.2.1 0, 83, .inl (M_trial b68)))], [(a 6, .inl (g.2.1 0, 10, .inl (M_counted b68)))], [(a 7, .inl (g.2.1 0, 60, .inl (M_input b68)))], [(a 8, .inl (g.2.1 1, 200, .inl (M_signs b68)))], [(a 9, .inl (g.2.1 0, 93, .inl (M_told b68)))]]) (csF := [[(a 0, .inr (9, [.ref (a 1), .ref (a 2), .ref (a 3), .ref (a 4), .ref (a 5), .ref (a 6), .int (M_isSaved b68), .int (M_changes b68), .int 0, .int (M_isDenied b68), .int (M_code b68), .int (M_why b68), .int (M_detail b68), .int (M_cause b68), .ref (a 7), .int (M_length b68), .int (M_fault b68), .ref (a 8), .int (M_signMany b68), .int (M_lastOver b68), .int (M_at b68), .ref (a 9), .int (M_toldMany b68)]))], [(a 1, .inl (g.2.1 0, 83, .inl z74))], [(a 2, .inl (g.2.1 0, 664, .inl (M_kept b68)))], [(a 3, .inl (g.2.1 0, 83, .inl (M_saved b68)))], [(a 4, .inl (g.2.1 0, 83, .inl (M_before b68)))], [(a 5, .inl (g.2.1 0, 83, .inl (M_trial b68)))], [(a 6, .inl (g.2.1 0, 10, .inl (M_counted b68)))], [(a 7, .inl (g.2.1 0, 60, .inl (M_input b68)))], [(a 8, .inl (g.2.1 1, 200, .inl (M_signs b68)))], [(a 9, .inl (g.2.1 0, 93, .inl (M_told b68)))]]) (rest := []) hx hb hml hown hts hK hE hA hl hP hD hS (c_X5_copies g l (fun _ => a 4) 83 (fun _ => a 1) 83 (M_before b68) (M_g b68) 0 0 z74 hz74) [4, 1] [0, 2, 3, 5, 6, 7, 8, 9] [0, 9, 1, 2, 8, 3, 4, 5, 6, 7] ⟨rfl, rfl, rfl, rfl, rfl, rfl, rfl⟩ 4 (jb_giS mw_1404 mw_1405 mw_10 mw_1406) ⟨rfl, rfl⟩ (by decide +kernel) ⟨⟨(Nat.le_of_ble_eq_true rfl), (Nat.le_of_ble_eq_true rfl)⟩, (Nat.le_of_ble_eq_true rfl), (Nat.le_of_ble_eq_true rfl)⟩ ⟨rfl, rfl⟩ (Nat.le_of_ble_eq_true rfl) dX5_execute_120 (fun H locs hP hD hS => ?_)
                have hP : va_P g.1 vwCl ([wMc g a z74 (M_kept b68) (M_saved b68) (M_before b68) (M_trial b68) (M_counted b68) (M_isSaved b68) (M_changes b68) 0 (M_isDenied b68) (M_code b68) (M_why b68) (M_detail b68) (M_cause b68) (M_input b68) (M_length b68) (M_fault b68) (M_signs b68) (M_signMany b68) (M_lastOver b68) (M_at b68) (M_told b68) (M_toldMany b68)] : List va_W).flatten _ := hP
                have hD : va_D A ([wMc g a z74 (M_kept b68) (M_saved b68) (M_before b68) (M_trial b68) (M_counted b68) (M_isSaved b68) (M_changes b68) 0 (M_isDenied b68) (M_code b68) (M_why b68) (M_detail b68) (M_cause b68) (M_input b68) (M_length b68) (M_fault b68) (M_signs b68) (M_signMany b68) (M_lastOver b68) (M_at b68) (M_told b68) (M_toldMany b68)] : List va_W).flatten := hD
                refine lv_aload_n hx hb dX5_execute_123 rfl (lv_at hl 0 rfl) ?_
                refine lv_iload_n hx hb dX5_execute_124 rfl (lv_at hl 1 rfl) ?_
                obtain ⟨z75, hz75, hF⟩ := ob_bind hF
                refine cl_i (csR := []) (csF := [wM g a z75.2]) (rest := []) hx hb hml hown hts hK hE hA hl hP hD hS (c_X5_deniesText g l a (mkM z74 (M_kept b68) (M_saved b68) (M_before b68) (M_trial b68) (M_counted b68) (M_isSaved b68) (M_changes b68) 0 (M_isDenied b68) (M_code b68) (M_why b68) (M_detail b68) (M_cause b68) (M_input b68) (M_length b68) (M_fault b68) (M_signs b68) (M_signMany b68) (M_lastOver b68) (M_at b68) (M_told b68) (M_toldMany b68)) x69 z75 hz75) [0] [] [0] ⟨rfl, rfl, rfl, rfl, rfl, rfl, rfl⟩ ⟨0, 9, _, _, rfl, rfl, rfl⟩ 1 (jb_giV mw_1698 mw_1700 ms_67 mw_10 mw_1701) ⟨rfl, rfl⟩ (by decide +kernel) ⟨⟨(Nat.le_of_ble_eq_true rfl), (Nat.le_of_ble_eq_true rfl)⟩, (Nat.le_of_ble_eq_true rfl), (Nat.le_of_ble_eq_true rfl)⟩ ⟨rfl, rfl⟩ (Nat.le_of_ble_eq_true rfl) dX5_execute_125 (fun H locs hP hD hS => ?_)
                refine lv_iload_n hx hb dX5_execute_128 rfl (lv_at hl 2 rfl) ?_
                refine lv_if_le (tgt := 136) hx hb dX5_execute_129 (by decide) (fun c76 => ?_) (fun c76 => ?_)
                · have hF := ob_pos c76 hF
                  refine lv_iload_n hx hb dX5_execute_136 rfl (lv_at hl 2 rfl) ?_
                  refine lv_iadd hx hb dX5_execute_137 ?_
                  cases hF
                  rw [hQ]
                  exact jb_iret hx hb hr hlocks hP hD hS dX5_execute_138 rfl (Nat.le_of_ble_eq_true rfl) (Nat.le_of_ble_eq_true rfl)
                · have hF := ob_neg c76 hF
                  refine lv_iconst (v := 0) hx hb dX5_execute_132 (by decide) ?_
                  refine lv_goto (tgt := 137) hx hb dX5_execute_133 (by decide) ?_
                  refine lv_iadd hx hb dX5_execute_137 ?_
                  cases hF
                  rw [hQ]
                  exact jb_iret hx hb hr hlocks hP hD hS dX5_execute_138 rfl (Nat.le_of_ble_eq_true rfl) (Nat.le_of_ble_eq_true rfl)
            · have hF := ob_neg c71 hF
              refine lv_aload_n hx hb dX5_execute_70 rfl (lv_at hl 0 rfl) ?_
              refine va_get (D := g.1) (ci := 9) (v := .int (M_code b68)) (C := RX5) (T := TX5) (N := 23) hx hb hts inX5 hown hK hP 0 rfl rfl 10 (by decide) (hts _ mw_1321) (fun _ h9 => h9) rfl dX5_execute_71 ?_
              refine lv_if_ne (tgt := 98) hx hb dX5_execute_74 (by decide) (fun c77 => ?_) (fun c77 => ?_)
              · have hF := ob_pos c77 hF
                rw [ek70] at hF
                refine lv_aload_n hx hb dX5_execute_98 rfl (lv_at hl 0 rfl) ?_
                refine lv_iconst (v := 0) hx hb dX5_execute_99 (by decide) ?_
                refine va_put (D := g.1) (ci := 9) (v := .int 0) (ty := .boolean) (C := RX5) (T := TX5) (N := 23) hx hb hts inX5 tyX5 tyX5_ok nmX5 hown hK hP hD hS 0 rfl rfl 8 (by decide) (hts _ mw_1319) (fun _ h9 => h9) rfl (by decide +kernel) rfl rfl (Nat.le_of_ble_eq_true rfl) dX5_execute_100 (fun H locs hP hD hS => ?_)
                have hP : va_P g.1 vwCl ([wMc g a (M_g b68) (M_kept b68) (M_saved b68) (M_before b68) (M_trial b68) (M_counted b68) (M_isSaved b68) (M_changes b68) 0 (M_isDenied b68) (M_code b68) (M_why b68) (M_detail b68) (M_cause b68) (M_input b68) (M_length b68) (M_fault b68) (M_signs b68) (M_signMany b68) (M_lastOver b68) (M_at b68) (M_told b68) (M_toldMany b68)] : List va_W).flatten _ := hP
                have hD : va_D A ([wMc g a (M_g b68) (M_kept b68) (M_saved b68) (M_before b68) (M_trial b68) (M_counted b68) (M_isSaved b68) (M_changes b68) 0 (M_isDenied b68) (M_code b68) (M_why b68) (M_detail b68) (M_cause b68) (M_input b68) (M_length b68) (M_fault b68) (M_signs b68) (M_signMany b68) (M_lastOver b68) (M_at b68) (M_told b68) (M_toldMany b68)] : List va_W).flatten := hD
                refine lv_aload_n hx hb dX5_execute_103 rfl (lv_at hl 0 rfl) ?_
                refine va_get (D := g.1) (ci := 9) (v := .int (M_code b68)) (C := RX5) (T := TX5) (N := 23) hx hb hts inX5 hown hK hP 0 rfl rfl 10 (by decide) (hts _ mw_1321) (fun _ h9 => h9) rfl dX5_execute_104 ?_
                refine lv_if_le (tgt := 139) hx hb dX5_execute_107 (by decide) (fun c78 => ?_) (fun c78 => ?_)
                · have hF := ob_pos c78 hF
                  refine lv_aload_n hx hb dX5_execute_139 rfl (lv_at hl 0 rfl) ?_
                  refine lv_aload_n hx hb dX5_execute_140 rfl (lv_at hl 0 rfl) ?_
                  refine va_get (D := g.1) (ci := 9) (v := .ref (a 4)) (C := RX5) (T := TX5) (N := 23) hx hb hts inX5 hown hK hP 0 rfl rfl 3 (by decide) (hts _ mw_1314) (fun _ h9 => h9) rfl dX5_execute_141 ?_
                  obtain ⟨z79, hz79, hF⟩ := ob_bind hF
                  refine cl_v (csR := []) (csF := [wM g a z79]) (rest := []) hx hb hml hown hts hK hE hA hl hP hD hS (c_X5_keeps_b g l a (mkM (M_g b68) (M_kept b68) (M_saved b68) (M_before b68) (M_trial b68) (M_counted b68) (M_isSaved b68) (M_changes b68) 0 (M_isDenied b68) (M_code b68) (M_why b68) (M_detail b68) (M_cause b68) (M_input b68) (M_length b68) (M_fault b68) (M_signs b68) (M_signMany b68) (M_lastOver b68) (M_at b68) (M_told b68) (M_toldMany b68)) z79 hz79) [0] [] [0] ⟨rfl, rfl, rfl, rfl, rfl, rfl, rfl⟩ ⟨0, 9, _, _, rfl, rfl, rfl⟩ 1 (jb_giV mw_1400 mw_1402 ms_34 mw_10 mw_1403) ⟨rfl, rfl⟩ (by decide +kernel) ⟨⟨(Nat.le_of_ble_eq_true rfl), (Nat.le_of_ble_eq_true rfl)⟩, (Nat.le_of_ble_eq_true rfl), (Nat.le_of_ble_eq_true rfl)⟩ ⟨rfl, rfl⟩ (Nat.le_of_ble_eq_true rfl) dX5_execute_144 (fun H locs hP hD hS => ?_)
                  refine lv_aload_n hx hb dX5_execute_147 rfl (lv_at hl 0 rfl) ?_
                  refine va_get (D := g.1) (ci := 9) (v := .int (M_toldMany z79)) (C := RX5) (T := TX5) (N := 23) hx hb hts inX5 hown hK hP 0 rfl rfl 22 (by decide) (hts _ mw_1333) (fun _ h9 => h9) rfl dX5_execute_148 ?_
                  cases hF
                  rw [hQ]
                  exact jb_iret hx hb hr hlocks hP hD hS dX5_execute_151 rfl (Nat.le_of_ble_eq_true rfl) (Nat.le_of_ble_eq_true rfl)
                · have hF := ob_neg c78 hF
                  refine lv_aload_n hx hb dX5_execute_110 rfl (lv_at hl 0 rfl) ?_
                  refine va_get (D := g.1) (ci := 9) (v := .ref (a 4)) (C := RX5) (T := TX5) (N := 23) hx hb hts inX5 hown hK hP 0 rfl rfl 3 (by decide) (hts _ mw_1314) (fun _ h9 => h9) rfl dX5_execute_111 ?_
                  refine lv_iconst (v := 0) hx hb dX5_execute_114 (by decide) ?_
                  refine lv_aload_n hx hb dX5_execute_115 rfl (lv_at hl 0 rfl) ?_
                  refine va_get (D := g.1) (ci := 9) (v := .ref (a 1)) (C := RX5) (T := TX5) (N := 23) hx hb hts inX5 hown hK hP 0 rfl rfl 0 (by decide) (hts _ mw_1311) (fun _ h9 => h9) rfl dX5_execute_116 ?_
                  refine lv_iconst (v := 0) hx hb dX5_execute_119 (by decide) ?_
                  obtain ⟨z80, hz80, hF⟩ := ob_bind hF
                  have hP : va_P g.1 vwCl ([[(a 0, .inr (9, [.ref (a 1), .ref (a 2), .ref (a 3), .ref (a 4), .ref (a 5), .ref (a 6), .int (M_isSaved b68), .int (M_changes b68), .int 0, .int (M_isDenied b68), .int (M_code b68), .int (M_why b68), .int (M_detail b68), .int (M_cause b68), .ref (a 7), .int (M_length b68), .int (M_fault b68), .ref (a 8), .int (M_signMany b68), .int (M_lastOver b68), .int (M_at b68), .ref (a 9), .int (M_toldMany b68)]))], [(a 1, .inl (g.2.1 0, 83, .inl (M_g b68)))], [(a 2, .inl (g.2.1 0, 664, .inl (M_kept b68)))], [(a 3, .inl (g.2.1 0, 83, .inl (M_saved b68)))], [(a 4, .inl (g.2.1 0, 83, .inl (M_before b68)))], [(a 5, .inl (g.2.1 0, 83, .inl (M_trial b68)))], [(a 6, .inl (g.2.1 0, 10, .inl (M_counted b68)))], [(a 7, .inl (g.2.1 0, 60, .inl (M_input b68)))], [(a 8, .inl (g.2.1 1, 200, .inl (M_signs b68)))], [(a 9, .inl (g.2.1 0, 93, .inl (M_told b68)))]] : List va_W).flatten _ := hP
                  have hD : va_D A ([[(a 0, .inr (9, [.ref (a 1), .ref (a 2), .ref (a 3), .ref (a 4), .ref (a 5), .ref (a 6), .int (M_isSaved b68), .int (M_changes b68), .int 0, .int (M_isDenied b68), .int (M_code b68), .int (M_why b68), .int (M_detail b68), .int (M_cause b68), .ref (a 7), .int (M_length b68), .int (M_fault b68), .ref (a 8), .int (M_signMany b68), .int (M_lastOver b68), .int (M_at b68), .ref (a 9), .int (M_toldMany b68)]))], [(a 1, .inl (g.2.1 0, 83, .inl (M_g b68)))], [(a 2, .inl (g.2.1 0, 664, .inl (M_kept b68)))], [(a 3, .inl (g.2.1 0, 83, .inl (M_saved b68)))], [(a 4, .inl (g.2.1 0, 83, .inl (M_before b68)))], [(a 5, .inl (g.2.1 0, 83, .inl (M_trial b68)))], [(a 6, .inl (g.2.1 0, 10, .inl (M_counted b68)))], [(a 7, .inl (g.2.1 0, 60, .inl (M_input b68)))], [(a 8, .inl (g.2.1 1, 200, .inl (M_signs b68)))], [(a 9, .inl (g.2.1 0, 93, .inl (M_told b68)))]] : List va_W).flatten := hD
                  refine cl_sv (csR := [[(a 0, .inr (9, [.ref (a 1), .ref (a 2), .ref (a 3), .ref (a 4), .ref (a 5), .ref (a 6), .int (M_isSaved b68), .int (M_changes b68), .int 0, .int (M_isDenied b68), .int (M_code b68), .int (M_why b68), .int (M_detail b68), .int (M_cause b68), .ref (a 7), .int (M_length b68), .int (M_fault b68), .ref (a 8), .int (M_signMany b68), .int (M_lastOver b68), .int (M_at b68), .ref (a 9), .int (M_toldMany b68)]))], [(a 2, .inl (g.2.1 0, 664, .inl (M_kept b68)))], [(a 3, .inl (g.2.1 0, 83, .inl (M_saved b68)))], [(a 5, .inl (g.2.1 0, 83, .inl (M_trial b68)))], [(a 6, .inl (g.2.1 0, 10, .inl (M_counted b68)))], [(a 7, .inl (g.2.1 0, 60, .inl (M_input b68)))], [(a 8, .inl (g.2.1 1, 200, .inl (M_signs b68)))], [(a 9, .inl (g.2.1 0, 93, .inl (M_told b68)))]]) (csF := [[(a 0, .inr (9, [.ref (a 1), .ref (a 2), .ref (a 3), .ref (a 4), .ref (a 5), .ref (a 6), .int (M_isSaved b68), .int (M_changes b68), .int 0, .int (M_isDenied b68), .int (M_code b68), .int (M_why b68), .int (M_detail b68), .int (M_cause b68), .ref (a 7), .int (M_length b68), .int (M_fault b68), .ref (a 8), .int (M_signMany b68), .int (M_lastOver b68), .int (M_at b68), .ref (a 9), .int (M_toldMany b68)]))], [(a 1, .inl (g.2.1 0, 83, .inl z80))], [(a 2, .inl (g.2.1 0, 664, .inl (M_kept b68)))], [(a 3, .inl (g.2.1 0, 83, .inl (M_saved b68)))], [(a 4, .inl (g.2.1 0, 83, .inl (M_before b68)))], [(a 5, .inl (g.2.1 0, 83, .inl (M_trial b68)))], [(a 6, .inl (g.2.1 0, 10, .inl (M_counted b68)))], [(a 7, .inl (g.2.1 0, 60, .inl (M_input b68)))], [(a 8, .inl (g.2.1 1, 200, .inl (M_signs b68)))], [(a 9, .inl (g.2.1 0, 93, .inl (M_told b68)))]]) (rest := []) hx hb hml hown hts hK hE hA hl hP hD hS (c_X5_copies g l (fun _ => a 4) 83 (fun _ => a 1) 83 (M_before b68) (M_g b68) 0 0 z80 hz80) [4, 1] [0, 2, 3, 5, 6, 7, 8, 9] [0, 9, 1, 2, 8, 3, 4, 5, 6, 7] ⟨rfl, rfl, rfl, rfl, rfl, rfl, rfl⟩ 4 (jb_giS mw_1404 mw_1405 mw_10 mw_1406) ⟨rfl, rfl⟩ (by decide +kernel) ⟨⟨(Nat.le_of_ble_eq_true rfl), (Nat.le_of_ble_eq_true rfl)⟩, (Nat.le_of_ble_eq_true rfl), (Nat.le_of_ble_eq_true rfl)⟩ ⟨rfl, rfl⟩ (Nat.le_of_ble_eq_true rfl) dX5_execute_120 (fun H locs hP hD hS => ?_)
                  have hP : va_P g.1 vwCl ([wMc g a z80 (M_kept b68) (M_saved b68) (M_before b68) (M_trial b68) (M_counted b68) (M_isSaved b68) (M_changes b68) 0 (M_isDenied b68) (M_code b68) (M_why b68) (M_detail b68) (M_cause b68) (M_input b68) (M_length b68) (M_fault b68) (M_signs b68) (M_signMany b68) (M_lastOver b68) (M_at b68) (M_told b68) (M_toldMany b68)] : List va_W).flatten _ := hP
                  have hD : va_D A ([wMc g a z80 (M_kept b68) (M_saved b68) (M_before b68) (M_trial b68) (M_counted b68) (M_isSaved b68) (M_changes b68) 0 (M_isDenied b68) (M_code b68) (M_why b68) (M_detail b68) (M_cause b68) (M_input b68) (M_length b68) (M_fault b68) (M_signs b68) (M_signMany b68) (M_lastOver b68) (M_at b68) (M_told b68) (M_toldMany b68)] : List va_W).flatten := hD
                  refine lv_aload_n hx hb dX5_execute_123 rfl (lv_at hl 0 rfl) ?_
                  refine lv_iload_n hx hb dX5_execute_124 rfl (lv_at hl 1 rfl) ?_
                  obtain ⟨z81, hz81, hF⟩ := ob_bind hF
                  refine cl_i (csR := []) (csF := [wM g a z81.2]) (rest := []) hx hb hml hown hts hK hE hA hl hP hD hS (c_X5_deniesText g l a (mkM z80 (M_kept b68) (M_saved b68) (M_before b68) (M_trial b68) (M_counted b68) (M_isSaved b68) (M_changes b68) 0 (M_isDenied b68) (M_code b68) (M_why b68) (M_detail b68) (M_cause b68) (M_input b68) (M_length b68) (M_fault b68) (M_signs b68) (M_signMany b68) (M_lastOver b68) (M_at b68) (M_told b68) (M_toldMany b68)) x69 z81 hz81) [0] [] [0] ⟨rfl, rfl, rfl, rfl, rfl, rfl, rfl⟩ ⟨0, 9, _, _, rfl, rfl, rfl⟩ 1 (jb_giV mw_1698 mw_1700 ms_67 mw_10 mw_1701) ⟨rfl, rfl⟩ (by decide +kernel) ⟨⟨(Nat.le_of_ble_eq_true rfl), (Nat.le_of_ble_eq_true rfl)⟩, (Nat.le_of_ble_eq_true rfl), (Nat.le_of_ble_eq_true rfl)⟩ ⟨rfl, rfl⟩ (Nat.le_of_ble_eq_true rfl) dX5_execute_125 (fun H locs hP hD hS => ?_)
                  refine lv_iload_n hx hb dX5_execute_128 rfl (lv_at hl 2 rfl) ?_
                  refine lv_if_le (tgt := 136) hx hb dX5_execute_129 (by decide) (fun c82 => ?_) (fun c82 => ?_)
                  · have hF := ob_pos c82 hF
                    refine lv_iload_n hx hb dX5_execute_136 rfl (lv_at hl 2 rfl) ?_
                    refine lv_iadd hx hb dX5_execute_137 ?_
                    cases hF
                    rw [hQ]
                    exact jb_iret hx hb hr hlocks hP hD hS dX5_execute_138 rfl (Nat.le_of_ble_eq_true rfl) (Nat.le_of_ble_eq_true rfl)
                  · have hF := ob_neg c82 hF
                    refine lv_iconst (v := 0) hx hb dX5_execute_132 (by decide) ?_
                    refine lv_goto (tgt := 137) hx hb dX5_execute_133 (by decide) ?_
                    refine lv_iadd hx hb dX5_execute_137 ?_
                    cases hF
                    rw [hQ]
                    exact jb_iret hx hb hr hlocks hP hD hS dX5_execute_138 rfl (Nat.le_of_ble_eq_true rfl) (Nat.le_of_ble_eq_true rfl)
              · have hF := ob_nneg c77 hF
                refine lv_aload_n hx hb dX5_execute_77 rfl (lv_at hl 0 rfl) ?_
                refine lv_iconst (v := 3) hx hb dX5_execute_78 (by decide) ?_
                refine lv_iload_n hx hb dX5_execute_79 rfl (lv_at hl 1 rfl) ?_
                refine lv_imul hx hb dX5_execute_80 ?_
                obtain ⟨z83, hz83, hF⟩ := ob_bind hF
                refine cl_i (csR := []) (csF := [wM g a z83.2]) (rest := []) hx hb hml hown hts hK hE hA hl hP hD hS (c_X5_carries g l a b68 (3 * x69) z83 hz83) [0] [] [0] ⟨rfl, rfl, rfl, rfl, rfl, rfl, rfl⟩ ⟨0, 9, _, _, rfl, rfl, rfl⟩ 1 (jb_giV mw_1687 mw_1689 ms_66 mw_10 mw_1690) ⟨rfl, rfl⟩ (by decide +kernel) ⟨⟨(Nat.le_of_ble_eq_true rfl), (Nat.le_of_ble_eq_true rfl)⟩, (Nat.le_of_ble_eq_true rfl), (Nat.le_of_ble_eq_true rfl)⟩ ⟨rfl, rfl⟩ (Nat.le_of_ble_eq_true rfl) dX5_execute_81 (fun H locs hP hD hS => ?_)
                refine lv_istore_n (lv' := [(3, .int z83.1), (0, .ref (a 0)), (2, .int x69)]) hx hb dX5_execute_84 rfl hl (by decide) rfl (fun ls hl => ?_)
                refine lv_aload_n hx hb dX5_execute_85 rfl (lv_at hl 1 rfl) ?_
                refine va_get (D := g.1) (ci := 9) (v := .int (M_code z83.2)) (C := RX5) (T := TX5) (N := 23) hx hb hts inX5 hown hK hP 0 rfl rfl 10 (by decide) (hts _ mw_1321) (fun _ h9 => h9) rfl dX5_execute_86 ?_
                refine lv_if_ne (tgt := 62) hx hb dX5_execute_89 (by decide) (fun c84 => ?_) (fun c84 => ?_)
                · have hF := ob_pos c84 hF
                  exact ih70 _ _ _ hF _ _ hP hD hS ls (lv_sub hl [1, 2, 0] rfl)
                · have hF := ob_nneg c84 hF
                  refine lv_iinc (v := x69 + 1) (lv' := [(2, .int (x69 + 1)), (3, .int z83.1), (0, .ref (a 0))]) hx hb dX5_execute_92 hl (k := 2) rfl (by rfl) (by decide) rfl (fun ls hl => ?_)
                  refine lv_goto (tgt := 62) hx hb dX5_execute_95 (by decide) ?_
                  exact ih70 _ _ _ hF _ _ hP hD hS ls (lv_sub hl [2, 0, 1] rfl)
        exact loop70 1000 _ _ _ hF _ _ hP hD hS ls (lv_sub hl [3, 1, 0] rfl)
      · have hF := ob_neg c66 hF
        refine lv_iconst (v := 0) hx hb dX5_execute_38 (by decide) ?_
        cases hF
        rw [hQ]
        exact jb_iret hx hb hr hlocks hP hD hS dX5_execute_39 rfl (Nat.le_of_ble_eq_true rfl) (Nat.le_of_ble_eq_true rfl)
def F_X5_lineCharacter (mo : Mv) (p0 : Int32) : Option (Int32 × Mv) := (F_X5_in p0 0 ((M_signMany mo) - 1)).bind (fun z1 => if (bi z1) = 0 then (F_X5_fails mo 1).bind (fun z2 => if (bi z2.1) = 0 then ck (inb p0 200) (ck (isch ((M_signs z2.2) p0.toNatClampNeg)) (some ((M_signs z2.2) p0.toNatClampNeg, z2.2))) else some (32, z2.2)) else (F_X5_fails mo 0).bind (fun z3 => if (bi z3.1) = 0 then ck (inb p0 200) (ck (isch ((M_signs z3.2) p0.toNatClampNeg)) (some ((M_signs z3.2) p0.toNatClampNeg, z3.2))) else some (32, z3.2)))
set_option maxHeartbeats 4000000 in
set_option maxRecDepth 100000 in
theorem c_X5_lineCharacter (g : GG) (l : Launch) (a : Nat → Nat) (mo : Mv) (p0 : Int32) (z : Int32 × Mv) (hF : F_X5_lineCharacter mo p0 = some z) : MI g l yX5_lineCharacter cX5_lineCharacter 2 (some .char) ({ frames := 1, cells := 0, slots := 0, locals := 22 } : Room) [.ref (a 0), .int p0] [wM g a mo] 0 0 z.1 [wM g a z.2] := by
  refine MI.bg (by decide) (Nat.le_of_ble_eq_true rfl) ?_
  intro p e s m below meth c A Q hQ hx hb hr hml hown hts hlocks hmn hK hE hA hP hD hS ls hl
  rw [F_X5_lineCharacter] at hF
  have hl : lv_has ls 2 [(0, .ref (a 0)), (1, .int p0)] := hl
  refine lv_aload_n hx hb dX5_lineCharacter_0 rfl (lv_at hl 0 rfl) ?_
  refine lv_iload_n hx hb dX5_lineCharacter_1 rfl (lv_at hl 1 rfl) ?_
  refine lv_iconst (v := 0) hx hb dX5_lineCharacter_2 (by decide) ?_
  refine lv_aload_n hx hb dX5_lineCharacter_3 rfl (lv_at hl 0 rfl) ?_
  refine va_get (D := g.1) (ci := 9) (v := .int (M_signMany mo)) (C := RX5) (T := TX5) (N := 23) hx hb hts inX5 hown hK hP 0 rfl rfl 18 (by decide) (hts _ mw_1329) (fun _ h9 => h9) rfl dX5_lineCharacter_4 ?_
  refine lv_iconst (v := 1) hx hb dX5_lineCharacter_7 (by decide) ?_
  refine lv_isub hx hb dX5_lineCharacter_8 ?_
  obtain ⟨z1, hz1, hF⟩ := ob_bind hF
  refine cl_si (csR := [wM g a mo]) (csF := [wM g a mo]) (rest := [.ref (a 0)]) hx hb hml hown hts hK hE hA hl hP hD hS (c_X5_in g l  p0 0 ((M_signMany mo) - 1) z1 hz1) [] [0] [0] ⟨rfl, rfl, rfl, rfl, rfl, rfl, rfl⟩ 3 (jb_giS mw_1389 mw_1390 mw_10 mw_1391) ⟨rfl, rfl⟩ (by decide +kernel) ⟨⟨(Nat.le_of_ble_eq_true rfl), (Nat.le_of_ble_eq_true rfl)⟩, (Nat.le_of_ble_eq_true rfl), (Nat.le_of_ble_eq_true rfl)⟩ ⟨rfl, rfl⟩ (Nat.le_of_ble_eq_true rfl) dX5_lineCharacter_9 (fun H locs hP hD hS => ?_)
  refine lv_if_eq (tgt := 19) hx hb dX5_lineCharacter_12 (by decide) (fun c2 => ?_) (fun c2 => ?_)
  · have hF := ob_pos c2 hF
    refine lv_iconst (v := 1) hx hb dX5_lineCharacter_19 (by decide) ?_
    obtain ⟨z3, hz3, hF⟩ := ob_bind hF
    refine cl_i (csR := []) (csF := [wM g a z3.2]) (rest := []) hx hb hml hown hts hK hE hA hl hP hD hS (c_X5_fails g l a mo 1 z3 hz3) [0] [] [0] ⟨rfl, rfl, rfl, rfl, rfl, rfl, rfl⟩ ⟨0, 9, _, _, rfl, rfl, rfl⟩ 1 (jb_giV mw_1392 mw_1394 ms_32 mw_10 mw_1395) ⟨rfl, rfl⟩ (by decide +kernel) ⟨⟨(Nat.le_of_ble_eq_true rfl), (Nat.le_of_ble_eq_true rfl)⟩, (Nat.le_of_ble_eq_true rfl), (Nat.le_of_ble_eq_true rfl)⟩ ⟨rfl, rfl⟩ (Nat.le_of_ble_eq_true rfl) dX5_lineCharacter_20 (fun H locs hP hD hS => ?_)
    refine lv_if_eq (tgt := 31) hx hb dX5_lineCharacter_23 (by decide) (fun c4 => ?_) (fun c4 => ?_)
    · have hF := ob_pos c4 hF
      refine lv_aload_n hx hb dX5_lineCharacter_31 rfl (lv_at hl 0 rfl) ?_
      refine va_get (D := g.1) (ci := 9) (v := .ref (a 8)) (C := RX5) (T := TX5) (N := 23) hx hb hts inX5 hown hK hP 0 rfl rfl 17 (by decide) (hts _ mw_1328) (fun _ h9 => h9) rfl dX5_lineCharacter_32 ?_
      refine lv_iload_n hx hb dX5_lineCharacter_35 rfl (lv_at hl 1 rfl) ?_
      have h5 := inb_in (ck_t hF)
      have hF := ck_s hF
      refine va_cald hx hb hK hP 8 1 rfl rfl h5 dX5_lineCharacter_36 ?_
      have hch := isch_nar (ck_t hF)
      have hF := ck_s hF
      cases hF
      rw [hQ]
      exact jb_zret hx hb hr hch hlocks hP hD hS dX5_lineCharacter_37 rfl (Nat.le_of_ble_eq_true rfl) (Nat.le_of_ble_eq_true rfl)
    · have hF := ob_neg c4 hF
      refine lv_bipush (v := 32) hx hb dX5_lineCharacter_26 (by decide) ?_
      refine lv_goto (tgt := 37) hx hb dX5_lineCharacter_28 (by decide) ?_
      cases hF
      rw [hQ]
      exact jb_zret hx hb hr rfl hlocks hP hD hS dX5_lineCharacter_37 rfl (Nat.le_of_ble_eq_true rfl) (Nat.le_of_ble_eq_true rfl)
  · have hF := ob_neg c2 hF
    refine lv_iconst (v := 0) hx hb dX5_lineCharacter_15 (by decide) ?_
    refine lv_goto (tgt := 20) hx hb dX5_lineCharacter_16 (by decide) ?_
    obtain ⟨z6, hz6, hF⟩ := ob_bind hF
    refine cl_i (csR := []) (csF := [wM g a z6.2]) (rest := []) hx hb hml hown hts hK hE hA hl hP hD hS (c_X5_fails g l a mo 0 z6 hz6) [0] [] [0] ⟨rfl, rfl, rfl, rfl, rfl, rfl, rfl⟩ ⟨0, 9, _, _, rfl, rfl, rfl⟩ 1 (jb_giV mw_1392 mw_1394 ms_32 mw_10 mw_1395) ⟨rfl, rfl⟩ (by decide +kernel) ⟨⟨(Nat.le_of_ble_eq_true rfl), (Nat.le_of_ble_eq_true rfl)⟩, (Nat.le_of_ble_eq_true rfl), (Nat.le_of_ble_eq_true rfl)⟩ ⟨rfl, rfl⟩ (Nat.le_of_ble_eq_true rfl) dX5_lineCharacter_20 (fun H locs hP hD hS => ?_)
    refine lv_if_eq (tgt := 31) hx hb dX5_lineCharacter_23 (by decide) (fun c7 => ?_) (fun c7 => ?_)
    · have hF := ob_pos c7 hF
      refine lv_aload_n hx hb dX5_lineCharacter_31 rfl (lv_at hl 0 rfl) ?_
      refine va_get (D := g.1) (ci := 9) (v := .ref (a 8)) (C := RX5) (T := TX5) (N := 23) hx hb hts inX5 hown hK hP 0 rfl rfl 17 (by decide) (hts _ mw_1328) (fun _ h9 => h9) rfl dX5_lineCharacter_32 ?_
      refine lv_iload_n hx hb dX5_lineCharacter_35 rfl (lv_at hl 1 rfl) ?_
      have h8 := inb_in (ck_t hF)
      have hF := ck_s hF
      refine va_cald hx hb hK hP 8 1 rfl rfl h8 dX5_lineCharacter_36 ?_
      have hch := isch_nar (ck_t hF)
      have hF := ck_s hF
      cases hF
      rw [hQ]
      exact jb_zret hx hb hr hch hlocks hP hD hS dX5_lineCharacter_37 rfl (Nat.le_of_ble_eq_true rfl) (Nat.le_of_ble_eq_true rfl)
    · have hF := ob_neg c7 hF
      refine lv_bipush (v := 32) hx hb dX5_lineCharacter_26 (by decide) ?_
      refine lv_goto (tgt := 37) hx hb dX5_lineCharacter_28 (by decide) ?_
      cases hF
      rw [hQ]
      exact jb_zret hx hb hr rfl hlocks hP hD hS dX5_lineCharacter_37 rfl (Nat.le_of_ble_eq_true rfl) (Nat.le_of_ble_eq_true rfl)
def F_X5_writesBehind (mo : Mv) (p0 : Int32) (p1 : Int32) : Option (Mv) := (F_X5_writes mo p0).bind (fun z1 => (F_X5_writesNumber z1 p1).bind (fun z2 => some z2))
set_option maxHeartbeats 4000000 in
set_option maxRecDepth 100000 in
theorem c_X5_writesBehind (g : GG) (l : Launch) (a : Nat → Nat) (mo : Mv) (p0 : Int32) (p1 : Int32) (z : Mv) (hF : F_X5_writesBehind mo p0 p1 = some z) : MV g l yX5_writesBehind cX5_writesBehind 3 none ({ frames := 8, cells := 0, slots := 0, locals := 168 } : Room) [.ref (a 0), .int p0, .int p1] [wM g a mo] 0 0 [wM g a z] := by
  refine MV.bg (by decide) (Nat.le_of_ble_eq_true rfl) ?_
  intro p e s m below meth c A Q hQ hx hb hr hml hown hts hlocks hmn hK hE hA hP hD hS ls hl
  rw [F_X5_writesBehind] at hF
  have hl : lv_has ls 3 [(0, .ref (a 0)), (1, .int p0), (2, .int p1)] := hl
  refine lv_aload_n hx hb dX5_writesBehind_0 rfl (lv_at hl 0 rfl) ?_
  refine lv_iload_n hx hb dX5_writesBehind_1 rfl (lv_at hl 1 rfl) ?_
  obtain ⟨z1, hz1, hF⟩ := ob_bind hF
  refine cl_v (csR := []) (csF := [wM g a z1]) (rest := []) hx hb hml hown hts hK hE hA hl hP hD hS (c_X5_writes g l a mo p0 z1 hz1) [0] [] [0] ⟨rfl, rfl, rfl, rfl, rfl, rfl, rfl⟩ ⟨0, 9, _, _, rfl, rfl, rfl⟩ 1 (jb_giV mw_1714 mw_1716 ms_69 mw_10 mw_1717) ⟨rfl, rfl⟩ (by decide +kernel) ⟨⟨(Nat.le_of_ble_eq_true rfl), (Nat.le_of_ble_eq_true rfl)⟩, (Nat.le_of_ble_eq_true rfl), (Nat.le_of_ble_eq_true rfl)⟩ ⟨rfl, rfl⟩ (Nat.le_of_ble_eq_true rfl) dX5_writesBehind_2 (fun H locs hP hD hS => ?_)
  refine lv_aload_n hx hb dX5_writesBehind_5 rfl (lv_at hl 0 rfl) ?_
  refine lv_iload_n hx hb dX5_writesBehind_6 rfl (lv_at hl 2 rfl) ?_
  obtain ⟨z2, hz2, hF⟩ := ob_bind hF
  refine cl_v (csR := []) (csF := [wM g a z2]) (rest := []) hx hb hml hown hts hK hE hA hl hP hD hS (c_X5_writesNumber g l a z1 p1 z2 hz2) [0] [] [0] ⟨rfl, rfl, rfl, rfl, rfl, rfl, rfl⟩ ⟨0, 9, _, _, rfl, rfl, rfl⟩ 1 (jb_giV mw_1710 mw_1712 ms_68 mw_10 mw_1713) ⟨rfl, rfl⟩ (by decide +kernel) ⟨⟨(Nat.le_of_ble_eq_true rfl), (Nat.le_of_ble_eq_true rfl)⟩, (Nat.le_of_ble_eq_true rfl), (Nat.le_of_ble_eq_true rfl)⟩ ⟨rfl, rfl⟩ (Nat.le_of_ble_eq_true rfl) dX5_writesBehind_7 (fun H locs hP hD hS => ?_)
  cases hF
  rw [hQ]
  exact jb_vret hx hb hr hlocks hP hD hS dX5_writesBehind_10 (Nat.le_of_ble_eq_true rfl) (Nat.le_of_ble_eq_true rfl)
def F_X5_writeSpan_L69 (y1 : Int32) (k : Mv → Int32 → Option (Int32 × Mv)) : Nat → Mv → Int32 → Option (Int32 × Mv)
  | 0, _, _ => none
  | n + 1, b0, x2 => (F_X5_of b0 y1 3).bind (fun z11 => if z11 ≤ x2 then k b0 x2 else (F_X5_writes b0 47).bind (fun z12 => F_X5_writeSpan_L69 y1 k n z12 (x2 + 1)))
def F_X5_writeSpan_L93 (y1 : Int32) (k : Mv → Int32 → Option (Int32 × Mv)) : Nat → Mv → Int32 → Option (Int32 × Mv)
  | 0, _, _ => none
  | n + 1, b0, x2 => ck (inb 1 83) (if ((M_g b0) (1 : Int32).toNatClampNeg) ≤ x2 then k b0 x2 else (F_X5_on b0 x2 2).bind (fun z15 => if z15 = y1 then (F_X5_on b0 x2 0).bind (fun z16 => (F_X5_writesBehind b0 32 z16).bind (fun z17 => (F_X5_on z17 x2 1).bind (fun z18 => (F_X5_writesBehind z17 119 z18).bind (fun z19 => F_X5_writeSpan_L93 y1 k n z19 (x2 + 1))))) else F_X5_writeSpan_L93 y1 k n b0 (x2 + 1)))
def F_X5_writeSpan (mo : Mv) (p0 : Int32) : Option (Int32 × Mv) := (F_X5_isNone mo p0).bind (fun z1 => if (bi z1.1) = 0 then (F_X5_writesNumber (mkM (M_g z1.2) (M_kept z1.2) (M_saved z1.2) (M_before z1.2) (M_trial z1.2) (M_counted z1.2) (M_isSaved z1.2) (M_changes z1.2) (M_isWithin z1.2) (M_isDenied z1.2) (M_code z1.2) (M_why z1.2) (M_detail z1.2) (M_cause z1.2) (M_input z1.2) (M_length z1.2) (M_fault z1.2) (M_signs z1.2) 0 (M_lastOver z1.2) (M_at z1.2) (M_told z1.2) (M_toldMany z1.2)) p0).bind (fun z2 => (F_X5_of z2 p0 0).bind (fun z3 => (F_X5_writesBehind z2 58 z3).bind (fun z4 => (F_X5_of z4 p0 1).bind (fun z5 => (F_X5_writesBehind z4 106 z5).bind (fun z6 => (F_X5_of z6 p0 2).bind (fun z7 => (F_X5_writesBehind z6 104 z7).bind (fun z8 => (F_X5_strong z8 p0).bind (fun z9 => (F_X5_writesBehind z8 61 z9).bind (fun z10 => F_X5_writeSpan_L69 p0 (fun b13 x14 => F_X5_writeSpan_L93 p0 (fun b20 x21 => some (M_signMany b20, b20)) 1000 b13 0) 1000 z10 0))))))))) else some (0, z1.2))
set_option maxHeartbeats 4000000 in
set_option maxRecDepth 100000 in
theorem c_X5_writeSpan (g : GG) (l : Launch) (a : Nat → Nat) (mo : Mv) (p0 : Int32) (z : Int32 × Mv) (hF : F_X5_writeSpan mo p0 = some z) : MI g l yX5_writeSpan cX5_writeSpan 3 (some .int) ({ frames := 9, cells := 0, slots := 0, locals := 190 } : Room) [.ref (a 0), .int p0] [wM g a mo] 0 0 z.1 [wM g a z.2] := by
  refine MI.bg (by decide) (Nat.le_of_ble_eq_true rfl) ?_
  intro p e s m below meth c A Q hQ hx hb hr hml hown hts hlocks hmn hK hE hA hP hD hS ls hl
  rw [F_X5_writeSpan] at hF
  have hl : lv_has ls 3 [(0, .ref (a 0)), (1, .int p0)] := hl
  refine lv_aload_n hx hb dX5_writeSpan_0 rfl (lv_at hl 0 rfl) ?_
  refine lv_iload_n hx hb dX5_writeSpan_1 rfl (lv_at hl 1 rfl) ?_
  obtain ⟨z1, hz1, hF⟩ := ob_bind hF
  refine cl_i (csR := []) (csF := [wM g a z1.2]) (rest := []) hx hb hml hown hts hK hE hA hl hP hD hS (c_X5_isNone g l a mo p0 z1 hz1) [0] [] [0] ⟨rfl, rfl, rfl, rfl, rfl, rfl, rfl⟩ ⟨0, 9, _, _, rfl, rfl, rfl⟩ 1 (jb_giV mw_1439 mw_1441 ms_38 mw_10 mw_1442) ⟨rfl, rfl⟩ (by decide +kernel) ⟨⟨(Nat.le_of_ble_eq_true rfl), (Nat.le_of_ble_eq_true rfl)⟩, (Nat.le_of_ble_eq_true rfl), (Nat.le_of_ble_eq_true rfl)⟩ ⟨rfl, rfl⟩ (Nat.le_of_ble_eq_true rfl) dX5_writeSpan_2 (fun H locs hP hD hS => ?_)
  refine lv_if_eq (tgt := 10) hx hb dX5_writeSpan_5 (by decide) (fun c2 => ?_) (fun c2 => ?_)
  · have hF := ob_pos c2 hF
    refine lv_aload_n hx hb dX5_writeSpan_10 rfl (lv_at hl 0 rfl) ?_
    refine lv_iconst (v := 0) hx hb dX5_writeSpan_11 (by decide) ?_
    refine va_put (D := g.1) (ci := 9) (v := .int 0) (ty := .int) (C := RX5) (T := TX5) (N := 23) hx hb hts inX5 tyX5 tyX5_ok nmX5 hown hK hP hD hS 0 rfl rfl 18 (by decide) (hts _ mw_1329) (fun _ h9 => h9) rfl (by decide +kernel) rfl rfl (Nat.le_of_ble_eq_true rfl) dX5_writeSpan_12 (fun H locs hP hD hS => ?_)
    have hP : va_P g.1 vwCl ([wMc g a (M_g z1.2) (M_kept z1.2) (M_saved z1.2) (M_before z1.2) (M_trial z1.2) (M_counted z1.2) (M_isSaved z1.2) (M_changes z1.2) (M_isWithin z1.2) (M_isDenied z1.2) (M_code z1.2) (M_why z1.2) (M_detail z1.2) (M_cause z1.2) (M_input z1.2) (M_length z1.2) (M_fault z1.2) (M_signs z1.2) 0 (M_lastOver z1.2) (M_at z1.2) (M_told z1.2) (M_toldMany z1.2)] : List va_W).flatten _ := hP
    have hD : va_D A ([wMc g a (M_g z1.2) (M_kept z1.2) (M_saved z1.2) (M_before z1.2) (M_trial z1.2) (M_counted z1.2) (M_isSaved z1.2) (M_changes z1.2) (M_isWithin z1.2) (M_isDenied z1.2) (M_code z1.2) (M_why z1.2) (M_detail z1.2) (M_cause z1.2) (M_input z1.2) (M_length z1.2) (M_fault z1.2) (M_signs z1.2) 0 (M_lastOver z1.2) (M_at z1.2) (M_told z1.2) (M_toldMany z1.2)] : List va_W).flatten := hD
    refine lv_aload_n hx hb dX5_writeSpan_15 rfl (lv_at hl 0 rfl) ?_
    refine lv_iload_n hx hb dX5_writeSpan_16 rfl (lv_at hl 1 rfl) ?_
    obtain ⟨z3, hz3, hF⟩ := ob_bind hF
    refine cl_v (csR := []) (csF := [wM g a z3]) (rest := []) hx hb hml hown hts hK hE hA hl hP hD hS (c_X5_writesNumber g l a (mkM (M_g z1.2) (M_kept z1.2) (M_saved z1.2) (M_before z1.2) (M_trial z1.2) (M_counted z1.2) (M_isSaved z1.2) (M_changes z1.2) (M_isWithin z1.2) (M_isDenied z1.2) (M_code z1.2) (M_why z1.2) (M_detail z1.2) (M_cause z1.2) (M_input z1.2) (M_length z1.2) (M_fault z1.2) (M_signs z1.2) 0 (M_lastOver z1.2) (M_at z1.2) (M_told z1.2) (M_toldMany z1.2)) p0 z3 hz3) [0] [] [0] ⟨rfl, rfl, rfl, rfl, rfl, rfl, rfl⟩ ⟨0, 9, _, _, rfl, rfl, rfl⟩ 1 (jb_giV mw_1710 mw_1712 ms_68 mw_10 mw_1713) ⟨rfl, rfl⟩ (by decide +kernel) ⟨⟨(Nat.le_of_ble_eq_true rfl), (Nat.le_of_ble_eq_true rfl)⟩, (Nat.le_of_ble_eq_true rfl), (Nat.le_of_ble_eq_true rfl)⟩ ⟨rfl, rfl⟩ (Nat.le_of_ble_eq_true rfl) dX5_writeSpan_17 (fun H locs hP hD hS => ?_)
    refine lv_aload_n hx hb dX5_writeSpan_20 rfl (lv_at hl 0 rfl) ?_
    refine lv_bipush (v := 58) hx hb dX5_writeSpan_21 (by decide) ?_
    refine lv_aload_n hx hb dX5_writeSpan_23 rfl (lv_at hl 0 rfl) ?_
    refine lv_iload_n hx hb dX5_writeSpan_24 rfl (lv_at hl 1 rfl) ?_
    refine lv_iconst (v := 0) hx hb dX5_writeSpan_25 (by decide) ?_
    obtain ⟨z4, hz4, hF⟩ := ob_bind hF
    refine cl_i (csR := []) (csF := [wM g a z3]) (rest := [.int 58, .ref (a 0)]) hx hb hml hown hts hK hE hA hl hP hD hS (c_X5_of g l a z3 p0 0 z4 hz4) [0] [] [0] ⟨rfl, rfl, rfl, rfl, rfl, rfl, rfl⟩ ⟨0, 9, _, _, rfl, rfl, rfl⟩ 2 (jb_giV mw_1415 mw_1417 ms_36 mw_10 mw_1418) ⟨rfl, rfl⟩ (by decide +kernel) ⟨⟨(Nat.le_of_ble_eq_true rfl), (Nat.le_of_ble_eq_true rfl)⟩, (Nat.le_of_ble_eq_true rfl), (Nat.le_of_ble_eq_true rfl)⟩ ⟨rfl, rfl⟩ (Nat.le_of_ble_eq_true rfl) dX5_writeSpan_26 (fun H locs hP hD hS => ?_)
    obtain ⟨z5, hz5, hF⟩ := ob_bind hF
    refine cl_v (csR := []) (csF := [wM g a z5]) (rest := []) hx hb hml hown hts hK hE hA hl hP hD hS (c_X5_writesBehind g l a z3 58 z4 z5 hz5) [0] [] [0] ⟨rfl, rfl, rfl, rfl, rfl, rfl, rfl⟩ ⟨0, 9, _, _, rfl, rfl, rfl⟩ 2 (jb_giV mw_1718 mw_1720 ms_70 mw_10 mw_1721) ⟨rfl, rfl⟩ (by decide +kernel) ⟨⟨(Nat.le_of_ble_eq_true rfl), (Nat.le_of_ble_eq_true rfl)⟩, (Nat.le_of_ble_eq_true rfl), (Nat.le_of_ble_eq_true rfl)⟩ ⟨rfl, rfl⟩ (Nat.le_of_ble_eq_true rfl) dX5_writeSpan_29 (fun H locs hP hD hS => ?_)
    refine lv_aload_n hx hb dX5_writeSpan_32 rfl (lv_at hl 0 rfl) ?_
    refine lv_bipush (v := 106) hx hb dX5_writeSpan_33 (by decide) ?_
    refine lv_aload_n hx hb dX5_writeSpan_35 rfl (lv_at hl 0 rfl) ?_
    refine lv_iload_n hx hb dX5_writeSpan_36 rfl (lv_at hl 1 rfl) ?_
    refine lv_iconst (v := 1) hx hb dX5_writeSpan_37 (by decide) ?_
    obtain ⟨z6, hz6, hF⟩ := ob_bind hF
    refine cl_i (csR := []) (csF := [wM g a z5]) (rest := [.int 106, .ref (a 0)]) hx hb hml hown hts hK hE hA hl hP hD hS (c_X5_of g l a z5 p0 1 z6 hz6) [0] [] [0] ⟨rfl, rfl, rfl, rfl, rfl, rfl, rfl⟩ ⟨0, 9, _, _, rfl, rfl, rfl⟩ 2 (jb_giV mw_1415 mw_1417 ms_36 mw_10 mw_1418) ⟨rfl, rfl⟩ (by decide +kernel) ⟨⟨(Nat.le_of_ble_eq_true rfl), (Nat.le_of_ble_eq_true rfl)⟩, (Nat.le_of_ble_eq_true rfl), (Nat.le_of_ble_eq_true rfl)⟩ ⟨rfl, rfl⟩ (Nat.le_of_ble_eq_true rfl) dX5_writeSpan_38 (fun H locs hP hD hS => ?_)
    obtain ⟨z7, hz7, hF⟩ := ob_bind hF
    refine cl_v (csR := []) (csF := [wM g a z7]) (rest := []) hx hb hml hown hts hK hE hA hl hP hD hS (c_X5_writesBehind g l a z5 106 z6 z7 hz7) [0] [] [0] ⟨rfl, rfl, rfl, rfl, rfl, rfl, rfl⟩ ⟨0, 9, _, _, rfl, rfl, rfl⟩ 2 (jb_giV mw_1718 mw_1720 ms_70 mw_10 mw_1721) ⟨rfl, rfl⟩ (by decide +kernel) ⟨⟨(Nat.le_of_ble_eq_true rfl), (Nat.le_of_ble_eq_true rfl)⟩, (Nat.le_of_ble_eq_true rfl), (Nat.le_of_ble_eq_true rfl)⟩ ⟨rfl, rfl⟩ (Nat.le_of_ble_eq_true rfl) dX5_writeSpan_41 (fun H locs hP hD hS => ?_)
    refine lv_aload_n hx hb dX5_writeSpan_44 rfl (lv_at hl 0 rfl) ?_
    refine lv_bipush (v := 104) hx hb dX5_writeSpan_45 (by decide) ?_
    refine lv_aload_n hx hb dX5_writeSpan_47 rfl (lv_at hl 0 rfl) ?_
    refine lv_iload_n hx hb dX5_writeSpan_48 rfl (lv_at hl 1 rfl) ?_
    refine lv_iconst (v := 2) hx hb dX5_writeSpan_49 (by decide) ?_
    obtain ⟨z8, hz8, hF⟩ := ob_bind hF
    refine cl_i (csR := []) (csF := [wM g a z7]) (rest := [.int 104, .ref (a 0)]) hx hb hml hown hts hK hE hA hl hP hD hS (c_X5_of g l a z7 p0 2 z8 hz8) [0] [] [0] ⟨rfl, rfl, rfl, rfl, rfl, rfl, rfl⟩ ⟨0, 9, _, _, rfl, rfl, rfl⟩ 2 (jb_giV mw_1415 mw_1417 ms_36 mw_10 mw_1418) ⟨rfl, rfl⟩ (by decide +kernel) ⟨⟨(Nat.le_of_ble_eq_true rfl), (Nat.le_of_ble_eq_true rfl)⟩, (Nat.le_of_ble_eq_true rfl), (Nat.le_of_ble_eq_true rfl)⟩ ⟨rfl, rfl⟩ (Nat.le_of_ble_eq_true rfl) dX5_writeSpan_50 (fun H locs hP hD hS => ?_)
    obtain ⟨z9, hz9, hF⟩ := ob_bind hF
    refine cl_v (csR := []) (csF := [wM g a z9]) (rest := []) hx hb hml hown hts hK hE hA hl hP hD hS (c_X5_writesBehind g l a z7 104 z8 z9 hz9) [0] [] [0] ⟨rfl, rfl, rfl, rfl, rfl, rfl, rfl⟩ ⟨0, 9, _, _, rfl, rfl, rfl⟩ 2 (jb_giV mw_1718 mw_1720 ms_70 mw_10 mw_1721) ⟨rfl, rfl⟩ (by decide +kernel) ⟨⟨(Nat.le_of_ble_eq_true rfl), (Nat.le_of_ble_eq_true rfl)⟩, (Nat.le_of_ble_eq_true rfl), (Nat.le_of_ble_eq_true rfl)⟩ ⟨rfl, rfl⟩ (Nat.le_of_ble_eq_true rfl) dX5_writeSpan_53 (fun H locs hP hD hS => ?_)
    refine lv_aload_n hx hb dX5_writeSpan_56 rfl (lv_at hl 0 rfl) ?_
    refine lv_bipush (v := 61) hx hb dX5_writeSpan_57 (by decide) ?_
    refine lv_aload_n hx hb dX5_writeSpan_59 rfl (lv_at hl 0 rfl) ?_
    refine lv_iload_n hx hb dX5_writeSpan_60 rfl (lv_at hl 1 rfl) ?_
    obtain ⟨z10, hz10, hF⟩ := ob_bind hF
    refine cl_i (csR := []) (csF := [wM g a z9]) (rest := [.int 61, .ref (a 0)]) hx hb hml hown hts hK hE hA hl hP hD hS (c_X5_strong g l a z9 p0 z10 hz10) [0] [] [0] ⟨rfl, rfl, rfl, rfl, rfl, rfl, rfl⟩ ⟨0, 9, _, _, rfl, rfl, rfl⟩ 1 (jb_giV mw_1459 mw_1461 ms_39 mw_10 mw_1462) ⟨rfl, rfl⟩ (by decide +kernel) ⟨⟨(Nat.le_of_ble_eq_true rfl), (Nat.le_of_ble_eq_true rfl)⟩, (Nat.le_of_ble_eq_true rfl), (Nat.le_of_ble_eq_true rfl)⟩ ⟨rfl, rfl⟩ (Nat.le_of_ble_eq_true rfl) dX5_writeSpan_61 (fun H locs hP hD hS => ?_)
    obtain ⟨z11, hz11, hF⟩ := ob_bind hF
    refine cl_v (csR := []) (csF := [wM g a z11]) (rest := []) hx hb hml hown hts hK hE hA hl hP hD hS (c_X5_writesBehind g l a z9 61 z10 z11 hz11) [0] [] [0] ⟨rfl, rfl, rfl, rfl, rfl, rfl, rfl⟩ ⟨0, 9, _, _, rfl, rfl, rfl⟩ 2 (jb_giV mw_1718 mw_1720 ms_70 mw_10 mw_1721) ⟨rfl, rfl⟩ (by decide +kernel) ⟨⟨(Nat.le_of_ble_eq_true rfl), (Nat.le_of_ble_eq_true rfl)⟩, (Nat.le_of_ble_eq_true rfl), (Nat.le_of_ble_eq_true rfl)⟩ ⟨rfl, rfl⟩ (Nat.le_of_ble_eq_true rfl) dX5_writeSpan_64 (fun H locs hP hD hS => ?_)
    refine lv_iconst (v := 0) hx hb dX5_writeSpan_67 (by decide) ?_
    refine lv_istore_n (lv' := [(2, .int 0), (0, .ref (a 0)), (1, .int p0)]) hx hb dX5_writeSpan_68 rfl hl (by decide) rfl (fun ls hl => ?_)
    obtain ⟨k13, ek13, hF⟩ := ob_k (F := fun k9 => F_X5_writeSpan_L69 p0 k9 1000 z11 0) hF
    have loop13 : ∀ (n9 : Nat) (b12 : Mv) (x13 : Int32), F_X5_writeSpan_L69 p0 k13 n9 b12 x13 = some z → ∀ (H : Heap) (locs : List Loc), va_P g.1 vwCl ([wM g a b12] : List va_W).flatten H → va_D A ([wM g a b12] : List va_W).flatten → va_S A s.heap H locs → ∀ ls : Array Slot, lv_has ls 3 [(0, .ref (a 0)), (1, .int p0), (2, .int x13)] → W p l e ({ frames := 9, cells := 0, slots := 0, locals := 190 } : Room) s m ([.ref (a 0), .int p0] : List Value).toArray below meth c H locs 0 0 Q (F0 m 69 ls []) := by
      intro n9
      induction n9 with
      | zero => intro b12 x13 hF; rw [F_X5_writeSpan_L69] at hF; cases hF
      | succ n9 ih13 =>
        intro b12 x13 hF H locs hP hD hS ls hl
        rw [F_X5_writeSpan_L69] at hF
        refine lv_iload_n hx hb dX5_writeSpan_69 rfl (lv_at hl 2 rfl) ?_
        refine lv_aload_n hx hb dX5_writeSpan_70 rfl (lv_at hl 0 rfl) ?_
        refine lv_iload_n hx hb dX5_writeSpan_71 rfl (lv_at hl 1 rfl) ?_
        refine lv_iconst (v := 3) hx hb dX5_writeSpan_72 (by decide) ?_
        obtain ⟨z14, hz14, hF⟩ := ob_bind hF
        refine cl_i (csR := []) (csF := [wM g a b12]) (rest := [.int x13]) hx hb hml hown hts hK hE hA hl hP hD hS (c_X5_of g l a b12 p0 3 z14 hz14) [0] [] [0] ⟨rfl, rfl, rfl, rfl, rfl, rfl, rfl⟩ ⟨0, 9, _, _, rfl, rfl, rfl⟩ 2 (jb_giV mw_1415 mw_1417 ms_36 mw_10 mw_1418) ⟨rfl, rfl⟩ (by decide +kernel) ⟨⟨(Nat.le_of_ble_eq_true rfl), (Nat.le_of_ble_eq_true rfl)⟩, (Nat.le_of_ble_eq_true rfl), (Nat.le_of_ble_eq_true rfl)⟩ ⟨rfl, rfl⟩ (Nat.le_of_ble_eq_true rfl) dX5_writeSpan_73 (fun H locs hP hD hS => ?_)
        refine lv_icmp_ge (tgt := 91) hx hb dX5_writeSpan_76 (by decide) (fun c15 => ?_) (fun c15 => ?_)
        · have hF := ob_pos c15 hF
          rw [ek13] at hF
          refine lv_iconst (v := 0) hx hb dX5_writeSpan_91 (by decide) ?_
          refine lv_istore_n (lv' := [(2, .int 0), (0, .ref (a 0)), (1, .int p0)]) hx hb dX5_writeSpan_92 rfl hl (by decide) rfl (fun ls hl => ?_)
          obtain ⟨k17, ek17, hF⟩ := ob_k (F := fun k9 => F_X5_writeSpan_L93 p0 k9 1000 b12 0) hF
          have loop17 : ∀ (n9 : Nat) (b16 : Mv) (x17 : Int32), F_X5_writeSpan_L93 p0 k17 n9 b16 x17 = some z → ∀ (H : Heap) (locs : List Loc), va_P g.1 vwCl ([wM g a b16] : List va_W).flatten H → va_D A ([wM g a b16] : List va_W).flatten → va_S A s.heap H locs → ∀ ls : Array Slot, lv_has ls 3 [(0, .ref (a 0)), (1, .int p0), (2, .int x17)] → W p l e ({ frames := 9, cells := 0, slots := 0, locals := 190 } : Room) s m ([.ref (a 0), .int p0] : List Value).toArray below meth c H locs 0 0 Q (F0 m 93 ls []) := by
            intro n9
            induction n9 with
            | zero => intro b16 x17 hF; rw [F_X5_writeSpan_L93] at hF; cases hF
            | succ n9 ih17 =>
              intro b16 x17 hF H locs hP hD hS ls hl
              rw [F_X5_writeSpan_L93] at hF
              refine lv_iload_n hx hb dX5_writeSpan_93 rfl (lv_at hl 2 rfl) ?_
              refine lv_aload_n hx hb dX5_writeSpan_94 rfl (lv_at hl 0 rfl) ?_
              refine va_get (D := g.1) (ci := 9) (v := .ref (a 1)) (C := RX5) (T := TX5) (N := 23) hx hb hts inX5 hown hK hP 0 rfl rfl 0 (by decide) (hts _ mw_1311) (fun _ h9 => h9) rfl dX5_writeSpan_95 ?_
              refine lv_iconst (v := 1) hx hb dX5_writeSpan_98 (by decide) ?_
              have h18 := inb_in (ck_t hF)
              have hF := ck_s hF
              refine va_iald hx hb hK hP 1 0 rfl rfl h18 dX5_writeSpan_99 ?_
              refine lv_icmp_ge (tgt := 146) hx hb dX5_writeSpan_100 (by decide) (fun c19 => ?_) (fun c19 => ?_)
              · have hF := ob_pos c19 hF
                rw [ek17] at hF
                refine lv_aload_n hx hb dX5_writeSpan_146 rfl (lv_at hl 0 rfl) ?_
                refine va_get (D := g.1) (ci := 9) (v := .int (M_signMany b16)) (C := RX5) (T := TX5) (N := 23) hx hb hts inX5 hown hK hP 0 rfl rfl 18 (by decide) (hts _ mw_1329) (fun _ h9 => h9) rfl dX5_writeSpan_147 ?_
                cases hF
                rw [hQ]
                exact jb_iret hx hb hr hlocks hP hD hS dX5_writeSpan_150 rfl (Nat.le_of_ble_eq_true rfl) (Nat.le_of_ble_eq_true rfl)
              · have hF := ob_neg c19 hF
                refine lv_aload_n hx hb dX5_writeSpan_103 rfl (lv_at hl 0 rfl) ?_
                refine lv_iload_n hx hb dX5_writeSpan_104 rfl (lv_at hl 2 rfl) ?_
                refine lv_iconst (v := 2) hx hb dX5_writeSpan_105 (by decide) ?_
                obtain ⟨z20, hz20, hF⟩ := ob_bind hF
                refine cl_i (csR := []) (csF := [wM g a b16]) (rest := []) hx hb hml hown hts hK hE hA hl hP hD hS (c_X5_on g l a b16 x17 2 z20 hz20) [0] [] [0] ⟨rfl, rfl, rfl, rfl, rfl, rfl, rfl⟩ ⟨0, 9, _, _, rfl, rfl, rfl⟩ 2 (jb_giV mw_1478 mw_1480 ms_42 mw_10 mw_1481) ⟨rfl, rfl⟩ (by decide +kernel) ⟨⟨(Nat.le_of_ble_eq_true rfl), (Nat.le_of_ble_eq_true rfl)⟩, (Nat.le_of_ble_eq_true rfl), (Nat.le_of_ble_eq_true rfl)⟩ ⟨rfl, rfl⟩ (Nat.le_of_ble_eq_true rfl) dX5_writeSpan_106 (fun H locs hP hD hS => ?_)
                refine lv_iload_n hx hb dX5_writeSpan_109 rfl (lv_at hl 1 rfl) ?_
                refine lv_icmp_eq (tgt := 116) hx hb dX5_writeSpan_110 (by decide) (fun c21 => ?_) (fun c21 => ?_)
                · have hF := ob_pos c21 hF
                  refine lv_aload_n hx hb dX5_writeSpan_116 rfl (lv_at hl 0 rfl) ?_
                  refine lv_bipush (v := 32) hx hb dX5_writeSpan_117 (by decide) ?_
                  refine lv_aload_n hx hb dX5_writeSpan_119 rfl (lv_at hl 0 rfl) ?_
                  refine lv_iload_n hx hb dX5_writeSpan_120 rfl (lv_at hl 2 rfl) ?_
                  refine lv_iconst (v := 0) hx hb dX5_writeSpan_121 (by decide) ?_
                  obtain ⟨z22, hz22, hF⟩ := ob_bind hF
                  refine cl_i (csR := []) (csF := [wM g a b16]) (rest := [.int 32, .ref (a 0)]) hx hb hml hown hts hK hE hA hl hP hD hS (c_X5_on g l a b16 x17 0 z22 hz22) [0] [] [0] ⟨rfl, rfl, rfl, rfl, rfl, rfl, rfl⟩ ⟨0, 9, _, _, rfl, rfl, rfl⟩ 2 (jb_giV mw_1478 mw_1480 ms_42 mw_10 mw_1481) ⟨rfl, rfl⟩ (by decide +kernel) ⟨⟨(Nat.le_of_ble_eq_true rfl), (Nat.le_of_ble_eq_true rfl)⟩, (Nat.le_of_ble_eq_true rfl), (Nat.le_of_ble_eq_true rfl)⟩ ⟨rfl, rfl⟩ (Nat.le_of_ble_eq_true rfl) dX5_writeSpan_122 (fun H locs hP hD hS => ?_)
                  obtain ⟨z23, hz23, hF⟩ := ob_bind hF
                  refine cl_v (csR := []) (csF := [wM g a z23]) (rest := []) hx hb hml hown hts hK hE hA hl hP hD hS (c_X5_writesBehind g l a b16 32 z22 z23 hz23) [0] [] [0] ⟨rfl, rfl, rfl, rfl, rfl, rfl, rfl⟩ ⟨0, 9, _, _, rfl, rfl, rfl⟩ 2 (jb_giV mw_1718 mw_1720 ms_70 mw_10 mw_1721) ⟨rfl, rfl⟩ (by decide +kernel) ⟨⟨(Nat.le_of_ble_eq_true rfl), (Nat.le_of_ble_eq_true rfl)⟩, (Nat.le_of_ble_eq_true rfl), (Nat.le_of_ble_eq_true rfl)⟩ ⟨rfl, rfl⟩ (Nat.le_of_ble_eq_true rfl) dX5_writeSpan_125 (fun H locs hP hD hS => ?_)
                  refine lv_aload_n hx hb dX5_writeSpan_128 rfl (lv_at hl 0 rfl) ?_
                  refine lv_bipush (v := 119) hx hb dX5_writeSpan_129 (by decide) ?_
                  refine lv_aload_n hx hb dX5_writeSpan_131 rfl (lv_at hl 0 rfl) ?_
                  refine lv_iload_n hx hb dX5_writeSpan_132 rfl (lv_at hl 2 rfl) ?_
                  refine lv_iconst (v := 1) hx hb dX5_writeSpan_133 (by decide) ?_
                  obtain ⟨z24, hz24, hF⟩ := ob_bind hF
                  refine cl_i (csR := []) (csF := [wM g a z23]) (rest := [.int 119, .ref (a 0)]) hx hb hml hown hts hK hE hA hl hP hD hS (c_X5_on g l a z23 x17 1 z24 hz24) [0] [] [0] ⟨rfl, rfl, rfl, rfl, rfl, rfl, rfl⟩ ⟨0, 9, _, _, rfl, rfl, rfl⟩ 2 (jb_giV mw_1478 mw_1480 ms_42 mw_10 mw_1481) ⟨rfl, rfl⟩ (by decide +kernel) ⟨⟨(Nat.le_of_ble_eq_true rfl), (Nat.le_of_ble_eq_true rfl)⟩, (Nat.le_of_ble_eq_true rfl), (Nat.le_of_ble_eq_true rfl)⟩ ⟨rfl, rfl⟩ (Nat.le_of_ble_eq_true rfl) dX5_writeSpan_134 (fun H locs hP hD hS => ?_)
                  obtain ⟨z25, hz25, hF⟩ := ob_bind hF
                  refine cl_v (csR := []) (csF := [wM g a z25]) (rest := []) hx hb hml hown hts hK hE hA hl hP hD hS (c_X5_writesBehind g l a z23 119 z24 z25 hz25) [0] [] [0] ⟨rfl, rfl, rfl, rfl, rfl, rfl, rfl⟩ ⟨0, 9, _, _, rfl, rfl, rfl⟩ 2 (jb_giV mw_1718 mw_1720 ms_70 mw_10 mw_1721) ⟨rfl, rfl⟩ (by decide +kernel) ⟨⟨(Nat.le_of_ble_eq_true rfl), (Nat.le_of_ble_eq_true rfl)⟩, (Nat.le_of_ble_eq_true rfl), (Nat.le_of_ble_eq_true rfl)⟩ ⟨rfl, rfl⟩ (Nat.le_of_ble_eq_true rfl) dX5_writeSpan_137 (fun H locs hP hD hS => ?_)
                  refine lv_iinc (v := x17 + 1) (lv' := [(2, .int (x17 + 1)), (0, .ref (a 0)), (1, .int p0)]) hx hb dX5_writeSpan_140 hl (k := 2) rfl (by rfl) (by decide) rfl (fun ls hl => ?_)
                  refine lv_goto (tgt := 93) hx hb dX5_writeSpan_143 (by decide) ?_
                  exact ih17 _ _ hF _ _ hP hD hS ls (lv_sub hl [1, 2, 0] rfl)
                · have hF := ob_neg c21 hF
                  refine lv_goto (tgt := 140) hx hb dX5_writeSpan_113 (by decide) ?_
                  refine lv_iinc (v := x17 + 1) (lv' := [(2, .int (x17 + 1)), (0, .ref (a 0)), (1, .int p0)]) hx hb dX5_writeSpan_140 hl (k := 2) rfl (by rfl) (by decide) rfl (fun ls hl => ?_)
                  refine lv_goto (tgt := 93) hx hb dX5_writeSpan_143 (by decide) ?_
                  exact ih17 _ _ hF _ _ hP hD hS ls (lv_sub hl [1, 2, 0] rfl)
          exact loop17 1000 _ _ hF _ _ hP hD hS ls (lv_sub hl [1, 2, 0] rfl)
        · have hF := ob_neg c15 hF
          refine lv_aload_n hx hb dX5_writeSpan_79 rfl (lv_at hl 0 rfl) ?_
          refine lv_bipush (v := 47) hx hb dX5_writeSpan_80 (by decide) ?_
          obtain ⟨z26, hz26, hF⟩ := ob_bind hF
          refine cl_v (csR := []) (csF := [wM g a z26]) (rest := []) hx hb hml hown hts hK hE hA hl hP hD hS (c_X5_writes g l a b12 47 z26 hz26) [0] [] [0] ⟨rfl, rfl, rfl, rfl, rfl, rfl, rfl⟩ ⟨0, 9, _, _, rfl, rfl, rfl⟩ 1 (jb_giV mw_1714 mw_1716 ms_69 mw_10 mw_1717) ⟨rfl, rfl⟩ (by decide +kernel) ⟨⟨(Nat.le_of_ble_eq_true rfl), (Nat.le_of_ble_eq_true rfl)⟩, (Nat.le_of_ble_eq_true rfl), (Nat.le_of_ble_eq_true rfl)⟩ ⟨rfl, rfl⟩ (Nat.le_of_ble_eq_true rfl) dX5_writeSpan_82 (fun H locs hP hD hS => ?_)
          refine lv_iinc (v := x13 + 1) (lv' := [(2, .int (x13 + 1)), (0, .ref (a 0)), (1, .int p0)]) hx hb dX5_writeSpan_85 hl (k := 2) rfl (by rfl) (by decide) rfl (fun ls hl => ?_)
          refine lv_goto (tgt := 69) hx hb dX5_writeSpan_88 (by decide) ?_
          exact ih13 _ _ hF _ _ hP hD hS ls (lv_sub hl [1, 2, 0] rfl)
    exact loop13 1000 _ _ hF _ _ hP hD hS ls (lv_sub hl [1, 2, 0] rfl)
  · have hF := ob_neg c2 hF
    refine lv_iconst (v := 0) hx hb dX5_writeSpan_8 (by decide) ?_
    cases hF
    rw [hQ]
    exact jb_iret hx hb hr hlocks hP hD hS dX5_writeSpan_9 rfl (Nat.le_of_ble_eq_true rfl) (Nat.le_of_ble_eq_true rfl)
def F_X5_writeBridge_L12  (k : Mv → Int32 → Option (Int32 × Mv)) : Nat → Mv → Int32 → Option (Int32 × Mv)
  | 0, _, _ => none
  | n + 1, b0, x1 => ck (inb 0 83) (if ((M_g b0) (0 : Int32).toNatClampNeg) ≤ x1 then k b0 x1 else if x1 ≤ 0 then (F_X5_loaded b0 x1).bind (fun z1 => (F_X5_writesNumber b0 z1).bind (fun z2 => (F_X5_strains z2 x1).bind (fun z3 => if (bi z3) = 0 then F_X5_writeBridge_L12  k n z2 (x1 + 1) else (F_X5_writes z2 33).bind (fun z4 => F_X5_writeBridge_L12  k n z4 (x1 + 1))))) else (F_X5_writes b0 124).bind (fun z5 => (F_X5_loaded z5 x1).bind (fun z6 => (F_X5_writesNumber z5 z6).bind (fun z7 => (F_X5_strains z7 x1).bind (fun z8 => if (bi z8) = 0 then F_X5_writeBridge_L12  k n z7 (x1 + 1) else (F_X5_writes z7 33).bind (fun z9 => F_X5_writeBridge_L12  k n z9 (x1 + 1)))))))
def F_X5_writeBridge (mo : Mv) : Option (Int32 × Mv) := F_X5_writeBridge_L12  (fun b10 x11 => some (M_signMany b10, b10)) 1000 (mkM (M_g mo) (M_kept mo) (M_saved mo) (M_before mo) (M_trial mo) (M_counted mo) (M_isSaved mo) (M_changes mo) (M_isWithin mo) (M_isDenied mo) 0 (M_why mo) (M_detail mo) (M_cause mo) (M_input mo) (M_length mo) (M_fault mo) (M_signs mo) 0 (M_lastOver mo) (M_at mo) (M_told mo) (M_toldMany mo)) 0
set_option maxHeartbeats 4000000 in
set_option maxRecDepth 100000 in
theorem c_X5_writeBridge (g : GG) (l : Launch) (a : Nat → Nat) (mo : Mv) (z : Int32 × Mv) (hF : F_X5_writeBridge mo = some z) : MI g l yX5_writeBridge cX5_writeBridge 2 (some .int) ({ frames := 8, cells := 0, slots := 0, locals := 168 } : Room) [.ref (a 0)] [wM g a mo] 0 0 z.1 [wM g a z.2] := by
  refine MI.bg (by decide) (Nat.le_of_ble_eq_true rfl) ?_
  intro p e s m below meth c A Q hQ hx hb hr hml hown hts hlocks hmn hK hE hA hP hD hS ls hl
  rw [F_X5_writeBridge] at hF
  have hl : lv_has ls 2 [(0, .ref (a 0))] := hl
  refine lv_aload_n hx hb dX5_writeBridge_0 rfl (lv_at hl 0 rfl) ?_
  refine lv_iconst (v := 0) hx hb dX5_writeBridge_1 (by decide) ?_
  refine va_put (D := g.1) (ci := 9) (v := .int 0) (ty := .int) (C := RX5) (T := TX5) (N := 23) hx hb hts inX5 tyX5 tyX5_ok nmX5 hown hK hP hD hS 0 rfl rfl 10 (by decide) (hts _ mw_1321) (fun _ h9 => h9) rfl (by decide +kernel) rfl rfl (Nat.le_of_ble_eq_true rfl) dX5_writeBridge_2 (fun H locs hP hD hS => ?_)
  have hP : va_P g.1 vwCl ([wMc g a (M_g mo) (M_kept mo) (M_saved mo) (M_before mo) (M_trial mo) (M_counted mo) (M_isSaved mo) (M_changes mo) (M_isWithin mo) (M_isDenied mo) 0 (M_why mo) (M_detail mo) (M_cause mo) (M_input mo) (M_length mo) (M_fault mo) (M_signs mo) (M_signMany mo) (M_lastOver mo) (M_at mo) (M_told mo) (M_toldMany mo)] : List va_W).flatten _ := hP
  have hD : va_D A ([wMc g a (M_g mo) (M_kept mo) (M_saved mo) (M_before mo) (M_trial mo) (M_counted mo) (M_isSaved mo) (M_changes mo) (M_isWithin mo) (M_isDenied mo) 0 (M_why mo) (M_detail mo) (M_cause mo) (M_input mo) (M_length mo) (M_fault mo) (M_signs mo) (M_signMany mo) (M_lastOver mo) (M_at mo) (M_told mo) (M_toldMany mo)] : List va_W).flatten := hD
  refine lv_aload_n hx hb dX5_writeBridge_5 rfl (lv_at hl 0 rfl) ?_
  refine lv_iconst (v := 0) hx hb dX5_writeBridge_6 (by decide) ?_
  refine va_put (D := g.1) (ci := 9) (v := .int 0) (ty := .int) (C := RX5) (T := TX5) (N := 23) hx hb hts inX5 tyX5 tyX5_ok nmX5 hown hK hP hD hS 0 rfl rfl 18 (by decide) (hts _ mw_1329) (fun _ h9 => h9) rfl (by decide +kernel) rfl rfl (Nat.le_of_ble_eq_true rfl) dX5_writeBridge_7 (fun H locs hP hD hS => ?_)
  have hP : va_P g.1 vwCl ([wMc g a (M_g mo) (M_kept mo) (M_saved mo) (M_before mo) (M_trial mo) (M_counted mo) (M_isSaved mo) (M_changes mo) (M_isWithin mo) (M_isDenied mo) 0 (M_why mo) (M_detail mo) (M_cause mo) (M_input mo) (M_length mo) (M_fault mo) (M_signs mo) 0 (M_lastOver mo) (M_at mo) (M_told mo) (M_toldMany mo)] : List va_W).flatten _ := hP
  have hD : va_D A ([wMc g a (M_g mo) (M_kept mo) (M_saved mo) (M_before mo) (M_trial mo) (M_counted mo) (M_isSaved mo) (M_changes mo) (M_isWithin mo) (M_isDenied mo) 0 (M_why mo) (M_detail mo) (M_cause mo) (M_input mo) (M_length mo) (M_fault mo) (M_signs mo) 0 (M_lastOver mo) (M_at mo) (M_told mo) (M_toldMany mo)] : List va_W).flatten := hD
  refine lv_iconst (v := 0) hx hb dX5_writeBridge_10 (by decide) ?_
  refine lv_istore_n (lv' := [(1, .int 0), (0, .ref (a 0))]) hx hb dX5_writeBridge_11 rfl hl (by decide) rfl (fun ls hl => ?_)
  obtain ⟨k2, ek2, hF⟩ := ob_k (F := fun k9 => F_X5_writeBridge_L12  k9 1000 (mkM (M_g mo) (M_kept mo) (M_saved mo) (M_before mo) (M_trial mo) (M_counted mo) (M_isSaved mo) (M_changes mo) (M_isWithin mo) (M_isDenied mo) 0 (M_why mo) (M_detail mo) (M_cause mo) (M_input mo) (M_length mo) (M_fault mo) (M_signs mo) 0 (M_lastOver mo) (M_at mo) (M_told mo) (M_toldMany mo)) 0) hF
  have loop2 : ∀ (n9 : Nat) (b1 : Mv) (x2 : Int32), F_X5_writeBridge_L12  k2 n9 b1 x2 = some z → ∀ (H : Heap) (locs : List Loc), va_P g.1 vwCl ([wM g a b1] : List va_W).flatten H → va_D A ([wM g a b1] : List va_W).flatten → va_S A s.heap H locs → ∀ ls : Array Slot, lv_has ls 2 [(0, .ref (a 0)), (1, .int x2)] → W p l e ({ frames := 8, cells := 0, slots := 0, locals := 168 } : Room) s m ([.ref (a 0)] : List Value).toArray below meth c H locs 0 0 Q (F0 m 12 ls []) := by
    intro n9
    induction n9 with
    | zero => intro b1 x2 hF; rw [F_X5_writeBridge_L12] at hF; cases hF
    | succ n9 ih2 =>
      intro b1 x2 hF H locs hP hD hS ls hl
      rw [F_X5_writeBridge_L12] at hF
      refine lv_iload_n hx hb dX5_writeBridge_12 rfl (lv_at hl 1 rfl) ?_
      refine lv_aload_n hx hb dX5_writeBridge_13 rfl (lv_at hl 0 rfl) ?_
      refine va_get (D := g.1) (ci := 9) (v := .ref (a 1)) (C := RX5) (T := TX5) (N := 23) hx hb hts inX5 hown hK hP 0 rfl rfl 0 (by decide) (hts _ mw_1311) (fun _ h9 => h9) rfl dX5_writeBridge_14 ?_
      refine lv_iconst (v := 0) hx hb dX5_writeBridge_17 (by decide) ?_
      have h3 := inb_in (ck_t hF)
      have hF := ck_s hF
      refine va_iald hx hb hK hP 1 0 rfl rfl h3 dX5_writeBridge_18 ?_
      refine lv_icmp_ge (tgt := 61) hx hb dX5_writeBridge_19 (by decide) (fun c4 => ?_) (fun c4 => ?_)
      · have hF := ob_pos c4 hF
        rw [ek2] at hF
        refine lv_aload_n hx hb dX5_writeBridge_61 rfl (lv_at hl 0 rfl) ?_
        refine va_get (D := g.1) (ci := 9) (v := .int (M_signMany b1)) (C := RX5) (T := TX5) (N := 23) hx hb hts inX5 hown hK hP 0 rfl rfl 18 (by decide) (hts _ mw_1329) (fun _ h9 => h9) rfl dX5_writeBridge_62 ?_
        cases hF
        rw [hQ]
        exact jb_iret hx hb hr hlocks hP hD hS dX5_writeBridge_65 rfl (Nat.le_of_ble_eq_true rfl) (Nat.le_of_ble_eq_true rfl)
      · have hF := ob_neg c4 hF
        refine lv_iload_n hx hb dX5_writeBridge_22 rfl (lv_at hl 1 rfl) ?_
        refine lv_if_le (tgt := 32) hx hb dX5_writeBridge_23 (by decide) (fun c5 => ?_) (fun c5 => ?_)
        · have hF := ob_pos c5 hF
          refine lv_aload_n hx hb dX5_writeBridge_32 rfl (lv_at hl 0 rfl) ?_
          refine lv_aload_n hx hb dX5_writeBridge_33 rfl (lv_at hl 0 rfl) ?_
          refine lv_iload_n hx hb dX5_writeBridge_34 rfl (lv_at hl 1 rfl) ?_
          obtain ⟨z6, hz6, hF⟩ := ob_bind hF
          refine cl_i (csR := []) (csF := [wM g a b1]) (rest := [.ref (a 0)]) hx hb hml hown hts hK hE hA hl hP hD hS (c_X5_loaded g l a b1 x2 z6 hz6) [0] [] [0] ⟨rfl, rfl, rfl, rfl, rfl, rfl, rfl⟩ ⟨0, 9, _, _, rfl, rfl, rfl⟩ 1 (jb_giV mw_1474 mw_1476 ms_41 mw_10 mw_1477) ⟨rfl, rfl⟩ (by decide +kernel) ⟨⟨(Nat.le_of_ble_eq_true rfl), (Nat.le_of_ble_eq_true rfl)⟩, (Nat.le_of_ble_eq_true rfl), (Nat.le_of_ble_eq_true rfl)⟩ ⟨rfl, rfl⟩ (Nat.le_of_ble_eq_true rfl) dX5_writeBridge_35 (fun H locs hP hD hS => ?_)
          obtain ⟨z7, hz7, hF⟩ := ob_bind hF
          refine cl_v (csR := []) (csF := [wM g a z7]) (rest := []) hx hb hml hown hts hK hE hA hl hP hD hS (c_X5_writesNumber g l a b1 z6 z7 hz7) [0] [] [0] ⟨rfl, rfl, rfl, rfl, rfl, rfl, rfl⟩ ⟨0, 9, _, _, rfl, rfl, rfl⟩ 1 (jb_giV mw_1710 mw_1712 ms_68 mw_10 mw_1713) ⟨rfl, rfl⟩ (by decide +kernel) ⟨⟨(Nat.le_of_ble_eq_true rfl), (Nat.le_of_ble_eq_true rfl)⟩, (Nat.le_of_ble_eq_true rfl), (Nat.le_of_ble_eq_true rfl)⟩ ⟨rfl, rfl⟩ (Nat.le_of_ble_eq_true rfl) dX5_writeBridge_38 (fun H locs hP hD hS => ?_)
          refine lv_aload_n hx hb dX5_writeBridge_41 rfl (lv_at hl 0 rfl) ?_
          refine lv_iload_n hx hb dX5_writeBridge_42 rfl (lv_at hl 1 rfl) ?_
          obtain ⟨z8, hz8, hF⟩ := ob_bind hF
          refine cl_i (csR := []) (csF := [wM g a z7]) (rest := []) hx hb hml hown hts hK hE hA hl hP hD hS (c_X5_strains g l a z7 x2 z8 hz8) [0] [] [0] ⟨rfl, rfl, rfl, rfl, rfl, rfl, rfl⟩ ⟨0, 9, _, _, rfl, rfl, rfl⟩ 1 (jb_giV mw_1486 mw_1488 ms_43 mw_10 mw_1489) ⟨rfl, rfl⟩ (by decide +kernel) ⟨⟨(Nat.le_of_ble_eq_true rfl), (Nat.le_of_ble_eq_true rfl)⟩, (Nat.le_of_ble_eq_true rfl), (Nat.le_of_ble_eq_true rfl)⟩ ⟨rfl, rfl⟩ (Nat.le_of_ble_eq_true rfl) dX5_writeBridge_43 (fun H locs hP hD hS => ?_)
          refine lv_if_eq (tgt := 55) hx hb dX5_writeBridge_46 (by decide) (fun c9 => ?_) (fun c9 => ?_)
          · have hF := ob_pos c9 hF
            refine lv_iinc (v := x2 + 1) (lv' := [(1, .int (x2 + 1)), (0, .ref (a 0))]) hx hb dX5_writeBridge_55 hl (k := 1) rfl (by rfl) (by decide) rfl (fun ls hl => ?_)
            refine lv_goto (tgt := 12) hx hb dX5_writeBridge_58 (by decide) ?_
            exact ih2 _ _ hF _ _ hP hD hS ls (lv_sub hl [1, 0] rfl)
          · have hF := ob_neg c9 hF
            refine lv_aload_n hx hb dX5_writeBridge_49 rfl (lv_at hl 0 rfl) ?_
            refine lv_bipush (v := 33) hx hb dX5_writeBridge_50 (by decide) ?_
            obtain ⟨z10, hz10, hF⟩ := ob_bind hF
            refine cl_v (csR := []) (csF := [wM g a z10]) (rest := []) hx hb hml hown hts hK hE hA hl hP hD hS (c_X5_writes g l a z7 33 z10 hz10) [0] [] [0] ⟨rfl, rfl, rfl, rfl, rfl, rfl, rfl⟩ ⟨0, 9, _, _, rfl, rfl, rfl⟩ 1 (jb_giV mw_1714 mw_1716 ms_69 mw_10 mw_1717) ⟨rfl, rfl⟩ (by decide +kernel) ⟨⟨(Nat.le_of_ble_eq_true rfl), (Nat.le_of_ble_eq_true rfl)⟩, (Nat.le_of_ble_eq_true rfl), (Nat.le_of_ble_eq_true rfl)⟩ ⟨rfl, rfl⟩ (Nat.le_of_ble_eq_true rfl) dX5_writeBridge_52 (fun H locs hP hD hS => ?_)
            refine lv_iinc (v := x2 + 1) (lv' := [(1, .int (x2 + 1)), (0, .ref (a 0))]) hx hb dX5_writeBridge_55 hl (k := 1) rfl (by rfl) (by decide) rfl (fun ls hl => ?_)
            refine lv_goto (tgt := 12) hx hb dX5_writeBridge_58 (by decide) ?_
            exact ih2 _ _ hF _ _ hP hD hS ls (lv_sub hl [1, 0] rfl)
        · have hF := ob_neg c5 hF
          refine lv_aload_n hx hb dX5_writeBridge_26 rfl (lv_at hl 0 rfl) ?_
          refine lv_bipush (v := 124) hx hb dX5_writeBridge_27 (by decide) ?_
          obtain ⟨z11, hz11, hF⟩ := ob_bind hF
          refine cl_v (csR := []) (csF := [wM g a z11]) (rest := []) hx hb hml hown hts hK hE hA hl hP hD hS (c_X5_writes g l a b1 124 z11 hz11) [0] [] [0] ⟨rfl, rfl, rfl, rfl, rfl, rfl, rfl⟩ ⟨0, 9, _, _, rfl, rfl, rfl⟩ 1 (jb_giV mw_1714 mw_1716 ms_69 mw_10 mw_1717) ⟨rfl, rfl⟩ (by decide +kernel) ⟨⟨(Nat.le_of_ble_eq_true rfl), (Nat.le_of_ble_eq_true rfl)⟩, (Nat.le_of_ble_eq_true rfl), (Nat.le_of_ble_eq_true rfl)⟩ ⟨rfl, rfl⟩ (Nat.le_of_ble_eq_true rfl) dX5_writeBridge_29 (fun H locs hP hD hS => ?_)
          refine lv_aload_n hx hb dX5_writeBridge_32 rfl (lv_at hl 0 rfl) ?_
          refine lv_aload_n hx hb dX5_writeBridge_33 rfl (lv_at hl 0 rfl) ?_
          refine lv_iload_n hx hb dX5_writeBridge_34 rfl (lv_at hl 1 rfl) ?_
          obtain ⟨z12, hz12, hF⟩ := ob_bind hF
          refine cl_i (csR := []) (csF := [wM g a z11]) (rest := [.ref (a 0)]) hx hb hml hown hts hK hE hA hl hP hD hS (c_X5_loaded g l a z11 x2 z12 hz12) [0] [] [0] ⟨rfl, rfl, rfl, rfl, rfl, rfl, rfl⟩ ⟨0, 9, _, _, rfl, rfl, rfl⟩ 1 (jb_giV mw_1474 mw_1476 ms_41 mw_10 mw_1477) ⟨rfl, rfl⟩ (by decide +kernel) ⟨⟨(Nat.le_of_ble_eq_true rfl), (Nat.le_of_ble_eq_true rfl)⟩, (Nat.le_of_ble_eq_true rfl), (Nat.le_of_ble_eq_true rfl)⟩ ⟨rfl, rfl⟩ (Nat.le_of_ble_eq_true rfl) dX5_writeBridge_35 (fun H locs hP hD hS => ?_)
          obtain ⟨z13, hz13, hF⟩ := ob_bind hF
          refine cl_v (csR := []) (csF := [wM g a z13]) (rest := []) hx hb hml hown hts hK hE hA hl hP hD hS (c_X5_writesNumber g l a z11 z12 z13 hz13) [0] [] [0] ⟨rfl, rfl, rfl, rfl, rfl, rfl, rfl⟩ ⟨0, 9, _, _, rfl, rfl, rfl⟩ 1 (jb_giV mw_1710 mw_1712 ms_68 mw_10 mw_1713) ⟨rfl, rfl⟩ (by decide +kernel) ⟨⟨(Nat.le_of_ble_eq_true rfl), (Nat.le_of_ble_eq_true rfl)⟩, (Nat.le_of_ble_eq_true rfl), (Nat.le_of_ble_eq_true rfl)⟩ ⟨rfl, rfl⟩ (Nat.le_of_ble_eq_true rfl) dX5_writeBridge_38 (fun H locs hP hD hS => ?_)
          refine lv_aload_n hx hb dX5_writeBridge_41 rfl (lv_at hl 0 rfl) ?_
          refine lv_iload_n hx hb dX5_writeBridge_42 rfl (lv_at hl 1 rfl) ?_
          obtain ⟨z14, hz14, hF⟩ := ob_bind hF
          refine cl_i (csR := []) (csF := [wM g a z13]) (rest := []) hx hb hml hown hts hK hE hA hl hP hD hS (c_X5_strains g l a z13 x2 z14 hz14) [0] [] [0] ⟨rfl, rfl, rfl, rfl, rfl, rfl, rfl⟩ ⟨0, 9, _, _, rfl, rfl, rfl⟩ 1 (jb_giV mw_1486 mw_1488 ms_43 mw_10 mw_1489) ⟨rfl, rfl⟩ (by decide +kernel) ⟨⟨(Nat.le_of_ble_eq_true rfl), (Nat.le_of_ble_eq_true rfl)⟩, (Nat.le_of_ble_eq_true rfl), (Nat.le_of_ble_eq_true rfl)⟩ ⟨rfl, rfl⟩ (Nat.le_of_ble_eq_true rfl) dX5_writeBridge_43 (fun H locs hP hD hS => ?_)
          refine lv_if_eq (tgt := 55) hx hb dX5_writeBridge_46 (by decide) (fun c15 => ?_) (fun c15 => ?_)
          · have hF := ob_pos c15 hF
            refine lv_iinc (v := x2 + 1) (lv' := [(1, .int (x2 + 1)), (0, .ref (a 0))]) hx hb dX5_writeBridge_55 hl (k := 1) rfl (by rfl) (by decide) rfl (fun ls hl => ?_)
            refine lv_goto (tgt := 12) hx hb dX5_writeBridge_58 (by decide) ?_
            exact ih2 _ _ hF _ _ hP hD hS ls (lv_sub hl [1, 0] rfl)
          · have hF := ob_neg c15 hF
            refine lv_aload_n hx hb dX5_writeBridge_49 rfl (lv_at hl 0 rfl) ?_
            refine lv_bipush (v := 33) hx hb dX5_writeBridge_50 (by decide) ?_
            obtain ⟨z16, hz16, hF⟩ := ob_bind hF
            refine cl_v (csR := []) (csF := [wM g a z16]) (rest := []) hx hb hml hown hts hK hE hA hl hP hD hS (c_X5_writes g l a z13 33 z16 hz16) [0] [] [0] ⟨rfl, rfl, rfl, rfl, rfl, rfl, rfl⟩ ⟨0, 9, _, _, rfl, rfl, rfl⟩ 1 (jb_giV mw_1714 mw_1716 ms_69 mw_10 mw_1717) ⟨rfl, rfl⟩ (by decide +kernel) ⟨⟨(Nat.le_of_ble_eq_true rfl), (Nat.le_of_ble_eq_true rfl)⟩, (Nat.le_of_ble_eq_true rfl), (Nat.le_of_ble_eq_true rfl)⟩ ⟨rfl, rfl⟩ (Nat.le_of_ble_eq_true rfl) dX5_writeBridge_52 (fun H locs hP hD hS => ?_)
            refine lv_iinc (v := x2 + 1) (lv' := [(1, .int (x2 + 1)), (0, .ref (a 0))]) hx hb dX5_writeBridge_55 hl (k := 1) rfl (by rfl) (by decide) rfl (fun ls hl => ?_)
            refine lv_goto (tgt := 12) hx hb dX5_writeBridge_58 (by decide) ?_
            exact ih2 _ _ hF _ _ hP hD hS ls (lv_sub hl [1, 0] rfl)
  exact loop2 1000 _ _ hF _ _ hP hD hS ls (lv_sub hl [1, 0] rfl)
def F_X5_meanStrength_L27  (k : Mv → Int32 → Int32 → Option ((UInt64 × Mv) ⊕ (String × Mv))) : Nat → Mv → Int32 → Int32 → Option ((UInt64 × Mv) ⊕ (String × Mv))
  | 0, _, _, _ => none
  | n + 1, b0, x1, x2 => ck (inb 0 83) (if ((M_g b0) (0 : Int32).toNatClampNeg) ≤ x2 then k b0 x1 x2 else (F_X5_strong b0 x2).bind (fun z2 => F_X5_meanStrength_L27  k n b0 (x1 + z2) (x2 + 1)))
def F_X5_meanStrength (mo : Mv) : Option ((UInt64 × Mv) ⊕ (String × Mv)) := ck (inb 0 83) (if ¬ ((M_g mo) (0 : Int32).toNatClampNeg) = 0 then (F_X5_fails mo 0).bind (fun z1 => if (bi z1.1) = 0 then F_X5_meanStrength_L27  (fun b3 x4 x5 => ck (inb 0 83) (ck (nn64 (FP.ddiv (FP.i2d x4) (FP.i2d ((M_g b3) (0 : Int32).toNatClampNeg)))) (some (.inl (FP.ddiv (FP.i2d x4) (FP.i2d ((M_g b3) (0 : Int32).toNatClampNeg)), b3))))) 1000 z1.2 0 0 else some (.inl (FP.dconst0, z1.2))) else (F_X5_fails mo 1).bind (fun z6 => if (bi z6.1) = 0 then F_X5_meanStrength_L27  (fun b7 x8 x9 => ck (inb 0 83) (ck (nn64 (FP.ddiv (FP.i2d x8) (FP.i2d ((M_g b7) (0 : Int32).toNatClampNeg)))) (some (.inl (FP.ddiv (FP.i2d x8) (FP.i2d ((M_g b7) (0 : Int32).toNatClampNeg)), b7))))) 1000 z6.2 0 0 else some (.inl (FP.dconst0, z6.2))))
set_option maxHeartbeats 4000000 in
set_option maxRecDepth 100000 in
theorem c_X5_meanStrength (g : GG) (l : Launch) (hst : l.stackTraces = false) (a : Nat → Nat) (mo : Mv) (z : (UInt64 × Mv) ⊕ (String × Mv)) (hF : F_X5_meanStrength mo = some z) : MX g l yX5_meanStrength cX5_meanStrength 3 (some .double) ({ frames := 3, cells := 0, slots := 0, locals := 65 } : Room) [.ref (a 0)] [wM g a mo] 0 0 (Sum.elim (fun y => .inl (some (.double y.1), [wM g a y.2])) (fun y => .inr (y.1, [wM g a y.2])) z) := by
  refine MX.bg (by decide) (Nat.le_of_ble_eq_true rfl) ?_
  intro p e s m below meth c A Q hQ hx hb hr hml hown hts hlocks htab hK hE hA hP hD hS ls hl
  rw [F_X5_meanStrength] at hF
  have hl : lv_has ls 3 [(0, .ref (a 0))] := hl
  refine lv_aload_n hx hb dX5_meanStrength_0 rfl (lv_at hl 0 rfl) ?_
  refine lv_aload_n hx hb dX5_meanStrength_1 rfl (lv_at hl 0 rfl) ?_
  refine va_get (D := g.1) (ci := 9) (v := .ref (a 1)) (C := RX5) (T := TX5) (N := 23) hx hb hts inX5 hown hK hP 0 rfl rfl 0 (by decide) (hts _ mw_1311) (fun _ h9 => h9) rfl dX5_meanStrength_2 ?_
  refine lv_iconst (v := 0) hx hb dX5_meanStrength_5 (by decide) ?_
  have h1 := inb_in (ck_t hF)
  have hF := ck_s hF
  refine va_iald hx hb hK hP 1 0 rfl rfl h1 dX5_meanStrength_6 ?_
  refine lv_if_ne (tgt := 14) hx hb dX5_meanStrength_7 (by decide) (fun c2 => ?_) (fun c2 => ?_)
  · have hF := ob_pos c2 hF
    refine lv_iconst (v := 0) hx hb dX5_meanStrength_14 (by decide) ?_
    obtain ⟨z3, hz3, hF⟩ := ob_bind hF
    refine cl_i (csR := []) (csF := [wM g a z3.2]) (rest := []) hx hb hml hown hts hK hE hA hl hP hD hS (c_X5_fails g l a mo 0 z3 hz3) [0] [] [0] ⟨rfl, rfl, rfl, rfl, rfl, rfl, rfl⟩ ⟨0, 9, _, _, rfl, rfl, rfl⟩ 1 (jb_giV mw_1392 mw_1394 ms_32 mw_10 mw_1395) ⟨rfl, rfl⟩ (by decide +kernel) ⟨⟨(Nat.le_of_ble_eq_true rfl), (Nat.le_of_ble_eq_true rfl)⟩, (Nat.le_of_ble_eq_true rfl), (Nat.le_of_ble_eq_true rfl)⟩ ⟨rfl, rfl⟩ (Nat.le_of_ble_eq_true rfl) dX5_meanStrength_15 (fun H locs hP hD hS => ?_)
    refine lv_if_eq (tgt := 23) hx hb dX5_meanStrength_18 (by decide) (fun c4 => ?_) (fun c4 => ?_)
    · have hF := ob_pos c4 hF
      refine lv_iconst (v := 0) hx hb dX5_meanStrength_23 (by decide) ?_
      refine lv_istore_n (lv' := [(1, .int 0), (0, .ref (a 0))]) hx hb dX5_meanStrength_24 rfl hl (by decide) rfl (fun ls hl => ?_)
      refine lv_iconst (v := 0) hx hb dX5_meanStrength_25 (by decide) ?_
      refine lv_istore_n (lv' := [(2, .int 0), (1, .int 0), (0, .ref (a 0))]) hx hb dX5_meanStrength_26 rfl hl (by decide) rfl (fun ls hl => ?_)
      obtain ⟨k7, ek7, hF⟩ := ob_k (F := fun k9 => F_X5_meanStrength_L27  k9 1000 z3.2 0 0) hF
      have loop7 : ∀ (n9 : Nat) (b5 : Mv) (x6 : Int32) (x7 : Int32), F_X5_meanStrength_L27  k7 n9 b5 x6 x7 = some z → ∀ (H : Heap) (locs : List Loc), va_P g.1 vwCl ([wM g a b5] : List va_W).flatten H → va_D A ([wM g a b5] : List va_W).flatten → va_S A s.heap H locs → ∀ ls : Array Slot, lv_has ls 3 [(0, .ref (a 0)), (1, .int x6), (2, .int x7)] → W p l e ({ frames := 3, cells := 0, slots := 0, locals := 65 } : Room) s m ([.ref (a 0)] : List Value).toArray below meth c H locs 0 0 Q (F0 m 27 ls []) := by
        intro n9
        induction n9 with
        | zero => intro b5 x6 x7 hF; rw [F_X5_meanStrength_L27] at hF; cases hF
        | succ n9 ih7 =>
          intro b5 x6 x7 hF H locs hP hD hS ls hl
          rw [F_X5_meanStrength_L27] at hF
          refine lv_iload_n hx hb dX5_meanStrength_27 rfl (lv_at hl 2 rfl) ?_
          refine lv_aload_n hx hb dX5_meanStrength_28 rfl (lv_at hl 0 rfl) ?_
          refine va_get (D := g.1) (ci := 9) (v := .ref (a 1)) (C := RX5) (T := TX5) (N := 23) hx hb hts inX5 hown hK hP 0 rfl rfl 0 (by decide) (hts _ mw_1311) (fun _ h9 => h9) rfl dX5_meanStrength_29 ?_
          refine lv_iconst (v := 0) hx hb dX5_meanStrength_32 (by decide) ?_
          have h8 := inb_in (ck_t hF)
          have hF := ck_s hF
          refine va_iald hx hb hK hP 1 0 rfl rfl h8 dX5_meanStrength_33 ?_
          refine lv_icmp_ge (tgt := 51) hx hb dX5_meanStrength_34 (by decide) (fun c9 => ?_) (fun c9 => ?_)
          · have hF := ob_pos c9 hF
            rw [ek7] at hF
            refine lv_iload_n hx hb dX5_meanStrength_51 rfl (lv_at hl 1 rfl) ?_
            refine lv_i2d hx hb dX5_meanStrength_52 ?_
            refine lv_aload_n hx hb dX5_meanStrength_53 rfl (lv_at hl 0 rfl) ?_
            refine va_get (D := g.1) (ci := 9) (v := .ref (a 1)) (C := RX5) (T := TX5) (N := 23) hx hb hts inX5 hown hK hP 0 rfl rfl 0 (by decide) (hts _ mw_1311) (fun _ h9 => h9) rfl dX5_meanStrength_54 ?_
            refine lv_iconst (v := 0) hx hb dX5_meanStrength_57 (by decide) ?_
            have h10 := inb_in (ck_t hF)
            have hF := ck_s hF
            refine va_iald hx hb hK hP 1 0 rfl rfl h10 dX5_meanStrength_58 ?_
            refine lv_i2d hx hb dX5_meanStrength_59 ?_
            have h11 := nn64_ne (ck_t hF)
            have hF := ck_s hF
            refine lv_ddiv hx hb dX5_meanStrength_60 h11 ?_
            cases hF
            rw [hQ]
            exact jx_dret hx hb hr hlocks hP hD hS dX5_meanStrength_61 rfl (Nat.le_of_ble_eq_true rfl) (Nat.le_of_ble_eq_true rfl)
          · have hF := ob_neg c9 hF
            refine lv_iload_n hx hb dX5_meanStrength_37 rfl (lv_at hl 1 rfl) ?_
            refine lv_aload_n hx hb dX5_meanStrength_38 rfl (lv_at hl 0 rfl) ?_
            refine lv_iload_n hx hb dX5_meanStrength_39 rfl (lv_at hl 2 rfl) ?_
            obtain ⟨z12, hz12, hF⟩ := ob_bind hF
            refine cl_i (csR := []) (csF := [wM g a b5]) (rest := [.int x6]) hx hb hml hown hts hK hE hA hl hP hD hS (c_X5_strong g l a b5 x7 z12 hz12) [0] [] [0] ⟨rfl, rfl, rfl, rfl, rfl, rfl, rfl⟩ ⟨0, 9, _, _, rfl, rfl, rfl⟩ 1 (jb_giV mw_1459 mw_1461 ms_39 mw_10 mw_1462) ⟨rfl, rfl⟩ (by decide +kernel) ⟨⟨(Nat.le_of_ble_eq_true rfl), (Nat.le_of_ble_eq_true rfl)⟩, (Nat.le_of_ble_eq_true rfl), (Nat.le_of_ble_eq_true rfl)⟩ ⟨rfl, rfl⟩ (Nat.le_of_ble_eq_true rfl) dX5_meanStrength_40 (fun H locs hP hD hS => ?_)
            refine lv_iadd hx hb dX5_meanStrength_43 ?_
            refine lv_istore_n (lv' := [(1, .int (x6 + z12)), (0, .ref (a 0)), (2, .int x7)]) hx hb dX5_meanStrength_44 rfl hl (by decide) rfl (fun ls hl => ?_)
            refine lv_iinc (v := x7 + 1) (lv' := [(2, .int (x7 + 1)), (1, .int (x6 + z12)), (0, .ref (a 0))]) hx hb dX5_meanStrength_45 hl (k := 2) rfl (by rfl) (by decide) rfl (fun ls hl => ?_)
            refine lv_goto (tgt := 27) hx hb dX5_meanStrength_48 (by decide) ?_
            exact ih7 _ _ _ hF _ _ hP hD hS ls (lv_sub hl [2, 1, 0] rfl)
      exact loop7 1000 _ _ _ hF _ _ hP hD hS ls (lv_sub hl [2, 1, 0] rfl)
    · have hF := ob_neg c4 hF
      refine lv_dconst0 hx hb dX5_meanStrength_21 ?_
      cases hF
      rw [hQ]
      exact jx_dret hx hb hr hlocks hP hD hS dX5_meanStrength_22 rfl (Nat.le_of_ble_eq_true rfl) (Nat.le_of_ble_eq_true rfl)
  · have hF := ob_nneg c2 hF
    refine lv_iconst (v := 1) hx hb dX5_meanStrength_10 (by decide) ?_
    refine lv_goto (tgt := 15) hx hb dX5_meanStrength_11 (by decide) ?_
    obtain ⟨z13, hz13, hF⟩ := ob_bind hF
    refine cl_i (csR := []) (csF := [wM g a z13.2]) (rest := []) hx hb hml hown hts hK hE hA hl hP hD hS (c_X5_fails g l a mo 1 z13 hz13) [0] [] [0] ⟨rfl, rfl, rfl, rfl, rfl, rfl, rfl⟩ ⟨0, 9, _, _, rfl, rfl, rfl⟩ 1 (jb_giV mw_1392 mw_1394 ms_32 mw_10 mw_1395) ⟨rfl, rfl⟩ (by decide +kernel) ⟨⟨(Nat.le_of_ble_eq_true rfl), (Nat.le_of_ble_eq_true rfl)⟩, (Nat.le_of_ble_eq_true rfl), (Nat.le_of_ble_eq_true rfl)⟩ ⟨rfl, rfl⟩ (Nat.le_of_ble_eq_true rfl) dX5_meanStrength_15 (fun H locs hP hD hS => ?_)
    refine lv_if_eq (tgt := 23) hx hb dX5_meanStrength_18 (by decide) (fun c14 => ?_) (fun c14 => ?_)
    · have hF := ob_pos c14 hF
      refine lv_iconst (v := 0) hx hb dX5_meanStrength_23 (by decide) ?_
      refine lv_istore_n (lv' := [(1, .int 0), (0, .ref (a 0))]) hx hb dX5_meanStrength_24 rfl hl (by decide) rfl (fun ls hl => ?_)
      refine lv_iconst (v := 0) hx hb dX5_meanStrength_25 (by decide) ?_
      refine lv_istore_n (lv' := [(2, .int 0), (1, .int 0), (0, .ref (a 0))]) hx hb dX5_meanStrength_26 rfl hl (by decide) rfl (fun ls hl => ?_)
      obtain ⟨k17, ek17, hF⟩ := ob_k (F := fun k9 => F_X5_meanStrength_L27  k9 1000 z13.2 0 0) hF
      have loop17 : ∀ (n9 : Nat) (b15 : Mv) (x16 : Int32) (x17 : Int32), F_X5_meanStrength_L27  k17 n9 b15 x16 x17 = some z → ∀ (H : Heap) (locs : List Loc), va_P g.1 vwCl ([wM g a b15] : List va_W).flatten H → va_D A ([wM g a b15] : List va_W).flatten → va_S A s.heap H locs → ∀ ls : Array Slot, lv_has ls 3 [(0, .ref (a 0)), (1, .int x16), (2, .int x17)] → W p l e ({ frames := 3, cells := 0, slots := 0, locals := 65 } : Room) s m ([.ref (a 0)] : List Value).toArray below meth c H locs 0 0 Q (F0 m 27 ls []) := by
        intro n9
        induction n9 with
        | zero => intro b15 x16 x17 hF; rw [F_X5_meanStrength_L27] at hF; cases hF
        | succ n9 ih17 =>
          intro b15 x16 x17 hF H locs hP hD hS ls hl
          rw [F_X5_meanStrength_L27] at hF
          refine lv_iload_n hx hb dX5_meanStrength_27 rfl (lv_at hl 2 rfl) ?_
          refine lv_aload_n hx hb dX5_meanStrength_28 rfl (lv_at hl 0 rfl) ?_
          refine va_get (D := g.1) (ci := 9) (v := .ref (a 1)) (C := RX5) (T := TX5) (N := 23) hx hb hts inX5 hown hK hP 0 rfl rfl 0 (by decide) (hts _ mw_1311) (fun _ h9 => h9) rfl dX5_meanStrength_29 ?_
          refine lv_iconst (v := 0) hx hb dX5_meanStrength_32 (by decide) ?_
          have h18 := inb_in (ck_t hF)
          have hF := ck_s hF
          refine va_iald hx hb hK hP 1 0 rfl rfl h18 dX5_meanStrength_33 ?_
          refine lv_icmp_ge (tgt := 51) hx hb dX5_meanStrength_34 (by decide) (fun c19 => ?_) (fun c19 => ?_)
          · have hF := ob_pos c19 hF
            rw [ek17] at hF
            refine lv_iload_n hx hb dX5_meanStrength_51 rfl (lv_at hl 1 rfl) ?_
            refine lv_i2d hx hb dX5_meanStrength_52 ?_
            refine lv_aload_n hx hb dX5_meanStrength_53 rfl (lv_at hl 0 rfl) ?_
            refine va_get (D := g.1) (ci := 9) (v := .ref (a 1)) (C := RX5) (T := TX5) (N := 23) hx hb hts inX5 hown hK hP 0 rfl rfl 0 (by decide) (hts _ mw_1311) (fun _ h9 => h9) rfl dX5_meanStrength_54 ?_
            refine lv_iconst (v := 0) hx hb dX5_meanStrength_57 (by decide) ?_
            have h20 := inb_in (ck_t hF)
            have hF := ck_s hF
            refine va_iald hx hb hK hP 1 0 rfl rfl h20 dX5_meanStrength_58 ?_
            refine lv_i2d hx hb dX5_meanStrength_59 ?_
            have h21 := nn64_ne (ck_t hF)
            have hF := ck_s hF
            refine lv_ddiv hx hb dX5_meanStrength_60 h21 ?_
            cases hF
            rw [hQ]
            exact jx_dret hx hb hr hlocks hP hD hS dX5_meanStrength_61 rfl (Nat.le_of_ble_eq_true rfl) (Nat.le_of_ble_eq_true rfl)
          · have hF := ob_neg c19 hF
            refine lv_iload_n hx hb dX5_meanStrength_37 rfl (lv_at hl 1 rfl) ?_
            refine lv_aload_n hx hb dX5_meanStrength_38 rfl (lv_at hl 0 rfl) ?_
            refine lv_iload_n hx hb dX5_meanStrength_39 rfl (lv_at hl 2 rfl) ?_
            obtain ⟨z22, hz22, hF⟩ := ob_bind hF
            refine cl_i (csR := []) (csF := [wM g a b15]) (rest := [.int x16]) hx hb hml hown hts hK hE hA hl hP hD hS (c_X5_strong g l a b15 x17 z22 hz22) [0] [] [0] ⟨rfl, rfl, rfl, rfl, rfl, rfl, rfl⟩ ⟨0, 9, _, _, rfl, rfl, rfl⟩ 1 (jb_giV mw_1459 mw_1461 ms_39 mw_10 mw_1462) ⟨rfl, rfl⟩ (by decide +kernel) ⟨⟨(Nat.le_of_ble_eq_true rfl), (Nat.le_of_ble_eq_true rfl)⟩, (Nat.le_of_ble_eq_true rfl), (Nat.le_of_ble_eq_true rfl)⟩ ⟨rfl, rfl⟩ (Nat.le_of_ble_eq_true rfl) dX5_meanStrength_40 (fun H locs hP hD hS => ?_)
            refine lv_iadd hx hb dX5_meanStrength_43 ?_
            refine lv_istore_n (lv' := [(1, .int (x16 + z22)), (0, .ref (a 0)), (2, .int x17)]) hx hb dX5_meanStrength_44 rfl hl (by decide) rfl (fun ls hl => ?_)
            refine lv_iinc (v := x17 + 1) (lv' := [(2, .int (x17 + 1)), (1, .int (x16 + z22)), (0, .ref (a 0))]) hx hb dX5_meanStrength_45 hl (k := 2) rfl (by rfl) (by decide) rfl (fun ls hl => ?_)
            refine lv_goto (tgt := 27) hx hb dX5_meanStrength_48 (by decide) ?_
            exact ih17 _ _ _ hF _ _ hP hD hS ls (lv_sub hl [2, 1, 0] rfl)
      exact loop17 1000 _ _ _ hF _ _ hP hD hS ls (lv_sub hl [2, 1, 0] rfl)
    · have hF := ob_neg c14 hF
      refine lv_dconst0 hx hb dX5_meanStrength_21 ?_
      cases hF
      rw [hQ]
      exact jx_dret hx hb hr hlocks hP hD hS dX5_meanStrength_22 rfl (Nat.le_of_ble_eq_true rfl) (Nat.le_of_ble_eq_true rfl)
def F_X5_sunkShare (mo : Mv) : Option ((UInt32 × Mv) ⊕ (String × Mv)) := ck (inb 8 83) (ck (inb 7 83) (if ¬ (((M_g mo) (8 : Int32).toNatClampNeg) + ((M_g mo) (7 : Int32).toNatClampNeg)) = 0 then (F_X5_fails mo 0).bind (fun z1 => if (bi z1.1) = 0 then ck (inb 8 83) (ck (inb 8 83) (ck (inb 7 83) (ck (nn32 (FP.fdiv (FP.i2f ((M_g z1.2) (8 : Int32).toNatClampNeg)) (FP.i2f (((M_g z1.2) (8 : Int32).toNatClampNeg) + ((M_g z1.2) (7 : Int32).toNatClampNeg))))) (some (.inl (FP.fdiv (FP.i2f ((M_g z1.2) (8 : Int32).toNatClampNeg)) (FP.i2f (((M_g z1.2) (8 : Int32).toNatClampNeg) + ((M_g z1.2) (7 : Int32).toNatClampNeg))), z1.2)))))) else some (.inl (FP.fconst0, z1.2))) else (F_X5_fails mo 1).bind (fun z2 => if (bi z2.1) = 0 then ck (inb 8 83) (ck (inb 8 83) (ck (inb 7 83) (ck (nn32 (FP.fdiv (FP.i2f ((M_g z2.2) (8 : Int32).toNatClampNeg)) (FP.i2f (((M_g z2.2) (8 : Int32).toNatClampNeg) + ((M_g z2.2) (7 : Int32).toNatClampNeg))))) (some (.inl (FP.fdiv (FP.i2f ((M_g z2.2) (8 : Int32).toNatClampNeg)) (FP.i2f (((M_g z2.2) (8 : Int32).toNatClampNeg) + ((M_g z2.2) (7 : Int32).toNatClampNeg))), z2.2)))))) else some (.inl (FP.fconst0, z2.2)))))
set_option maxHeartbeats 4000000 in
set_option maxRecDepth 100000 in
theorem c_X5_sunkShare (g : GG) (l : Launch) (hst : l.stackTraces = false) (a : Nat → Nat) (mo : Mv) (z : (UInt32 × Mv) ⊕ (String × Mv)) (hF : F_X5_sunkShare mo = some z) : MX g l yX5_sunkShare cX5_sunkShare 1 (some .float) ({ frames := 1, cells := 0, slots := 0, locals := 21 } : Room) [.ref (a 0)] [wM g a mo] 0 0 (Sum.elim (fun y => .inl (some (.float y.1), [wM g a y.2])) (fun y => .inr (y.1, [wM g a y.2])) z) := by
  refine MX.bg (by decide) (Nat.le_of_ble_eq_true rfl) ?_
  intro p e s m below meth c A Q hQ hx hb hr hml hown hts hlocks htab hK hE hA hP hD hS ls hl
  rw [F_X5_sunkShare] at hF
  have hl : lv_has ls 1 [(0, .ref (a 0))] := hl
  refine lv_aload_n hx hb dX5_sunkShare_0 rfl (lv_at hl 0 rfl) ?_
  refine lv_aload_n hx hb dX5_sunkShare_1 rfl (lv_at hl 0 rfl) ?_
  refine va_get (D := g.1) (ci := 9) (v := .ref (a 1)) (C := RX5) (T := TX5) (N := 23) hx hb hts inX5 hown hK hP 0 rfl rfl 0 (by decide) (hts _ mw_1311) (fun _ h9 => h9) rfl dX5_sunkShare_2 ?_
  refine lv_bipush (v := 8) hx hb dX5_sunkShare_5 (by decide) ?_
  have h1 := inb_in (ck_t hF)
  have hF := ck_s hF
  refine va_iald hx hb hK hP 1 0 rfl rfl h1 dX5_sunkShare_7 ?_
  refine lv_aload_n hx hb dX5_sunkShare_8 rfl (lv_at hl 0 rfl) ?_
  refine va_get (D := g.1) (ci := 9) (v := .ref (a 1)) (C := RX5) (T := TX5) (N := 23) hx hb hts inX5 hown hK hP 0 rfl rfl 0 (by decide) (hts _ mw_1311) (fun _ h9 => h9) rfl dX5_sunkShare_9 ?_
  refine lv_bipush (v := 7) hx hb dX5_sunkShare_12 (by decide) ?_
  have h2 := inb_in (ck_t hF)
  have hF := ck_s hF
  refine va_iald hx hb hK hP 1 0 rfl rfl h2 dX5_sunkShare_14 ?_
  refine lv_iadd hx hb dX5_sunkShare_15 ?_
  refine lv_if_ne (tgt := 23) hx hb dX5_sunkShare_16 (by decide) (fun c3 => ?_) (fun c3 => ?_)
  · have hF := ob_pos c3 hF
    refine lv_iconst (v := 0) hx hb dX5_sunkShare_23 (by decide) ?_
    obtain ⟨z4, hz4, hF⟩ := ob_bind hF
    refine cl_i (csR := []) (csF := [wM g a z4.2]) (rest := []) hx hb hml hown hts hK hE hA hl hP hD hS (c_X5_fails g l a mo 0 z4 hz4) [0] [] [0] ⟨rfl, rfl, rfl, rfl, rfl, rfl, rfl⟩ ⟨0, 9, _, _, rfl, rfl, rfl⟩ 1 (jb_giV mw_1392 mw_1394 ms_32 mw_10 mw_1395) ⟨rfl, rfl⟩ (by decide +kernel) ⟨⟨(Nat.le_of_ble_eq_true rfl), (Nat.le_of_ble_eq_true rfl)⟩, (Nat.le_of_ble_eq_true rfl), (Nat.le_of_ble_eq_true rfl)⟩ ⟨rfl, rfl⟩ (Nat.le_of_ble_eq_true rfl) dX5_sunkShare_24 (fun H locs hP hD hS => ?_)
    refine lv_if_eq (tgt := 34) hx hb dX5_sunkShare_27 (by decide) (fun c5 => ?_) (fun c5 => ?_)
    · have hF := ob_pos c5 hF
      refine lv_aload_n hx hb dX5_sunkShare_34 rfl (lv_at hl 0 rfl) ?_
      refine va_get (D := g.1) (ci := 9) (v := .ref (a 1)) (C := RX5) (T := TX5) (N := 23) hx hb hts inX5 hown hK hP 0 rfl rfl 0 (by decide) (hts _ mw_1311) (fun _ h9 => h9) rfl dX5_sunkShare_35 ?_
      refine lv_bipush (v := 8) hx hb dX5_sunkShare_38 (by decide) ?_
      have h6 := inb_in (ck_t hF)
      have hF := ck_s hF
      refine va_iald hx hb hK hP 1 0 rfl rfl h6 dX5_sunkShare_40 ?_
      refine lv_i2f hx hb dX5_sunkShare_41 ?_
      refine lv_aload_n hx hb dX5_sunkShare_42 rfl (lv_at hl 0 rfl) ?_
      refine va_get (D := g.1) (ci := 9) (v := .ref (a 1)) (C := RX5) (T := TX5) (N := 23) hx hb hts inX5 hown hK hP 0 rfl rfl 0 (by decide) (hts _ mw_1311) (fun _ h9 => h9) rfl dX5_sunkShare_43 ?_
      refine lv_bipush (v := 8) hx hb dX5_sunkShare_46 (by decide) ?_
      have h7 := inb_in (ck_t hF)
      have hF := ck_s hF
      refine va_iald hx hb hK hP 1 0 rfl rfl h7 dX5_sunkShare_48 ?_
      refine lv_aload_n hx hb dX5_sunkShare_49 rfl (lv_at hl 0 rfl) ?_
      refine va_get (D := g.1) (ci := 9) (v := .ref (a 1)) (C := RX5) (T := TX5) (N := 23) hx hb hts inX5 hown hK hP 0 rfl rfl 0 (by decide) (hts _ mw_1311) (fun _ h9 => h9) rfl dX5_sunkShare_50 ?_
      refine lv_bipush (v := 7) hx hb dX5_sunkShare_53 (by decide) ?_
      have h8 := inb_in (ck_t hF)
      have hF := ck_s hF
      refine va_iald hx hb hK hP 1 0 rfl rfl h8 dX5_sunkShare_55 ?_
      refine lv_iadd hx hb dX5_sunkShare_56 ?_
      refine lv_i2f hx hb dX5_sunkShare_57 ?_
      have h9 := nn32_ne (ck_t hF)
      have hF := ck_s hF
      refine lv_fdiv hx hb dX5_sunkShare_58 h9 ?_
      cases hF
      rw [hQ]
      exact jx_fret hx hb hr hlocks hP hD hS dX5_sunkShare_59 rfl (Nat.le_of_ble_eq_true rfl) (Nat.le_of_ble_eq_true rfl)
    · have hF := ob_neg c5 hF
      refine lv_fconst0 hx hb dX5_sunkShare_30 ?_
      refine lv_goto (tgt := 59) hx hb dX5_sunkShare_31 (by decide) ?_
      cases hF
      rw [hQ]
      exact jx_fret hx hb hr hlocks hP hD hS dX5_sunkShare_59 rfl (Nat.le_of_ble_eq_true rfl) (Nat.le_of_ble_eq_true rfl)
  · have hF := ob_nneg c3 hF
    refine lv_iconst (v := 1) hx hb dX5_sunkShare_19 (by decide) ?_
    refine lv_goto (tgt := 24) hx hb dX5_sunkShare_20 (by decide) ?_
    obtain ⟨z10, hz10, hF⟩ := ob_bind hF
    refine cl_i (csR := []) (csF := [wM g a z10.2]) (rest := []) hx hb hml hown hts hK hE hA hl hP hD hS (c_X5_fails g l a mo 1 z10 hz10) [0] [] [0] ⟨rfl, rfl, rfl, rfl, rfl, rfl, rfl⟩ ⟨0, 9, _, _, rfl, rfl, rfl⟩ 1 (jb_giV mw_1392 mw_1394 ms_32 mw_10 mw_1395) ⟨rfl, rfl⟩ (by decide +kernel) ⟨⟨(Nat.le_of_ble_eq_true rfl), (Nat.le_of_ble_eq_true rfl)⟩, (Nat.le_of_ble_eq_true rfl), (Nat.le_of_ble_eq_true rfl)⟩ ⟨rfl, rfl⟩ (Nat.le_of_ble_eq_true rfl) dX5_sunkShare_24 (fun H locs hP hD hS => ?_)
    refine lv_if_eq (tgt := 34) hx hb dX5_sunkShare_27 (by decide) (fun c11 => ?_) (fun c11 => ?_)
    · have hF := ob_pos c11 hF
      refine lv_aload_n hx hb dX5_sunkShare_34 rfl (lv_at hl 0 rfl) ?_
      refine va_get (D := g.1) (ci := 9) (v := .ref (a 1)) (C := RX5) (T := TX5) (N := 23) hx hb hts inX5 hown hK hP 0 rfl rfl 0 (by decide) (hts _ mw_1311) (fun _ h9 => h9) rfl dX5_sunkShare_35 ?_
      refine lv_bipush (v := 8) hx hb dX5_sunkShare_38 (by decide) ?_
      have h12 := inb_in (ck_t hF)
      have hF := ck_s hF
      refine va_iald hx hb hK hP 1 0 rfl rfl h12 dX5_sunkShare_40 ?_
      refine lv_i2f hx hb dX5_sunkShare_41 ?_
      refine lv_aload_n hx hb dX5_sunkShare_42 rfl (lv_at hl 0 rfl) ?_
      refine va_get (D := g.1) (ci := 9) (v := .ref (a 1)) (C := RX5) (T := TX5) (N := 23) hx hb hts inX5 hown hK hP 0 rfl rfl 0 (by decide) (hts _ mw_1311) (fun _ h9 => h9) rfl dX5_sunkShare_43 ?_
      refine lv_bipush (v := 8) hx hb dX5_sunkShare_46 (by decide) ?_
      have h13 := inb_in (ck_t hF)
      have hF := ck_s hF
      refine va_iald hx hb hK hP 1 0 rfl rfl h13 dX5_sunkShare_48 ?_
      refine lv_aload_n hx hb dX5_sunkShare_49 rfl (lv_at hl 0 rfl) ?_
      refine va_get (D := g.1) (ci := 9) (v := .ref (a 1)) (C := RX5) (T := TX5) (N := 23) hx hb hts inX5 hown hK hP 0 rfl rfl 0 (by decide) (hts _ mw_1311) (fun _ h9 => h9) rfl dX5_sunkShare_50 ?_
      refine lv_bipush (v := 7) hx hb dX5_sunkShare_53 (by decide) ?_
      have h14 := inb_in (ck_t hF)
      have hF := ck_s hF
      refine va_iald hx hb hK hP 1 0 rfl rfl h14 dX5_sunkShare_55 ?_
      refine lv_iadd hx hb dX5_sunkShare_56 ?_
      refine lv_i2f hx hb dX5_sunkShare_57 ?_
      have h15 := nn32_ne (ck_t hF)
      have hF := ck_s hF
      refine lv_fdiv hx hb dX5_sunkShare_58 h15 ?_
      cases hF
      rw [hQ]
      exact jx_fret hx hb hr hlocks hP hD hS dX5_sunkShare_59 rfl (Nat.le_of_ble_eq_true rfl) (Nat.le_of_ble_eq_true rfl)
    · have hF := ob_neg c11 hF
      refine lv_fconst0 hx hb dX5_sunkShare_30 ?_
      refine lv_goto (tgt := 59) hx hb dX5_sunkShare_31 (by decide) ?_
      cases hF
      rw [hQ]
      exact jx_fret hx hb hr hlocks hP hD hS dX5_sunkShare_59 rfl (Nat.le_of_ble_eq_true rfl) (Nat.le_of_ble_eq_true rfl)
