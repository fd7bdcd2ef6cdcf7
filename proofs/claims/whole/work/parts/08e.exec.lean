theorem mw_1153 : Cond.methodLink RX4 227 yX3_parse ∈ WW := WT_in 1153 (by decide +kernel) (by decide +kernel)
theorem mw_1154 : Cond.instanceMethod yX3_parse ∈ WW := WT_in 1154 (by decide +kernel) (by decide +kernel)
theorem mw_1155 : Cond.selects RX3 yX3_parse yX3_parse ∈ WW := WT_in 1155 (by decide +kernel) (by decide +kernel)
theorem mw_1156 : Cond.code yX3_parse cX3_parse 3 (some .boolean) ∈ WW := WT_in 1156 (by decide +kernel) (by decide +kernel)
theorem mw_1214 : Cond.methodLink RX4 266 yX0_carryOut ∈ WW := WT_in 1214 (by decide +kernel) (by decide +kernel)
theorem mw_1215 : Cond.instanceMethod yX0_carryOut ∈ WW := WT_in 1215 (by decide +kernel) (by decide +kernel)
theorem mw_1216 : Cond.selects RX0 yX0_carryOut yX0_carryOut ∈ WW := WT_in 1216 (by decide +kernel) (by decide +kernel)
theorem mw_1217 : Cond.code yX0_carryOut cX0_carryOut 4 none ∈ WW := WT_in 1217 (by decide +kernel) (by decide +kernel)
def F_X4_execute_L54  (k : Xv → Bv → Bv → Hv → Jv → Tv → Int32 → Option ((Int32 × Xv × Bv × Bv × Hv × Jv × Tv) ⊕ (String × Xv × Bv × Bv × Hv × Jv × Tv))) : Nat → Xv → Bv → Bv → Hv → Jv → Tv → Int32 → Option ((Int32 × Xv × Bv × Bv × Hv × Jv × Tv) ⊕ (String × Xv × Bv × Bv × Hv × Jv × Tv))
  | 0, _, _, _, _, _, _, _ => none
  | n + 1, b0, b1, b2, b3, b4, b5, x2 => if (T_commands b5) ≤ x2 then k b0 b1 b2 b3 b4 b5 x2 else ck (inb x2 60) (ck (inb x2 60) (ck (inb x2 60) ((F_X2_allows b4 b2 ((T_kinds b5) x2.toNatClampNeg) ((T_firsts b5) x2.toNatClampNeg) ((T_seconds b5) x2.toNatClampNeg)).bind (fun z3 => if ¬ (bi z3.1) = 0 then ck (inb x2 60) (ck (inb x2 60) ((F_X0_carryOut b2 ((T_kinds b5) x2.toNatClampNeg) ((T_firsts b5) x2.toNatClampNeg) ((T_seconds b5) x2.toNatClampNeg)).bind (fun z4 => F_X4_execute_L54  k n b0 b1 z4 b3 z3.2 b5 (x2 + 1)))) else (F_X4_keepDenial b0 8 x2 (imin (J_reason z3.2) 9)).bind (fun z5 => some (.inr ("java/lang/UnsupportedOperationException", z5, b1, b2, b3, z3.2, b5)))))))
def F_X4_execute (x : Xv) (b : Bv) (t : Bv) (h : Hv) (j : Jv) (tx : Tv) : Option ((Int32 × Xv × Bv × Bv × Hv × Jv × Tv) ⊕ (String × Xv × Bv × Bv × Hv × Jv × Tv)) := (F_X3_parse tx).bind (fun z1 => if ¬ (bi z1.1) = 0 then (F_X0_copyFrom t b).bind (fun z2 => F_X4_execute_L54  (fun b6 b7 b8 b9 b10 b11 x12 => (F_X1_keep b9 b7).bind (fun z13 => (F_X0_copyFrom b7 b8).bind (fun z14 => some (.inl (T_commands b11, b6, z14, b8, z13, b10, b11))))) 1000 x b z2 h j (mkT (T_signs z1.2) 0 (T_position z1.2) (T_kinds z1.2) (T_firsts z1.2) (T_seconds z1.2) (T_commands z1.2)) 0) else some (.inr ("java/lang/IllegalArgumentException", (mkX (X_snapshotSaved x) (T_position z1.2) (X_deniedNumber x) (X_deniedDetail x) (X_deniedCause x)), b, t, h, j, (mkT (T_signs z1.2) 0 (T_position z1.2) (T_kinds z1.2) (T_firsts z1.2) (T_seconds z1.2) (T_commands z1.2)))))
set_option maxHeartbeats 4000000 in
set_option maxRecDepth 100000 in
theorem c_X4_execute (g : GG) (l : Launch) (hst : l.stackTraces = false) (a a1 a2 a3 a4 a5 a6 a7 : Nat → Nat) (x : Xv) (b : Bv) (t : Bv) (h : Hv) (j : Jv) (tx : Tv) (z : (Int32 × Xv × Bv × Bv × Hv × Jv × Tv) ⊕ (String × Xv × Bv × Bv × Hv × Jv × Tv)) (hF : F_X4_execute x b t h j tx = some z) : MX g l yX4_execute cX4_execute 4 (some .int) ({ frames := 7, cells := 1, slots := 6, locals := 153 } : Room) [.ref (a 0)] [wX g a a1 a2 a3 a4 a5 a6 a7 x, wB g a1 b, wB g a2 t, wH g a4 h, wJ g a5 j, wT g a6 tx] 1 6 (Sum.elim (fun y => .inl (some (.int y.1), [wX g a a1 a2 a3 a4 a5 a6 a7 y.2.1, wB g a1 y.2.2.1, wB g a2 y.2.2.2.1, wH g a4 y.2.2.2.2.1, wJ g a5 y.2.2.2.2.2.1, wT g a6 y.2.2.2.2.2.2])) (fun y => .inr (y.1, [wX g a a1 a2 a3 a4 a5 a6 a7 y.2.1, wB g a1 y.2.2.1, wB g a2 y.2.2.2.1, wH g a4 y.2.2.2.2.1, wJ g a5 y.2.2.2.2.2.1, wT g a6 y.2.2.2.2.2.2])) z) := by
  refine MX.bg (by decide) (Nat.le_of_ble_eq_true rfl) ?_
  intro p e s m below meth c A Q hQ hx hb hr hml hown hts hlocks htab hK hE hA hP hD hS ls hl
  rw [F_X4_execute] at hF
  have hl : lv_has ls 4 [(0, .ref (a 0))] := hl
  refine lv_aload_n hx hb dX4_execute_0 rfl (lv_at hl 0 rfl) ?_
  refine va_get (D := g.1) (ci := 8) (v := .ref (a6 0)) (C := RX4) (T := TX4) (N := 12) hx hb hts inX4 hown hK hP 0 rfl rfl 5 (by decide) (hts _ mw_228) (fun _ h9 => h9) rfl dX4_execute_1 ?_
  obtain ⟨z1, hz1, hF⟩ := ob_bind hF
  refine cl_i (csR := [wX g a a1 a2 a3 a4 a5 a6 a7 x, wB g a1 b, wB g a2 t, wH g a4 h, wJ g a5 j]) (csF := [wX g a a1 a2 a3 a4 a5 a6 a7 x, wB g a1 b, wB g a2 t, wH g a4 h, wJ g a5 j, wT g a6 z1.2]) (rest := []) hx hb hml hown hts hK hE hA hl hP hD hS (c_X3_parse g l a6 tx z1 hz1) [5] [0, 1, 2, 3, 4] [0, 1, 2, 3, 4, 5] ⟨rfl, rfl, rfl, rfl, rfl, rfl, rfl⟩ ⟨0, 7, _, _, rfl, rfl, rfl⟩ 0 (jb_giV mw_1153 mw_1154 mw_1155 mw_5 mw_1156) ⟨rfl, rfl⟩ (by decide +kernel) ⟨⟨(Nat.le_of_ble_eq_true rfl), (Nat.le_of_ble_eq_true rfl)⟩, (Nat.le_of_ble_eq_true rfl), (Nat.le_of_ble_eq_true rfl)⟩ ⟨rfl, rfl⟩ (Nat.le_of_ble_eq_true rfl) dX4_execute_4 (fun H locs hP hD hS => ?_)
  refine lv_istore_n (lv' := [(1, .int (bi z1.1)), (0, .ref (a 0))]) hx hb dX4_execute_7 rfl hl (by decide) rfl (fun ls hl => ?_)
  refine lv_aload_n hx hb dX4_execute_8 rfl (lv_at hl 1 rfl) ?_
  refine va_get (D := g.1) (ci := 8) (v := .ref (a6 0)) (C := RX4) (T := TX4) (N := 12) hx hb hts inX4 hown hK hP 0 rfl rfl 5 (by decide) (hts _ mw_228) (fun _ h9 => h9) rfl dX4_execute_9 ?_
  refine lv_iconst (v := 0) hx hb dX4_execute_12 (by decide) ?_
  refine va_putN (D := g.1) (ci := 7) (v := .int 0) (ty := .int) (C := RX3) (T := TX3) (N := 7) hx hb hts inX3 tyX3 tyX3_ok nmX3 hown hK hP hD hS 94 rfl rfl 1 (by decide) (hE.nf 26 rfl) (fun _ h9 => h9) rfl (by decide +kernel) rfl rfl (Nat.le_of_ble_eq_true rfl) dX4_execute_13 (fun H locs hP hD hS => ?_)
  have hP : va_P g.1 vwCl ([wX g a a1 a2 a3 a4 a5 a6 a7 x, wB g a1 b, wB g a2 t, wH g a4 h, wJ g a5 j, wTc g a6 (T_signs z1.2) 0 (T_position z1.2) (T_kinds z1.2) (T_firsts z1.2) (T_seconds z1.2) (T_commands z1.2)] : List va_W).flatten _ := hP
  have hD : va_D A ([wX g a a1 a2 a3 a4 a5 a6 a7 x, wB g a1 b, wB g a2 t, wH g a4 h, wJ g a5 j, wTc g a6 (T_signs z1.2) 0 (T_position z1.2) (T_kinds z1.2) (T_firsts z1.2) (T_seconds z1.2) (T_commands z1.2)] : List va_W).flatten := hD
  refine lv_iload_n hx hb dX4_execute_16 rfl (lv_at hl 0 rfl) ?_
  refine lv_if_ne (tgt := 41) hx hb dX4_execute_17 (by decide) (fun c2 => ?_) (fun c2 => ?_)
  · have hF := ob_pos c2 hF
    refine lv_aload_n hx hb dX4_execute_41 rfl (lv_at hl 1 rfl) ?_
    refine va_get (D := g.1) (ci := 8) (v := .ref (a2 0)) (C := RX4) (T := TX4) (N := 12) hx hb hts inX4 hown hK hP 0 rfl rfl 1 (by decide) (hts _ mw_224) (fun _ h9 => h9) rfl dX4_execute_42 ?_
    refine lv_aload_n hx hb dX4_execute_45 rfl (lv_at hl 1 rfl) ?_
    refine va_get (D := g.1) (ci := 8) (v := .ref (a1 0)) (C := RX4) (T := TX4) (N := 12) hx hb hts inX4 hown hK hP 0 rfl rfl 0 (by decide) (hts _ mw_223) (fun _ h9 => h9) rfl dX4_execute_46 ?_
    obtain ⟨z3, hz3, hF⟩ := ob_bind hF
    refine cl_v (csR := [wX g a a1 a2 a3 a4 a5 a6 a7 x, wH g a4 h, wJ g a5 j, wTc g a6 (T_signs z1.2) 0 (T_position z1.2) (T_kinds z1.2) (T_firsts z1.2) (T_seconds z1.2) (T_commands z1.2)]) (csF := [wX g a a1 a2 a3 a4 a5 a6 a7 x, wB g a1 b, wB g a2 z3, wH g a4 h, wJ g a5 j, wTc g a6 (T_signs z1.2) 0 (T_position z1.2) (T_kinds z1.2) (T_firsts z1.2) (T_seconds z1.2) (T_commands z1.2)]) (rest := []) hx hb hml hown hts hK hE hA hl hP hD hS (c_X0_copyFrom g l a2 a1 t b z3 hz3) [2, 1] [0, 3, 4, 5] [0, 5, 4, 1, 2, 3] ⟨rfl, rfl, rfl, rfl, rfl, rfl, rfl⟩ ⟨0, 4, _, _, rfl, rfl, rfl⟩ 1 (jb_giV mw_708 mw_709 mw_710 mw_2 mw_711) ⟨rfl, rfl⟩ (by decide +kernel) ⟨⟨(Nat.le_of_ble_eq_true rfl), (Nat.le_of_ble_eq_true rfl)⟩, (Nat.le_of_ble_eq_true rfl), (Nat.le_of_ble_eq_true rfl)⟩ ⟨rfl, rfl⟩ (Nat.le_of_ble_eq_true rfl) dX4_execute_49 (fun H locs hP hD hS => ?_)
    refine lv_iconst (v := 0) hx hb dX4_execute_52 (by decide) ?_
    refine lv_istore_n (lv' := [(2, .int 0), (1, .int (bi z1.1)), (0, .ref (a 0))]) hx hb dX4_execute_53 rfl hl (by decide) rfl (fun ls hl => ?_)
    obtain ⟨k10, ek10, hF⟩ := ob_k (F := fun k9 => F_X4_execute_L54  k9 1000 x b z3 h j (mkT (T_signs z1.2) 0 (T_position z1.2) (T_kinds z1.2) (T_firsts z1.2) (T_seconds z1.2) (T_commands z1.2)) 0) hF
    have loop10 : ∀ (n9 : Nat) (b4 : Xv) (b5 : Bv) (b6 : Bv) (b7 : Hv) (b8 : Jv) (b9 : Tv) (x10 : Int32), F_X4_execute_L54  k10 n9 b4 b5 b6 b7 b8 b9 x10 = some z → ∀ (H : Heap) (locs : List Loc), va_P g.1 vwCl ([wX g a a1 a2 a3 a4 a5 a6 a7 b4, wB g a1 b5, wB g a2 b6, wH g a4 b7, wJ g a5 b8, wT g a6 b9] : List va_W).flatten H → va_D A ([wX g a a1 a2 a3 a4 a5 a6 a7 b4, wB g a1 b5, wB g a2 b6, wH g a4 b7, wJ g a5 b8, wT g a6 b9] : List va_W).flatten → va_S A s.heap H locs → ∀ ls : Array Slot, lv_has ls 4 [(0, .ref (a 0)), (2, .int x10)] → W p l e ({ frames := 7, cells := 1, slots := 6, locals := 153 } : Room) s m ([.ref (a 0)] : List Value).toArray below meth c H locs 0 0 Q (F0 m 54 ls []) := by
      intro n9
      induction n9 with
      | zero => intro b4 b5 b6 b7 b8 b9 x10 hF; rw [F_X4_execute_L54] at hF; cases hF
      | succ n9 ih10 =>
        intro b4 b5 b6 b7 b8 b9 x10 hF H locs hP hD hS ls hl
        rw [F_X4_execute_L54] at hF
        refine lv_iload_n hx hb dX4_execute_54 rfl (lv_at hl 1 rfl) ?_
        refine lv_aload_n hx hb dX4_execute_55 rfl (lv_at hl 0 rfl) ?_
        refine va_get (D := g.1) (ci := 8) (v := .ref (a6 0)) (C := RX4) (T := TX4) (N := 12) hx hb hts inX4 hown hK hP 0 rfl rfl 5 (by decide) (hts _ mw_228) (fun _ h9 => h9) rfl dX4_execute_56 ?_
        refine va_getN (D := g.1) (ci := 7) (v := .int (T_commands b9)) (C := RX3) (T := TX3) (N := 7) hx hb hts inX3 hown hK hP 94 rfl rfl 6 (by decide) (hE.nf 31 rfl) (fun _ h9 => h9) rfl dX4_execute_59 ?_
        refine lv_icmp_ge (tgt := 170) hx hb dX4_execute_62 (by decide) (fun c11 => ?_) (fun c11 => ?_)
        · have hF := ob_pos c11 hF
          rw [ek10] at hF
          refine lv_aload_n hx hb dX4_execute_170 rfl (lv_at hl 0 rfl) ?_
          refine va_get (D := g.1) (ci := 8) (v := .ref (a4 0)) (C := RX4) (T := TX4) (N := 12) hx hb hts inX4 hown hK hP 0 rfl rfl 3 (by decide) (hts _ mw_226) (fun _ h9 => h9) rfl dX4_execute_171 ?_
          refine lv_aload_n hx hb dX4_execute_174 rfl (lv_at hl 0 rfl) ?_
          refine va_get (D := g.1) (ci := 8) (v := .ref (a1 0)) (C := RX4) (T := TX4) (N := 12) hx hb hts inX4 hown hK hP 0 rfl rfl 0 (by decide) (hts _ mw_223) (fun _ h9 => h9) rfl dX4_execute_175 ?_
          obtain ⟨z12, hz12, hF⟩ := ob_bind hF
          refine cl_v (csR := [wX g a a1 a2 a3 a4 a5 a6 a7 b4, wB g a2 b6, wJ g a5 b8, wT g a6 b9]) (csF := [wX g a a1 a2 a3 a4 a5 a6 a7 b4, wB g a1 b5, wB g a2 b6, wH g a4 z12, wJ g a5 b8, wT g a6 b9]) (rest := []) hx hb hml hown hts hK hE hA hl hP hD hS (c_X1_keep g l a4 a1 b7 b5 z12 hz12) [3, 1] [0, 2, 4, 5] [0, 5, 1, 4, 2, 3] ⟨rfl, rfl, rfl, rfl, rfl, rfl, rfl⟩ ⟨0, 5, _, _, rfl, rfl, rfl⟩ 1 (jb_giV mw_801 mw_802 mw_803 mw_3 mw_804) ⟨rfl, rfl⟩ (by decide +kernel) ⟨⟨(Nat.le_of_ble_eq_true rfl), (Nat.le_of_ble_eq_true rfl)⟩, (Nat.le_of_ble_eq_true rfl), (Nat.le_of_ble_eq_true rfl)⟩ ⟨rfl, rfl⟩ (Nat.le_of_ble_eq_true rfl) dX4_execute_178 (fun H locs hP hD hS => ?_)
          refine lv_aload_n hx hb dX4_execute_181 rfl (lv_at hl 0 rfl) ?_
          refine va_get (D := g.1) (ci := 8) (v := .ref (a1 0)) (C := RX4) (T := TX4) (N := 12) hx hb hts inX4 hown hK hP 0 rfl rfl 0 (by decide) (hts _ mw_223) (fun _ h9 => h9) rfl dX4_execute_182 ?_
          refine lv_aload_n hx hb dX4_execute_185 rfl (lv_at hl 0 rfl) ?_
          refine va_get (D := g.1) (ci := 8) (v := .ref (a2 0)) (C := RX4) (T := TX4) (N := 12) hx hb hts inX4 hown hK hP 0 rfl rfl 1 (by decide) (hts _ mw_224) (fun _ h9 => h9) rfl dX4_execute_186 ?_
          obtain ⟨z13, hz13, hF⟩ := ob_bind hF
          refine cl_v (csR := [wX g a a1 a2 a3 a4 a5 a6 a7 b4, wH g a4 z12, wJ g a5 b8, wT g a6 b9]) (csF := [wX g a a1 a2 a3 a4 a5 a6 a7 b4, wB g a1 z13, wB g a2 b6, wH g a4 z12, wJ g a5 b8, wT g a6 b9]) (rest := []) hx hb hml hown hts hK hE hA hl hP hD hS (c_X0_copyFrom g l a1 a2 b5 b6 z13 hz13) [1, 2] [0, 3, 4, 5] [0, 4, 5, 1, 2, 3] ⟨rfl, rfl, rfl, rfl, rfl, rfl, rfl⟩ ⟨0, 4, _, _, rfl, rfl, rfl⟩ 1 (jb_giV mw_708 mw_709 mw_710 mw_2 mw_711) ⟨rfl, rfl⟩ (by decide +kernel) ⟨⟨(Nat.le_of_ble_eq_true rfl), (Nat.le_of_ble_eq_true rfl)⟩, (Nat.le_of_ble_eq_true rfl), (Nat.le_of_ble_eq_true rfl)⟩ ⟨rfl, rfl⟩ (Nat.le_of_ble_eq_true rfl) dX4_execute_189 (fun H locs hP hD hS => ?_)
          refine lv_aload_n hx hb dX4_execute_192 rfl (lv_at hl 0 rfl) ?_
          refine va_get (D := g.1) (ci := 8) (v := .ref (a6 0)) (C := RX4) (T := TX4) (N := 12) hx hb hts inX4 hown hK hP 0 rfl rfl 5 (by decide) (hts _ mw_228) (fun _ h9 => h9) rfl dX4_execute_193 ?_
          refine va_getN (D := g.1) (ci := 7) (v := .int (T_commands b9)) (C := RX3) (T := TX3) (N := 7) hx hb hts inX3 hown hK hP 94 rfl rfl 6 (by decide) (hE.nf 31 rfl) (fun _ h9 => h9) rfl dX4_execute_196 ?_
          cases hF
          rw [hQ]
          exact jx_iret hx hb hr rfl hlocks hP hD hS dX4_execute_199 rfl (Nat.le_of_ble_eq_true rfl) (Nat.le_of_ble_eq_true rfl)
        · have hF := ob_neg c11 hF
          refine lv_aload_n hx hb dX4_execute_65 rfl (lv_at hl 0 rfl) ?_
          refine va_get (D := g.1) (ci := 8) (v := .ref (a6 0)) (C := RX4) (T := TX4) (N := 12) hx hb hts inX4 hown hK hP 0 rfl rfl 5 (by decide) (hts _ mw_228) (fun _ h9 => h9) rfl dX4_execute_66 ?_
          refine va_getN (D := g.1) (ci := 7) (v := .ref (a6 2)) (C := RX3) (T := TX3) (N := 7) hx hb hts inX3 hown hK hP 94 rfl rfl 3 (by decide) (hE.nf 28 rfl) (fun _ h9 => h9) rfl dX4_execute_69 ?_
          refine lv_iload_n hx hb dX4_execute_72 rfl (lv_at hl 1 rfl) ?_
          have h14 := inb_in (ck_t hF)
          have hF := ck_s hF
          refine va_iald hx hb hK hP 96 0 rfl rfl h14 dX4_execute_73 ?_
          refine lv_istore_n (lv' := [(3, .int ((T_kinds b9) x10.toNatClampNeg)), (0, .ref (a 0)), (2, .int x10)]) hx hb dX4_execute_74 rfl hl (by decide) rfl (fun ls hl => ?_)
          refine lv_aload_n hx hb dX4_execute_75 rfl (lv_at hl 1 rfl) ?_
          refine va_get (D := g.1) (ci := 8) (v := .ref (a5 0)) (C := RX4) (T := TX4) (N := 12) hx hb hts inX4 hown hK hP 0 rfl rfl 4 (by decide) (hts _ mw_227) (fun _ h9 => h9) rfl dX4_execute_76 ?_
          refine lv_aload_n hx hb dX4_execute_79 rfl (lv_at hl 1 rfl) ?_
          refine va_get (D := g.1) (ci := 8) (v := .ref (a2 0)) (C := RX4) (T := TX4) (N := 12) hx hb hts inX4 hown hK hP 0 rfl rfl 1 (by decide) (hts _ mw_224) (fun _ h9 => h9) rfl dX4_execute_80 ?_
          refine lv_iload_n hx hb dX4_execute_83 rfl (lv_at hl 0 rfl) ?_
          refine lv_aload_n hx hb dX4_execute_84 rfl (lv_at hl 1 rfl) ?_
          refine va_get (D := g.1) (ci := 8) (v := .ref (a6 0)) (C := RX4) (T := TX4) (N := 12) hx hb hts inX4 hown hK hP 0 rfl rfl 5 (by decide) (hts _ mw_228) (fun _ h9 => h9) rfl dX4_execute_85 ?_
          refine va_getN (D := g.1) (ci := 7) (v := .ref (a6 3)) (C := RX3) (T := TX3) (N := 7) hx hb hts inX3 hown hK hP 94 rfl rfl 4 (by decide) (hE.nf 29 rfl) (fun _ h9 => h9) rfl dX4_execute_88 ?_
          refine lv_iload_n hx hb dX4_execute_91 rfl (lv_at hl 2 rfl) ?_
          have h15 := inb_in (ck_t hF)
          have hF := ck_s hF
          refine va_iald hx hb hK hP 97 0 rfl rfl h15 dX4_execute_92 ?_
          refine lv_aload_n hx hb dX4_execute_93 rfl (lv_at hl 1 rfl) ?_
          refine va_get (D := g.1) (ci := 8) (v := .ref (a6 0)) (C := RX4) (T := TX4) (N := 12) hx hb hts inX4 hown hK hP 0 rfl rfl 5 (by decide) (hts _ mw_228) (fun _ h9 => h9) rfl dX4_execute_94 ?_
          refine va_getN (D := g.1) (ci := 7) (v := .ref (a6 4)) (C := RX3) (T := TX3) (N := 7) hx hb hts inX3 hown hK hP 94 rfl rfl 5 (by decide) (hE.nf 30 rfl) (fun _ h9 => h9) rfl dX4_execute_97 ?_
          refine lv_iload_n hx hb dX4_execute_100 rfl (lv_at hl 2 rfl) ?_
          have h16 := inb_in (ck_t hF)
          have hF := ck_s hF
          refine va_iald hx hb hK hP 98 0 rfl rfl h16 dX4_execute_101 ?_
          obtain ⟨z17, hz17, hF⟩ := ob_bind hF
          refine cl_i (csR := [wX g a a1 a2 a3 a4 a5 a6 a7 b4, wB g a1 b5, wH g a4 b7, wT g a6 b9]) (csF := [wX g a a1 a2 a3 a4 a5 a6 a7 b4, wB g a1 b5, wB g a2 b6, wH g a4 b7, wJ g a5 z17.2, wT g a6 b9]) (rest := []) hx hb hml hown hts hK hE hA hl hP hD hS (c_X2_allows g l a5 a2 b8 b6 ((T_kinds b9) x10.toNatClampNeg) ((T_firsts b9) x10.toNatClampNeg) ((T_seconds b9) x10.toNatClampNeg) z17 hz17) [4, 2] [0, 1, 3, 5] [0, 1, 5, 2, 4, 3] ⟨rfl, rfl, rfl, rfl, rfl, rfl, rfl⟩ ⟨0, 6, _, _, rfl, rfl, rfl⟩ 4 (jb_giV mw_726 mw_727 mw_728 mw_4 mw_729) ⟨rfl, rfl⟩ (by decide +kernel) ⟨⟨(Nat.le_of_ble_eq_true rfl), (Nat.le_of_ble_eq_true rfl)⟩, (Nat.le_of_ble_eq_true rfl), (Nat.le_of_ble_eq_true rfl)⟩ ⟨rfl, rfl⟩ (Nat.le_of_ble_eq_true rfl) dX4_execute_102 (fun H locs hP hD hS => ?_)
          refine lv_if_ne (tgt := 138) hx hb dX4_execute_105 (by decide) (fun c18 => ?_) (fun c18 => ?_)
          · have hF := ob_pos c18 hF
            refine lv_aload_n hx hb dX4_execute_138 rfl (lv_at hl 1 rfl) ?_
            refine va_get (D := g.1) (ci := 8) (v := .ref (a2 0)) (C := RX4) (T := TX4) (N := 12) hx hb hts inX4 hown hK hP 0 rfl rfl 1 (by decide) (hts _ mw_224) (fun _ h9 => h9) rfl dX4_execute_139 ?_
            refine lv_iload_n hx hb dX4_execute_142 rfl (lv_at hl 0 rfl) ?_
            refine lv_aload_n hx hb dX4_execute_143 rfl (lv_at hl 1 rfl) ?_
            refine va_get (D := g.1) (ci := 8) (v := .ref (a6 0)) (C := RX4) (T := TX4) (N := 12) hx hb hts inX4 hown hK hP 0 rfl rfl 5 (by decide) (hts _ mw_228) (fun _ h9 => h9) rfl dX4_execute_144 ?_
            refine va_getN (D := g.1) (ci := 7) (v := .ref (a6 3)) (C := RX3) (T := TX3) (N := 7) hx hb hts inX3 hown hK hP 94 rfl rfl 4 (by decide) (hE.nf 29 rfl) (fun _ h9 => h9) rfl dX4_execute_147 ?_
            refine lv_iload_n hx hb dX4_execute_150 rfl (lv_at hl 2 rfl) ?_
            have h19 := inb_in (ck_t hF)
            have hF := ck_s hF
            refine va_iald hx hb hK hP 97 0 rfl rfl h19 dX4_execute_151 ?_
            refine lv_aload_n hx hb dX4_execute_152 rfl (lv_at hl 1 rfl) ?_
            refine va_get (D := g.1) (ci := 8) (v := .ref (a6 0)) (C := RX4) (T := TX4) (N := 12) hx hb hts inX4 hown hK hP 0 rfl rfl 5 (by decide) (hts _ mw_228) (fun _ h9 => h9) rfl dX4_execute_153 ?_
            refine va_getN (D := g.1) (ci := 7) (v := .ref (a6 4)) (C := RX3) (T := TX3) (N := 7) hx hb hts inX3 hown hK hP 94 rfl rfl 5 (by decide) (hE.nf 30 rfl) (fun _ h9 => h9) rfl dX4_execute_156 ?_
            refine lv_iload_n hx hb dX4_execute_159 rfl (lv_at hl 2 rfl) ?_
            have h20 := inb_in (ck_t hF)
            have hF := ck_s hF
            refine va_iald hx hb hK hP 98 0 rfl rfl h20 dX4_execute_160 ?_
            obtain ⟨z21, hz21, hF⟩ := ob_bind hF
            refine cl_v (csR := [wX g a a1 a2 a3 a4 a5 a6 a7 b4, wB g a1 b5, wH g a4 b7, wJ g a5 z17.2, wT g a6 b9]) (csF := [wX g a a1 a2 a3 a4 a5 a6 a7 b4, wB g a1 b5, wB g a2 z21, wH g a4 b7, wJ g a5 z17.2, wT g a6 b9]) (rest := []) hx hb hml hown hts hK hE hA hl hP hD hS (c_X0_carryOut g l a2 b6 ((T_kinds b9) x10.toNatClampNeg) ((T_firsts b9) x10.toNatClampNeg) ((T_seconds b9) x10.toNatClampNeg) z21 hz21) [2] [0, 1, 3, 4, 5] [0, 1, 5, 2, 3, 4] ⟨rfl, rfl, rfl, rfl, rfl, rfl, rfl⟩ ⟨0, 4, _, _, rfl, rfl, rfl⟩ 3 (jb_giV mw_1214 mw_1215 mw_1216 mw_2 mw_1217) ⟨rfl, rfl⟩ (by decide +kernel) ⟨⟨(Nat.le_of_ble_eq_true rfl), (Nat.le_of_ble_eq_true rfl)⟩, (Nat.le_of_ble_eq_true rfl), (Nat.le_of_ble_eq_true rfl)⟩ ⟨rfl, rfl⟩ (Nat.le_of_ble_eq_true rfl) dX4_execute_161 (fun H locs hP hD hS => ?_)
            refine lv_iinc (v := x10 + 1) (lv' := [(2, .int (x10 + 1)), (3, .int ((T_kinds b9) x10.toNatClampNeg)), (0, .ref (a 0))]) hx hb dX4_execute_164 hl (k := 2) rfl (by rfl) (by decide) rfl (fun ls hl => ?_)
            refine lv_goto (tgt := 54) hx hb dX4_execute_167 (by decide) ?_
            exact ih10 _ _ _ _ _ _ _ hF _ _ hP hD hS ls (lv_sub hl [2, 0] rfl)
          · have hF := ob_nneg c18 hF
            refine lv_aload_n hx hb dX4_execute_108 rfl (lv_at hl 1 rfl) ?_
            refine lv_bipush (v := 8) hx hb dX4_execute_109 (by decide) ?_
            refine lv_iload_n hx hb dX4_execute_111 rfl (lv_at hl 2 rfl) ?_
            refine lv_aload_n hx hb dX4_execute_112 rfl (lv_at hl 1 rfl) ?_
            refine va_get (D := g.1) (ci := 8) (v := .ref (a5 0)) (C := RX4) (T := TX4) (N := 12) hx hb hts inX4 hown hK hP 0 rfl rfl 4 (by decide) (hts _ mw_227) (fun _ h9 => h9) rfl dX4_execute_113 ?_
            refine va_getN (D := g.1) (ci := 6) (v := .int (J_reason z17.2)) (C := RX2) (T := TX2) (N := 2) hx hb hts inX2 hown hK hP 93 rfl rfl 0 (by decide) (hE.nf 24 rfl) (fun _ h9 => h9) rfl dX4_execute_116 ?_
            refine lv_bipush (v := 9) hx hb dX4_execute_119 (by decide) ?_
            refine va_mmin hx hb (hml.trans hl.1.symm) hown (hts _ mw_295) (hts _ mw_293) (hts _ mw_11) (hts _ mw_294) (Nat.le_of_ble_eq_true rfl) (Nat.le_of_ble_eq_true rfl) (Nat.le_of_ble_eq_true rfl) (Nat.le_of_ble_eq_true rfl) dX4_execute_121 ?_
            obtain ⟨z22, hz22, hF⟩ := ob_bind hF
            refine cl_v (csR := [wB g a1 b5, wB g a2 b6, wH g a4 b7, wJ g a5 z17.2, wT g a6 b9]) (csF := [wX g a a1 a2 a3 a4 a5 a6 a7 z22, wB g a1 b5, wB g a2 b6, wH g a4 b7, wJ g a5 z17.2, wT g a6 b9]) (rest := []) hx hb hml hown hts hK hE hA hl hP hD hS (c_X4_keepDenial g l a a1 a2 a3 a4 a5 a6 a7 b4 8 x10 (imin (J_reason z17.2) 9) z22 hz22) [0] [1, 2, 3, 4, 5] [5, 0, 1, 2, 3, 4] ⟨rfl, rfl, rfl, rfl, rfl, rfl, rfl⟩ ⟨0, 8, _, _, rfl, rfl, rfl⟩ 3 (jb_giV mw_781 mw_783 ms_10 mw_1 mw_784) ⟨rfl, rfl⟩ (by decide +kernel) ⟨⟨(Nat.le_of_ble_eq_true rfl), (Nat.le_of_ble_eq_true rfl)⟩, (Nat.le_of_ble_eq_true rfl), (Nat.le_of_ble_eq_true rfl)⟩ ⟨rfl, rfl⟩ (Nat.le_of_ble_eq_true rfl) dX4_execute_124 (fun H locs hP hD hS => ?_)
            cases hF
            rw [hQ]
            exact jx_throwW hst thw_261 hx hb (hml.trans hl.1.symm) hown hts hE htab hlocks 15 rfl hP hD hS dX4_execute_127 dX4_execute_130 dX4_execute_131 dX4_execute_134 dX4_execute_137 ⟨(Nat.le_of_ble_eq_true rfl), (Nat.le_of_ble_eq_true rfl), (Nat.le_of_ble_eq_true rfl), (Nat.le_of_ble_eq_true rfl)⟩ (Nat.le_of_ble_eq_true rfl) (Nat.le_of_ble_eq_true rfl) rfl
    exact loop10 1000 _ _ _ _ _ _ _ hF _ _ hP hD hS ls (lv_sub hl [2, 0] rfl)
  · have hF := ob_nneg c2 hF
    refine lv_aload_n hx hb dX4_execute_20 rfl (lv_at hl 1 rfl) ?_
    refine lv_aload_n hx hb dX4_execute_21 rfl (lv_at hl 1 rfl) ?_
    refine va_get (D := g.1) (ci := 8) (v := .ref (a6 0)) (C := RX4) (T := TX4) (N := 12) hx hb hts inX4 hown hK hP 0 rfl rfl 5 (by decide) (hts _ mw_228) (fun _ h9 => h9) rfl dX4_execute_22 ?_
    refine va_getN (D := g.1) (ci := 7) (v := .int (T_position z1.2)) (C := RX3) (T := TX3) (N := 7) hx hb hts inX3 hown hK hP 94 rfl rfl 2 (by decide) (hE.nf 27 rfl) (fun _ h9 => h9) rfl dX4_execute_25 ?_
    refine va_put (D := g.1) (ci := 8) (v := .int (T_position z1.2)) (ty := .int) (C := RX4) (T := TX4) (N := 12) hx hb hts inX4 tyX4 tyX4_ok nmX4 hown hK hP hD hS 0 rfl rfl 8 (by decide) (hts _ mw_231) (fun _ h9 => h9) rfl (by decide +kernel) rfl rfl (Nat.le_of_ble_eq_true rfl) dX4_execute_28 (fun H locs hP hD hS => ?_)
    have hP : va_P g.1 vwCl ([wXc g a a1 a2 a3 a4 a5 a6 a7 (X_snapshotSaved x) (T_position z1.2) (X_deniedNumber x) (X_deniedDetail x) (X_deniedCause x), wB g a1 b, wB g a2 t, wH g a4 h, wJ g a5 j, wTc g a6 (T_signs z1.2) 0 (T_position z1.2) (T_kinds z1.2) (T_firsts z1.2) (T_seconds z1.2) (T_commands z1.2)] : List va_W).flatten _ := hP
    have hD : va_D A ([wXc g a a1 a2 a3 a4 a5 a6 a7 (X_snapshotSaved x) (T_position z1.2) (X_deniedNumber x) (X_deniedDetail x) (X_deniedCause x), wB g a1 b, wB g a2 t, wH g a4 h, wJ g a5 j, wTc g a6 (T_signs z1.2) 0 (T_position z1.2) (T_kinds z1.2) (T_firsts z1.2) (T_seconds z1.2) (T_commands z1.2)] : List va_W).flatten := hD
    cases hF
    rw [hQ]
    exact jx_throwN hst thw_234 hx hb (hml.trans hl.1.symm) hown hts hE htab hlocks 14 rfl hP hD hS dX4_execute_31 dX4_execute_34 dX4_execute_35 dX4_execute_37 dX4_execute_40 ⟨(Nat.le_of_ble_eq_true rfl), (Nat.le_of_ble_eq_true rfl), (Nat.le_of_ble_eq_true rfl), (Nat.le_of_ble_eq_true rfl)⟩ (Nat.le_of_ble_eq_true rfl) (Nat.le_of_ble_eq_true rfl) rfl
