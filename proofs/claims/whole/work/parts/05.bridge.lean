theorem mw_44 : Cond.fieldLink RX0 9 "JamBridge$Bridge" "spans" "I" ∈ WW := WT_in 44 (by decide +kernel) (by decide +kernel)
theorem mw_59 : Cond.fieldLink RX0 31 "JamBridge$Bridge" "vehicles" "I" ∈ WW := WT_in 59 (by decide +kernel) (by decide +kernel)
theorem mw_66 : Cond.fieldLink RX0 40 "JamBridge$Bridge" "places" "[I" ∈ WW := WT_in 66 (by decide +kernel) (by decide +kernel)
theorem mw_64 : Cond.fieldLink RX0 37 "JamBridge$Bridge" "weights" "[I" ∈ WW := WT_in 64 (by decide +kernel) (by decide +kernel)
def F_X0_hasSpan (b : Bv) (p0 : Int32) : Option (Bool) := if p0 < 0 then some false else if (B_spans b) ≤ p0 then some false else if 10 ≤ p0 then some false else some true
set_option maxHeartbeats 4000000 in
set_option maxRecDepth 100000 in
theorem c_X0_hasSpan (g : GG) (l : Launch) (a : Nat → Nat) (b : Bv) (p0 : Int32) (z : Bool) (hF : F_X0_hasSpan b p0 = some z) : MI g l yX0_hasSpan cX0_hasSpan 2 (some .boolean) ({ frames := 0, cells := 0, slots := 0, locals := 0 } : Room) [.ref (a 0), .int p0] [wB g a b] 0 0 (bi z) [wB g a b] := by
  refine MI.bg (by decide) (Nat.le_of_ble_eq_true rfl) ?_
  intro p e s m below meth c A Q hQ hx hb hr hml hown hts hlocks hmn hK hE hA hP hD hS ls hl
  rw [F_X0_hasSpan] at hF
  have hl : lv_has ls 2 [(0, .ref (a 0)), (1, .int p0)] := hl
  refine lv_iload_n hx hb dX0_hasSpan_0 rfl (lv_at hl 1 rfl) ?_
  refine lv_if_lt (tgt := 22) hx hb dX0_hasSpan_1 (by decide) (fun c1 => ?_) (fun c1 => ?_)
  · have hF := ob_pos c1 hF
    refine lv_iconst (v := 0) hx hb dX0_hasSpan_22 (by decide) ?_
    cases hF
    rw [hQ]
    exact jb_zret hx hb hr rfl hlocks hP hD hS dX0_hasSpan_23 rfl (Nat.le_of_ble_eq_true rfl) (Nat.le_of_ble_eq_true rfl)
  · have hF := ob_neg c1 hF
    refine lv_iload_n hx hb dX0_hasSpan_4 rfl (lv_at hl 1 rfl) ?_
    refine lv_aload_n hx hb dX0_hasSpan_5 rfl (lv_at hl 0 rfl) ?_
    refine va_get (D := g.1) (ci := 4) (v := .int (B_spans b)) (C := RX0) (T := TX0) (N := 17) hx hb hts inX0 hown hK hP 0 rfl rfl 0 (by decide) (hts _ mw_44) (fun _ h9 => h9) rfl dX0_hasSpan_6 ?_
    refine lv_icmp_ge (tgt := 22) hx hb dX0_hasSpan_9 (by decide) (fun c2 => ?_) (fun c2 => ?_)
    · have hF := ob_pos c2 hF
      refine lv_iconst (v := 0) hx hb dX0_hasSpan_22 (by decide) ?_
      cases hF
      rw [hQ]
      exact jb_zret hx hb hr rfl hlocks hP hD hS dX0_hasSpan_23 rfl (Nat.le_of_ble_eq_true rfl) (Nat.le_of_ble_eq_true rfl)
    · have hF := ob_neg c2 hF
      refine lv_iload_n hx hb dX0_hasSpan_12 rfl (lv_at hl 1 rfl) ?_
      refine lv_bipush (v := 10) hx hb dX0_hasSpan_13 (by decide) ?_
      refine lv_icmp_ge (tgt := 22) hx hb dX0_hasSpan_15 (by decide) (fun c3 => ?_) (fun c3 => ?_)
      · have hF := ob_pos c3 hF
        refine lv_iconst (v := 0) hx hb dX0_hasSpan_22 (by decide) ?_
        cases hF
        rw [hQ]
        exact jb_zret hx hb hr rfl hlocks hP hD hS dX0_hasSpan_23 rfl (Nat.le_of_ble_eq_true rfl) (Nat.le_of_ble_eq_true rfl)
      · have hF := ob_neg c3 hF
        refine lv_iconst (v := 1) hx hb dX0_hasSpan_18 (by decide) ?_
        refine lv_goto (tgt := 23) hx hb dX0_hasSpan_19 (by decide) ?_
        cases hF
        rw [hQ]
        exact jb_zret hx hb hr rfl hlocks hP hD hS dX0_hasSpan_23 rfl (Nat.le_of_ble_eq_true rfl) (Nat.le_of_ble_eq_true rfl)
def F_X0_loadOf_L4 (b : Bv) (y1 : Int32) (k : Int32 → Int32 → Option (Int32)) : Nat → Int32 → Int32 → Option (Int32)
  | 0, _, _ => none
  | n + 1, x2, x3 => if (B_vehicles b) ≤ x3 then k x2 x3 else ck (inb x3 8) (if ¬ ((B_places b) x3.toNatClampNeg) = y1 then F_X0_loadOf_L4 b y1 k n x2 (x3 + 1) else ck (inb x3 8) (F_X0_loadOf_L4 b y1 k n (x2 + ((B_weights b) x3.toNatClampNeg)) (x3 + 1)))
def F_X0_loadOf (b : Bv) (p0 : Int32) : Option (Int32) := F_X0_loadOf_L4 b p0 (fun x1 x2 => some x1) 1000 0 0
set_option maxHeartbeats 4000000 in
set_option maxRecDepth 100000 in
theorem c_X0_loadOf (g : GG) (l : Launch) (a : Nat → Nat) (b : Bv) (p0 : Int32) (z : Int32) (hF : F_X0_loadOf b p0 = some z) : MI g l yX0_loadOf cX0_loadOf 4 (some .int) ({ frames := 0, cells := 0, slots := 0, locals := 0 } : Room) [.ref (a 0), .int p0] [wB g a b] 0 0 z [wB g a b] := by
  refine MI.bg (by decide) (Nat.le_of_ble_eq_true rfl) ?_
  intro p e s m below meth c A Q hQ hx hb hr hml hown hts hlocks hmn hK hE hA hP hD hS ls hl
  rw [F_X0_loadOf] at hF
  have hl : lv_has ls 4 [(0, .ref (a 0)), (1, .int p0)] := hl
  refine lv_iconst (v := 0) hx hb dX0_loadOf_0 (by decide) ?_
  refine lv_istore_n (lv' := [(2, .int 0), (0, .ref (a 0)), (1, .int p0)]) hx hb dX0_loadOf_1 rfl hl (by decide) rfl (fun ls hl => ?_)
  refine lv_iconst (v := 0) hx hb dX0_loadOf_2 (by decide) ?_
  refine lv_istore_n (lv' := [(3, .int 0), (2, .int 0), (0, .ref (a 0)), (1, .int p0)]) hx hb dX0_loadOf_3 rfl hl (by decide) rfl (fun ls hl => ?_)
  obtain ⟨k2, ek2, hF⟩ := ob_k (F := fun k9 => F_X0_loadOf_L4 b p0 k9 1000 0 0) hF
  have loop2 : ∀ (n9 : Nat) (x1 : Int32) (x2 : Int32), F_X0_loadOf_L4 b p0 k2 n9 x1 x2 = some z → ∀ (H : Heap) (locs : List Loc), va_P g.1 vwCl ([wB g a b] : List va_W).flatten H → va_D A ([wB g a b] : List va_W).flatten → va_S A s.heap H locs → ∀ ls : Array Slot, lv_has ls 4 [(0, .ref (a 0)), (1, .int p0), (2, .int x1), (3, .int x2)] → W p l e ({ frames := 0, cells := 0, slots := 0, locals := 0 } : Room) s m ([.ref (a 0), .int p0] : List Value).toArray below meth c H locs 0 0 Q (F0 m 4 ls []) := by
    intro n9
    induction n9 with
    | zero => intro x1 x2 hF; rw [F_X0_loadOf_L4] at hF; cases hF
    | succ n9 ih =>
      intro x1 x2 hF H locs hP hD hS ls hl
      rw [F_X0_loadOf_L4] at hF
      refine lv_iload_n hx hb dX0_loadOf_4 rfl (lv_at hl 3 rfl) ?_
      refine lv_aload_n hx hb dX0_loadOf_5 rfl (lv_at hl 0 rfl) ?_
      refine va_get (D := g.1) (ci := 4) (v := .int (B_vehicles b)) (C := RX0) (T := TX0) (N := 17) hx hb hts inX0 hown hK hP 0 rfl rfl 6 (by decide) (hts _ mw_59) (fun _ h9 => h9) rfl dX0_loadOf_6 ?_
      refine lv_icmp_ge (tgt := 37) hx hb dX0_loadOf_9 (by decide) (fun c3 => ?_) (fun c3 => ?_)
      · have hF := ob_pos c3 hF
        rw [ek2] at hF
        refine lv_iload_n hx hb dX0_loadOf_37 rfl (lv_at hl 2 rfl) ?_
        cases hF
        rw [hQ]
        exact jb_iret hx hb hr hlocks hP hD hS dX0_loadOf_38 rfl (Nat.le_of_ble_eq_true rfl) (Nat.le_of_ble_eq_true rfl)
      · have hF := ob_neg c3 hF
        refine lv_aload_n hx hb dX0_loadOf_12 rfl (lv_at hl 0 rfl) ?_
        refine va_get (D := g.1) (ci := 4) (v := .ref (a 8)) (C := RX0) (T := TX0) (N := 17) hx hb hts inX0 hown hK hP 0 rfl rfl 9 (by decide) (hts _ mw_66) (fun _ h9 => h9) rfl dX0_loadOf_13 ?_
        refine lv_iload_n hx hb dX0_loadOf_16 rfl (lv_at hl 3 rfl) ?_
        have h4 := inb_in (ck_t hF)
        have hF := ck_s hF
        refine va_iald hx hb hK hP 8 0 rfl rfl h4 dX0_loadOf_17 ?_
        refine lv_iload_n hx hb dX0_loadOf_18 rfl (lv_at hl 1 rfl) ?_
        refine lv_icmp_ne (tgt := 31) hx hb dX0_loadOf_19 (by decide) (fun c5 => ?_) (fun c5 => ?_)
        · have hF := ob_pos c5 hF
          refine lv_iinc (v := x2 + 1) (lv' := [(3, .int (x2 + 1)), (0, .ref (a 0)), (1, .int p0), (2, .int x1)]) hx hb dX0_loadOf_31 hl (k := 3) rfl (by rfl) (by decide) rfl (fun ls hl => ?_)
          refine lv_goto (tgt := 4) hx hb dX0_loadOf_34 (by decide) ?_
          exact ih _ _ hF _ _ hP hD hS ls (lv_sub hl [1, 2, 3, 0] rfl)
        · have hF := ob_nneg c5 hF
          refine lv_iload_n hx hb dX0_loadOf_22 rfl (lv_at hl 2 rfl) ?_
          refine lv_aload_n hx hb dX0_loadOf_23 rfl (lv_at hl 0 rfl) ?_
          refine va_get (D := g.1) (ci := 4) (v := .ref (a 7)) (C := RX0) (T := TX0) (N := 17) hx hb hts inX0 hown hK hP 0 rfl rfl 8 (by decide) (hts _ mw_64) (fun _ h9 => h9) rfl dX0_loadOf_24 ?_
          refine lv_iload_n hx hb dX0_loadOf_27 rfl (lv_at hl 3 rfl) ?_
          have h6 := inb_in (ck_t hF)
          have hF := ck_s hF
          refine va_iald hx hb hK hP 7 0 rfl rfl h6 dX0_loadOf_28 ?_
          refine lv_iadd hx hb dX0_loadOf_29 ?_
          refine lv_istore_n (lv' := [(2, .int (x1 + ((B_weights b) x2.toNatClampNeg))), (0, .ref (a 0)), (1, .int p0), (3, .int x2)]) hx hb dX0_loadOf_30 rfl hl (by decide) rfl (fun ls hl => ?_)
          refine lv_iinc (v := x2 + 1) (lv' := [(3, .int (x2 + 1)), (2, .int (x1 + ((B_weights b) x2.toNatClampNeg))), (0, .ref (a 0)), (1, .int p0)]) hx hb dX0_loadOf_31 hl (k := 3) rfl (by rfl) (by decide) rfl (fun ls hl => ?_)
          refine lv_goto (tgt := 4) hx hb dX0_loadOf_34 (by decide) ?_
          exact ih _ _ hF _ _ hP hD hS ls (lv_sub hl [2, 3, 1, 0] rfl)
  exact loop2 1000 _ _ hF _ _ hP hD hS ls (lv_sub hl [2, 3, 1, 0] rfl)
