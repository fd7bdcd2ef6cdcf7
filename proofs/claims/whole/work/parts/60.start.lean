/-! what the statement gives of the start, as the contracts ask it -/
theorem inJ0 : ∀ w ∈ u_ws RJ0 TJ0 4, w ∈ WW := by
  intro w hw
  obtain ⟨k, hk, rfl⟩ := List.mem_map.mp hw
  have hk := List.mem_range.mp hk
  match k, hk with
  | 0, _ => exact (WT_in 611 (by decide +kernel) (by decide +kernel))
  | 1, _ => exact (WT_in 613 (by decide +kernel) (by decide +kernel))
  | 2, _ => exact (WT_in 615 (by decide +kernel) (by decide +kernel))
  | 3, _ => exact (WT_in 617 (by decide +kernel) (by decide +kernel))
  | k + 4, h => exact absurd h (by omega)
theorem inJx00060 : ∀ w ∈ u_ws RJx00060 TJx00060 6, w ∈ WW := by
  intro w hw
  obtain ⟨k, hk, rfl⟩ := List.mem_map.mp hw
  have hk := List.mem_range.mp hk
  match k, hk with
  | 0, _ => exact (WT_in 649 (by decide +kernel) (by decide +kernel))
  | 1, _ => exact (WT_in 650 (by decide +kernel) (by decide +kernel))
  | 2, _ => exact (WT_in 651 (by decide +kernel) (by decide +kernel))
  | 3, _ => exact (WT_in 652 (by decide +kernel) (by decide +kernel))
  | 4, _ => exact (WT_in 653 (by decide +kernel) (by decide +kernel))
  | 5, _ => exact (WT_in 664 (by decide +kernel) (by decide +kernel))
  | k + 6, h => exact absurd h (by omega)
theorem inJx7c733 : ∀ w ∈ u_ws RJx7c733 TJx7c733 6, w ∈ WW := by
  intro w hw
  obtain ⟨k, hk, rfl⟩ := List.mem_map.mp hw
  have hk := List.mem_range.mp hk
  match k, hk with
  | 0, _ => exact (WT_in 624 (by decide +kernel) (by decide +kernel))
  | 1, _ => exact (WT_in 625 (by decide +kernel) (by decide +kernel))
  | 2, _ => exact (WT_in 626 (by decide +kernel) (by decide +kernel))
  | 3, _ => exact (WT_in 627 (by decide +kernel) (by decide +kernel))
  | 4, _ => exact (WT_in 628 (by decide +kernel) (by decide +kernel))
  | 5, _ => exact (WT_in 629 (by decide +kernel) (by decide +kernel))
  | k + 6, h => exact absurd h (by omega)
theorem tb_in {w : Cond} (i : Nat) (h : tables_1[i]? = some w) : w ∈ lw_tbl := List.mem_append_right _ (List.mem_of_getElem? h)
def gl : List Cond := flatC (Jvm.Cond.and given_1 narrow_1)
theorem gl_in {w : Cond} (i : Nat) (h : gl[i]? = some w) : w ∈ gl := List.mem_of_getElem? h
def posS : List Nat := [744, 754, 766, 777, 789, 799, 809, 1076, 1084, 1092, 1101, 1109, 1117]
def tmS (i : Nat) : Term := .string (([("JamBridge$Text", 55), ("JamBridge$Text", 57), ("JamBridge$Text", 59), ("JamBridge$Text", 61), ("JamBridge$Text", 63), ("JamBridge$Text", 65), ("JamBridge$Text", 67), ("JamBridgeModel", 194), ("JamBridgeModel", 203), ("JamBridgeModel", 205), ("JamBridgeModel", 207), ("JamBridgeModel", 209), ("JamBridgeModel", 211)] : List (String × Nat)).getD i ("", 0)).1 (([("JamBridge$Text", 55), ("JamBridge$Text", 57), ("JamBridge$Text", 59), ("JamBridge$Text", 61), ("JamBridge$Text", 63), ("JamBridge$Text", 65), ("JamBridge$Text", 67), ("JamBridgeModel", 194), ("JamBridgeModel", 203), ("JamBridgeModel", 205), ("JamBridgeModel", 207), ("JamBridgeModel", 209), ("JamBridgeModel", 211)] : List (String × Nat)).getD i ("", 0)).2
set_option maxRecDepth 100000 in
theorem gl_ex : ∀ i, i < 13 → gl[posS.getD i 0]? = some (Cond.exactly (tmS i) "java/lang/String") := by decide +kernel
set_option maxRecDepth 100000 in
theorem gl_co : ∀ i, i < 13 → gl[posS.getD i 0 + 1]? = some (Cond.eq (.field (tmS i) "java/lang/String" "coder" "B") (.int 0)) := by decide +kernel
set_option maxRecDepth 100000 in
theorem gl_ar : ∀ i, i < 13 → gl[posS.getD i 0 + 2]? = some (Cond.arrayOf (.field (tmS i) "java/lang/String" "value" "[B") .byte) := by decide +kernel
set_option maxRecDepth 100000 in
theorem gl_le : ∀ i, i < 13 → gl[posS.getD i 0 + 3]? = some (Cond.eq (.length (.field (tmS i) "java/lang/String" "value" "[B")) (.int (Int32.ofNat (txL.getD i 0)))) := by decide +kernel
set_option maxRecDepth 100000 in
theorem gl_el : ∀ i, i < 13 → ∀ j, j < txL.getD i 0 → gl[posS.getD i 0 + 4 + j]? = some (Cond.eq (.elem (.field (tmS i) "java/lang/String" "value" "[B") (.int (Int32.ofNat j))) (.int ((txB.getD i []).getD j 0))) := by decide +kernel
set_option maxRecDepth 100000 in
theorem gl_on : ∀ j, j < 100 → gl[12 + j]? = some (Cond.eq (.elem (.static "java/lang/Integer" "DigitOnes" "[B") (.int (Int32.ofNat j))) (.int (dgO j))) := by decide +kernel
set_option maxRecDepth 100000 in
theorem gl_te : ∀ j, j < 100 → gl[115 + j]? = some (Cond.eq (.elem (.static "java/lang/Integer" "DigitTens" "[B") (.int (Int32.ofNat j))) (.int (dgT j))) := by decide +kernel
set_option maxRecDepth 100000 in
theorem gl_st : ∀ q ∈ strW, Cond.exactly (.string q.1 q.2.1) "java/lang/String" ∈ gl := by decide +kernel
set_option maxRecDepth 100000 in
theorem gl_nc : ∀ q ∈ ncW, Cond.not (.castable q.1 q.2) ∈ gl := by decide +kernel
set_option maxRecDepth 100000 in
theorem tb_nf : ∀ q ∈ nfW, Cond.fieldLinkNest q.1 q.2.1 q.2.2.1 q.2.2.2.1 q.2.2.2.2.1 q.2.2.2.2.2 ∈ tables_1 := by decide +kernel
set_option maxRecDepth 100000 in
theorem tb_nm : ∀ q ∈ nmW, Cond.methodLinkNest q.1 q.2.1 q.2.2.1 q.2.2.2 ∈ tables_1 := by decide +kernel
set_option maxRecDepth 100000 in
theorem tb_st : ∀ q ∈ strW, Cond.stringRef q.1 q.2.1 q.2.2 ∈ tables_1 := by decide +kernel
set_option maxRecDepth 100000 in
theorem tb_tx : ∀ q ∈ txtW, Cond.stringRef q.1 q.2.1 q.2.2.1 ∈ tables_1 := by decide +kernel
set_option maxRecDepth 100000 in
theorem tb_ca : ∀ q ∈ caW, Cond.castable q.1 q.2 ∈ tables_1 := by decide +kernel
set_option maxRecDepth 100000 in
theorem tb_de : ∀ y ∈ deW, Cond.declares y ∈ tables_1 := by decide +kernel
theorem st_one {args : Array Value} {s : State} {A : Nat → Prop} (hg : ∀ w ∈ gl, w.before args s = true) (hA : ∀ a : Nat, a < s.heap.size → ¬ A a) (i : Nat) : ∃ q : Nat × Nat, i < 13 → ((tmS i).eval args s none [] s = some (.ref q.1) ∧ va_O "java/lang/String" q.1 A s s.heap ∧ va_OF "java/lang/String" "coder" "B" (.int 0) q.1 A s s.heap ∧ va_OF "java/lang/String" "value" "[B" (.ref q.2) q.1 A s s.heap ∧ va_T .byte q.2 (txL.getD i 0) (fun j => .int ((txB.getD i []).getD j 0)) A s s.heap) := by
  rcases Nat.lt_or_ge i 13 with hi | hi
  · have hex := hg _ (gl_in _ (gl_ex i hi))
    obtain ⟨a, c, cA, kA, q1, -⟩ := Cond.exactly_spec (args := args) (first := s) (o := none) (s := s) (idx := []) (t := tmS i) (cls := "java/lang/String") hex
    obtain ⟨t, ht, hT⟩ := va_Tof (f := fun j => .int ((txB.getD i []).getD j 0)) (A := A) ((by decide : ∀ i, i < 13 → txL.getD i 0 < 2 ^ 31) i hi) (hg _ (gl_in _ (gl_ar i hi))) (va_eqt (hg _ (gl_in _ (gl_le i hi)))) (fun j hj => va_eqt (hg _ (gl_in _ (gl_el i hi j hj)))) hA
    exact ⟨(a, t), fun _ => ⟨q1, va_Oof hex q1 hA, vk_OFof q1 (va_eqt (hg _ (gl_in _ (gl_co i hi)))) hA, vk_OFof q1 ht hA, hT⟩⟩
  · exact ⟨(0, 0), fun h => absurd h (by omega)⟩
theorem ax_i {args : Array Value} {s : State} (h : (Cond.arrayClass .int).before args s = true) : ∃ cA, ArrOfT s cA .int ∧ va_RA s cA .int := by
  obtain ⟨cA, kA, comp, h1, h2, h3⟩ := Cond.arrayClass_spec h
  exact ⟨cA, fun n z => ⟨fun k h => (by cases h), kA, h2, comp, h3⟩, h1⟩
theorem ax_c {args : Array Value} {s : State} (h : (Cond.arrayClass .char).before args s = true) : ∃ cA, ArrOfT s cA .char ∧ va_RA s cA .char := by
  obtain ⟨cA, kA, comp, h1, h2, h3⟩ := Cond.arrayClass_spec h
  exact ⟨cA, fun n z => ⟨fun k h => (by cases h), kA, h2, comp, h3⟩, h1⟩
theorem ax_b {args : Array Value} {s : State} (h : (Cond.arrayClass .byte).before args s = true) : ∃ cA, ArrOfT s cA .byte ∧ va_RA s cA .byte := by
  obtain ⟨cA, kA, comp, h1, h2, h3⟩ := Cond.arrayClass_spec h
  exact ⟨cA, fun n z => ⟨fun k h => (by cases h), kA, h2, comp, h3⟩, h1⟩
theorem ax_l {args : Array Value} {s : State} (h : (Cond.arrayClass .long).before args s = true) : ∃ cA, ArrOfT s cA .long ∧ va_RA s cA .long := by
  obtain ⟨cA, kA, comp, h1, h2, h3⟩ := Cond.arrayClass_spec h
  exact ⟨cA, fun n z => ⟨fun k h => (by cases h), kA, h2, comp, h3⟩, h1⟩
theorem ax_d {args : Array Value} {s : State} (h : (Cond.arrayClass .double).before args s = true) : ∃ cA, ArrOfT s cA .double ∧ va_RA s cA .double := by
  obtain ⟨cA, kA, comp, h1, h2, h3⟩ := Cond.arrayClass_spec h
  exact ⟨cA, fun n z => ⟨fun k h => (by cases h), kA, h2, comp, h3⟩, h1⟩
theorem ax_o {args : Array Value} {s : State} (h : (Cond.arrayOver (.object "JamBridge$Bridge")).before args s = true) : ∃ cA, ArrOfT s cA (.object "JamBridge$Bridge") ∧ va_RA s cA (.object "JamBridge$Bridge") := by
  obtain ⟨comp, cA, k, h1, h2, h3, h4, h5⟩ := Cond.arrayOver_spec h
  exact ⟨cA, fun n z => ⟨fun k h => (by cases h), k, h3, comp, h4⟩, k, comp, h3, h4, h1, h5⟩
set_option maxHeartbeats 4000000 in
set_option maxRecDepth 100000 in
/-- the environment out of the statement's start -/
theorem env_start {args : Array Value} {s : State} {A : Nat → Prop} (hts : ∀ w ∈ lw_tbl, w.before args s = true) (hgv : (Jvm.Cond.and given_1 narrow_1).before args s = true) (hA : ∀ a : Nat, a < s.heap.size → ¬ A a) : ∃ g : GG, va_K g.1 vwCl (TY g) s ∧ EV g A s s.heap := by
  have hg : ∀ w ∈ gl, w.before args s = true := flat_of_before _ hgv
  have htb : ∀ w ∈ tables_1, w.before args s = true := fun w hw => hts w (List.mem_append_right _ hw)
  have htw : ∀ w ∈ WW, w.before args s = true := fun w hw => hts w (List.mem_filter.mp hw).1
  obtain ⟨c0, i0, k0⟩ := u_known (C := RJ0) (T := TJ0) (N := 4) (n := 4) htw inJ0 (hts (.instantiable RJ0 4) (tb_in 488 (by decide +kernel)))
  obtain ⟨c1, i1, k1⟩ := u_known (C := RJ4) (T := TJ4) (N := 4) (n := 4) htw inJ4 (hts (.instantiable RJ4 4) (tb_in 191 (by decide +kernel)))
  obtain ⟨c2, i2, k2⟩ := u_known (C := RJx00060) (T := TJx00060) (N := 6) (n := 6) htw inJx00060 (hts (.instantiable RJx00060 6) (tb_in 644 (by decide +kernel)))
  obtain ⟨c3, i3, k3⟩ := u_known (C := RJx7c733) (T := TJx7c733) (N := 6) (n := 6) htw inJx7c733 (hts (.instantiable RJx7c733 6) (tb_in 335 (by decide +kernel)))
  obtain ⟨c4, i4, k4⟩ := u_known (C := RX0) (T := TX0) (N := 17) (n := 17) htw inX0 (hts (.instantiable RX0 17) (tb_in 39 (by decide +kernel)))
  obtain ⟨c5, i5, k5⟩ := u_known (C := RX1) (T := TX1) (N := 3) (n := 3) htw inX1 (hts (.instantiable RX1 3) (tb_in 121 (by decide +kernel)))
  obtain ⟨c6, i6, k6⟩ := u_known (C := RX2) (T := TX2) (N := 2) (n := 2) htw inX2 (hts (.instantiable RX2 2) (tb_in 141 (by decide +kernel)))
  obtain ⟨c7, i7, k7⟩ := u_known (C := RX3) (T := TX3) (N := 7) (n := 7) htw inX3 (hts (.instantiable RX3 7) (tb_in 156 (by decide +kernel)))
  obtain ⟨c8, i8, k8⟩ := u_known (C := RX4) (T := TX4) (N := 12) (n := 12) htw inX4 (hts (.instantiable RX4 12) (tb_in 31 (by decide +kernel)))
  obtain ⟨c9, i9, k9⟩ := u_known (C := RX5) (T := TX5) (N := 23) (n := 23) htw inX5 (hts (.instantiable RX5 23) (tb_in 1306 (by decide +kernel)))
  obtain ⟨dC, dI, hKc⟩ : ∃ (dC : Nat → ClassId) (dI : Nat → Nat → Nat), ∀ (k : Nat) (q : vw_C), vwCl[k]? = some q → u_Kn s q.1 q.2.1 q.2.2 (dC k) (dI k) := by
    refine ⟨fun k => match k with | 0 => c0 | 1 => c1 | 2 => c2 | 3 => c3 | 4 => c4 | 5 => c5 | 6 => c6 | 7 => c7 | 8 => c8 | _ => c9, fun k => match k with | 0 => i0 | 1 => i1 | 2 => i2 | 3 => i3 | 4 => i4 | 5 => i5 | 6 => i6 | 7 => i7 | 8 => i8 | _ => i9, ?_⟩
    intro k q hq
    match k, hq with
    | 0, hq => cases hq; exact k0
    | 1, hq => cases hq; exact k1
    | 2, hq => cases hq; exact k2
    | 3, hq => cases hq; exact k3
    | 4, hq => cases hq; exact k4
    | 5, hq => cases hq; exact k5
    | 6, hq => cases hq; exact k6
    | 7, hq => cases hq; exact k7
    | 8, hq => cases hq; exact k8
    | 9, hq => cases hq; exact k9
    | k + 10, hq => simp [vwCl] at hq
  obtain ⟨ti, ei⟩ := ax_i (hts _ (tb_in 119 (by decide +kernel)))
  obtain ⟨tc, ec⟩ := ax_c (hts _ (tb_in 189 (by decide +kernel)))
  obtain ⟨tb, eb⟩ := ax_b (hts _ (tb_in 222 (by decide +kernel)))
  obtain ⟨tl, el⟩ := ax_l (hts _ (tb_in 1758 (by decide +kernel)))
  obtain ⟨td, ed⟩ := ax_d (hts _ (tb_in 1759 (by decide +kernel)))
  obtain ⟨to, eo⟩ := ax_o (hts _ (tb_in 127 (by decide +kernel)))
  obtain ⟨dO, hO1, hO2⟩ := va_Tof (ty := .byte) (tm := .static "java/lang/Integer" "DigitOnes" "[B") (N := 100) (f := fun j => .int (dgO j)) (A := A) (by decide) (hg _ (gl_in 10 (by decide +kernel))) (va_eqt (hg _ (gl_in 11 (by decide +kernel)))) (fun j hj => va_eqt (hg _ (gl_in _ (gl_on j hj)))) hA
  obtain ⟨dT, hT1, hT2⟩ := va_Tof (ty := .byte) (tm := .static "java/lang/Integer" "DigitTens" "[B") (N := 100) (f := fun j => .int (dgT j)) (A := A) (by decide) (hg _ (gl_in 113 (by decide +kernel))) (va_eqt (hg _ (gl_in 114 (by decide +kernel)))) (fun j hj => va_eqt (hg _ (gl_in _ (gl_te j hj)))) hA
  obtain ⟨ad, had⟩ := Classical.axiomOfChoice (st_one hg hA)
  have hev : ∀ i, i < 13 → (tmS i).eval args s none [] s = some (.ref (ad i).1) := fun i hi => (had i hi).1
  refine ⟨((dC, dI), (fun k => match k with | 0 => ti | 1 => tc | 2 => tb | 3 => to | 4 => tl | _ => td), (fun i => (ad i).1), (fun i => if i = 100 then dO else if i = 101 then dT else (ad i).2)), ⟨hKc, ?_⟩, ?_, ?_, ?_, ⟨?_, ?_⟩, ⟨?_, ?_⟩, ⟨?_, ?_⟩, ?_⟩
  · intro k q hq
    match k, hq with
    | 0, hq => cases hq; exact ei
    | 1, hq => cases hq; exact ec
    | 2, hq => cases hq; exact eb
    | 3, hq => cases hq; exact eo
    | 4, hq => cases hq; exact el
    | 5, hq => cases hq; exact ed
    | k + 6, hq => simp [TY] at hq
  · exact vx_Zqof (hts _ (tb_in 546 (by decide +kernel))) (hts _ (tb_in 12 (by decide +kernel))) (hg _ (gl_in 215 (by decide +kernel))) hA
  · exact vx_Zqof (hts _ (tb_in 548 (by decide +kernel))) (hts _ (tb_in 12 (by decide +kernel))) (hg _ (gl_in 216 (by decide +kernel))) hA
  · intro i hi
    obtain ⟨-, h1, h2, h3, h4⟩ := had i hi
    have e9 : (if i = 100 then dO else if i = 101 then dT else (ad i).2) = (ad i).2 := by rw [if_neg (by omega), if_neg (by omega)]
    refine ⟨h1, h2, ?_, ?_⟩
    · show va_OF "java/lang/String" "value" "[B" (.ref (if i = 100 then dO else if i = 101 then dT else (ad i).2)) (ad i).1 A s s.heap
      rw [e9]; exact h3
    · show va_T .byte (if i = 100 then dO else if i = 101 then dT else (ad i).2) (txL.getD i 0) (fun j => .int ((txB.getD i []).getD j 0)) A s s.heap
      rw [e9]; exact h4
  · exact va_Zref (hts _ (tb_in 472 (by decide +kernel))) (hts _ (tb_in 29 (by decide +kernel))) hO1 hA
  · exact hO2
  · exact va_Zref (hts _ (tb_in 474 (by decide +kernel))) (hts _ (tb_in 29 (by decide +kernel))) hT1 hA
  · exact hT2
  · exact va_Zof (hts _ (tb_in 200 (by decide +kernel))) (hts _ (tb_in 8 (by decide +kernel))) (va_eqi (hg _ (gl_in 4 (by decide +kernel)))) hA
  · exact va_Zqof (hts _ (tb_in 402 (by decide +kernel))) (hts _ (tb_in 24 (by decide +kernel))) (hg _ (gl_in 5 (by decide +kernel))) hA
  · refine ⟨fun q hq => va_Nw.of rfl (htb _ (tb_nf q hq)), fun q hq => va_Nw.of rfl (htb _ (tb_nm q hq)), fun q hq => ?_, fun q hq => ?_, fun q hq => va_Nc.of (hg _ (gl_nc q hq)), fun q hq => va_Nw.of rfl (htb _ (tb_ca q hq)), fun y hy => va_Nw.of rfl (htb _ (tb_de y hy))⟩
    · obtain ⟨a, c, cA, kA, q1, -⟩ := Cond.exactly_spec (args := args) (first := s) (o := none) (s := s) (idx := []) (t := .string q.1 q.2.1) (cls := "java/lang/String") (hg _ (gl_st q hq))
      exact ⟨a, vk_R.of (htb _ (tb_st q hq)) q1⟩
    · refine vk_R.of (htb _ (tb_tx q hq)) ?_
      simp only [txtW, List.mem_cons, List.not_mem_nil, or_false] at hq
      rcases hq with rfl | rfl | rfl | rfl | rfl | rfl | rfl | rfl | rfl | rfl | rfl | rfl | rfl | rfl
      · exact hev 0 (by decide)
      · exact hev 1 (by decide)
      · exact hev 2 (by decide)
      · exact hev 3 (by decide)
      · exact hev 4 (by decide)
      · exact hev 5 (by decide)
      · exact hev 6 (by decide)
      · exact hev 7 (by decide)
      · exact hev 8 (by decide)
      · exact hev 9 (by decide)
      · exact hev 10 (by decide)
      · exact hev 11 (by decide)
      · exact hev 12 (by decide)
      · exact va_eqR (t := tmS 6) (hg (Cond.eq (tmS 6) (.string "JamBridgeModel" 213)) (gl_in 1132 (by decide +kernel))) (hev 6 (by decide))
theorem ww2_start {args : Array Value} {s : State} (hts : ∀ w ∈ lw_tbl, w.before args s = true) : ∀ w ∈ WW2, w.before args s = true := by
  intro w hw
  rcases List.mem_cons.mp hw with rfl | hw
  · exact sl_selP (n := 0) (z := yJ5_isLatin1_aae02) (by decide +kernel) (hts _ (tb_in 387 (by decide +kernel))) (hts _ (tb_in 385 (by decide +kernel))) (by decide +kernel) (hts _ (tb_in 354 (by decide +kernel))) (hts _ (tb_in 355 (by decide +kernel)))
  rcases List.mem_cons.mp hw with rfl | hw
  · exact sl_selP (n := 0) (z := yJ5_isLatin1_aae02) (by decide +kernel) (hts _ (tb_in 387 (by decide +kernel))) (hts _ (tb_in 385 (by decide +kernel))) (by decide +kernel) (hts _ (tb_in 358 (by decide +kernel))) (hts _ (tb_in 359 (by decide +kernel)))
  · exact hts w (List.mem_filter.mp hw).1
