/-! the loop of the law's body -/
theorem nI_int64 : ∀ j, j < 64 → (nI j).toInt = (j : Int) := fun j h => nI_toInt (by omega)
theorem lp_ge {L k : Nat} (hL : L ≤ 1536) (hk : k ≤ 3000) (h : ¬ Int32.ofNat L - 3 < nI k) : k + 3 ≤ L := by
  have h1 : (nI L - nI 3).toInt = (L : Int) - 3 := pk_sub_toInt (by omega) (by decide)
  have h2 : (nI k).toInt = (k : Int) := nI_toInt (by omega)
  have h3 : ¬ (nI L - nI 3).toInt < (nI k).toInt := fun h4 => h (Int32.lt_iff_toInt_lt.mpr h4)
  rw [h1, h2] at h3
  omega
set_option maxHeartbeats 4000000 in
set_option maxRecDepth 100000 in
theorem law_pick {p : Program} {l : Launch} {e : Env} {s : State} {m : MethodId} {args : Array Value} {below : List Frame} {meth : Method} {c : Code} {H : Heap} {locs : List Loc} {cells slots : Nat} {Q : State → Prop} {g : GG} {A : Nat → Prop} {a a1 a2 a3 a4 a5 a6 a7 am : Nat → Nat} {q3 q4 b0 L j0 HH : Nat} {xs : Nat → Int32} {x : Xv} {b t sn : Bv} {h : Hv} {j : Jv} {tx : Tv} {ln : Nv} {gh : LG} {mo : Mv} {fL : Nat → Int64} {fD : Nat → UInt64} {ls : Array Slot} (hst : l.stackTraces = false) (hx : p.tables.exec = Jvm.exec) (hb : c.code = cL_law) (hml : c.maxLocals = 9) (hown : s.vm.findClass "JamBridgeLaw" = some m.cls) (hts2 : ∀ w ∈ WW2, w.before args s = true) (hK : va_K g.1 vwCl (TY g) s) (hE : EV g A s s.heap) (hA : ∀ q : Nat, s.heap.size ≤ q → A q) (hX : va_X b0 L xs s s.heap) (hbl : b0 < s.heap.size) (hbA : ¬ A b0) (i1 : vp_in (nI (3 * j0) + 1) L) (i2 : vp_in (nI (3 * j0) + 2) L) (hRel : Rel HH x b t sn h tx ln mo) (hH : HH + 800 ≤ 900000) (hg0 : LK ln.2 ln.1 gh) (hP : va_P g.1 vwCl [wX g a a1 a2 a3 a4 a5 a6 a7 x, wB g a1 b, wB g a2 t, wB g a3 sn, wH g a4 h, wJ g a5 j, wT g a6 tx, wLn g (a7 0) ln gh, wM g am mo, wO g q3 fL, wOD g q4 fD].flatten H) (hD : va_D A [wX g a a1 a2 a3 a4 a5 a6 a7 x, wB g a1 b, wB g a2 t, wB g a3 sn, wH g a4 h, wJ g a5 j, wT g a6 tx, wLn g (a7 0) ln gh, wM g am mo, wO g q3 fL, wOD g q4 fD].flatten) (hS : va_S A s.heap H locs) (hc : cells + 1100 ≤ 603072) (hs : slots + 14000 ≤ 7219306) (hl : lv_has ls 9 [(0, .ref b0), (1, .ref (a 0)), (2, .ref (am 0)), (3, .ref q3), (4, .ref q4), (5, .int (nI (3 * j0)))]) (kk : ∀ (x : Xv) (b t sn : Bv) (h : Hv) (j : Jv) (tx : Tv) (ln : Nv) (gh : LG) (mo : Mv) (fL : Nat → Int64) (fD : Nat → UInt64) (H : Heap) (locs : List Loc) (ls : Array Slot), Rel (HH + 800) x b t sn h tx ln mo → LK ln.2 ln.1 gh → va_P g.1 vwCl [wX g a a1 a2 a3 a4 a5 a6 a7 x, wB g a1 b, wB g a2 t, wB g a3 sn, wH g a4 h, wJ g a5 j, wT g a6 tx, wLn g (a7 0) ln gh, wM g am mo, wO g q3 fL, wOD g q4 fD].flatten H → va_D A [wX g a a1 a2 a3 a4 a5 a6 a7 x, wB g a1 b, wB g a2 t, wB g a3 sn, wH g a4 h, wJ g a5 j, wT g a6 tx, wLn g (a7 0) ln gh, wM g am mo, wO g q3 fL, wOD g q4 fD].flatten → va_S A s.heap H locs → lv_has ls 9 [(0, .ref b0), (1, .ref (a 0)), (2, .ref (am 0)), (3, .ref q3), (4, .ref q4), (5, .int (nI (3 * j0)))] → W p l e room_1 s m args below meth c H locs (cells + 1100) (slots + 14000) Q (F0 m 2318 ls [])) (q : Nat) (hq : q < 64) : W p l e room_1 s m args below meth c H locs cells slots Q (F0 m 44 ls [.int (nI q)]) := by
  match q, hq with
  | 0, _ => exact lv_tableIn (tgt := 252) hx hb dL_law_44 (by decide) (by decide) rfl (by decide) (case_addSpan hst hx hb hml hown hts2 hK hE hA hX hbl hbA i1 i2 hRel hH hg0 hP hD hS hc hs hl kk)
  | 1, _ => exact lv_tableIn (tgt := 308) hx hb dL_law_44 (by decide) (by decide) rfl (by decide) (case_removeLastSpan hst hx hb hml hown hts2 hK hE hA hX hbl hbA i1 i2 hRel hH hg0 hP hD hS hc hs hl kk)
  | 2, _ => exact lv_tableIn (tgt := 352) hx hb dL_law_44 (by decide) (by decide) rfl (by decide) (case_pour hst hx hb hml hown hts2 hK hE hA hX hbl hbA i1 i2 hRel hH hg0 hP hD hS hc hs hl kk)
  | 3, _ => exact lv_tableIn (tgt := 420) hx hb dL_law_44 (by decide) (by decide) rfl (by decide) (case_mend hst hx hb hml hown hts2 hK hE hA hX hbl hbA i1 i2 hRel hH hg0 hP hD hS hc hs hl kk)
  | 4, _ => exact lv_tableIn (tgt := 488) hx hb dL_law_44 (by decide) (by decide) rfl (by decide) (case_spanCount hst hx hb hml hown hts2 hK hE hA hX hbl hbA i1 i2 hRel hH hg0 hP hD hS hc hs hl kk)
  | 5, _ => exact lv_tableIn (tgt := 501) hx hb dL_law_44 (by decide) (by decide) rfl (by decide) (case_jars hst hx hb hml hown hts2 hK hE hA hX hbl hbA i1 i2 hRel hH hg0 hP hD hS hc hs hl kk)
  | 6, _ => exact lv_tableIn (tgt := 557) hx hb dL_law_44 (by decide) (by decide) rfl (by decide) (case_age hst hx hb hml hown hts2 hK hE hA hX hbl hbA i1 i2 hRel hH hg0 hP hD hS hc hs hl kk)
  | 7, _ => exact lv_tableIn (tgt := 613) hx hb dL_law_44 (by decide) (by decide) rfl (by decide) (case_cracks hst hx hb hml hown hts2 hK hE hA hX hbl hbA i1 i2 hRel hH hg0 hP hD hS hc hs hl kk)
  | 8, _ => exact lv_tableIn (tgt := 669) hx hb dL_law_44 (by decide) (by decide) rfl (by decide) (case_stress hst hx hb hml hown hts2 hK hE hA hX hbl hbA i1 i2 hRel hH hg0 hP hD hS hc hs hl kk)
  | 9, _ => exact lv_tableIn (tgt := 725) hx hb dL_law_44 (by decide) (by decide) rfl (by decide) (case_strength hst hx hb hml hown hts2 hK hE hA hX hbl hbA i1 i2 hRel hH hg0 hP hD hS hc hs hl kk)
  | 10, _ => exact lv_tableIn (tgt := 781) hx hb dL_law_44 (by decide) (by decide) rfl (by decide) (case_load hst hx hb hml hown hts2 hK hE hA hX hbl hbA i1 i2 hRel hH hg0 hP hD hS hc hs hl kk)
  | 11, _ => exact lv_tableIn (tgt := 837) hx hb dL_law_44 (by decide) (by decide) rfl (by decide) (case_isStrained hst hx hb hml hown hts2 hK hE hA hX hbl hbA i1 i2 hRel hH hg0 hP hD hS hc hs hl kk)
  | 12, _ => exact lv_tableIn (tgt := 900) hx hb dL_law_44 (by decide) (by decide) rfl (by decide) (case_hoursUntilBears hst hx hb hml hown hts2 hK hE hA hX hbl hbA i1 i2 hRel hH hg0 hP hD hS hc hs hl kk)
  | 13, _ => exact lv_tableIn (tgt := 968) hx hb dL_law_44 (by decide) (by decide) rfl (by decide) (case_hoursUntilBearsByDivision hst hx hb hml hown hts2 hK hE hA hX hbl hbA i1 i2 hRel hH hg0 hP hD hS hc hs hl kk)
  | 14, _ => exact lv_tableIn (tgt := 1036) hx hb dL_law_44 (by decide) (by decide) rfl (by decide) (case_spanByStrength hst hx hb hml hown hts2 hK hE hA hX hbl hbA i1 i2 hRel hH hg0 hP hD hS hc hs hl kk)
  | 15, _ => exact lv_tableIn (tgt := 1092) hx hb dL_law_44 (by decide) (by decide) rfl (by decide) (case_enter hst hx hb hml hown hts2 hK hE hA hX hbl hbA i1 i2 hRel hH hg0 hP hD hS hc hs hl kk)
  | 16, _ => exact lv_tableIn (tgt := 1148) hx hb dL_law_44 (by decide) (by decide) rfl (by decide) (case_pass hst hx hb hml hown hts2 hK hE hA hX hbl hbA i1 i2 hRel hH hg0 hP hD hS hc hs hl kk)
  | 17, _ => exact lv_tableIn (tgt := 1204) hx hb dL_law_44 (by decide) (by decide) rfl (by decide) (case_setRate hst hx hb hml hown hts2 hK hE hA hX hbl hbA i1 i2 hRel hH hg0 hP hD hS hc hs hl kk)
  | 18, _ => exact lv_tableIn (tgt := 1260) hx hb dL_law_44 (by decide) (by decide) rfl (by decide) (case_vehicleCount hst hx hb hml hown hts2 hK hE hA hX hbl hbA i1 i2 hRel hH hg0 hP hD hS hc hs hl kk)
  | 19, _ => exact lv_tableIn (tgt := 1273) hx hb dL_law_44 (by decide) (by decide) rfl (by decide) (case_vehicleAt hst hx hb hml hown hts2 hK hE hA hX hbl hbA i1 i2 hRel hH hg0 hP hD hS hc hs hl kk)
  | 20, _ => exact lv_tableIn (tgt := 1329) hx hb dL_law_44 (by decide) (by decide) rfl (by decide) (case_weightOf hst hx hb hml hown hts2 hK hE hA hX hbl hbA i1 i2 hRel hH hg0 hP hD hS hc hs hl kk)
  | 21, _ => exact lv_tableIn (tgt := 1385) hx hb dL_law_44 (by decide) (by decide) rfl (by decide) (case_spanOf hst hx hb hml hown hts2 hK hE hA hX hbl hbA i1 i2 hRel hH hg0 hP hD hS hc hs hl kk)
  | 22, _ => exact lv_tableIn (tgt := 1441) hx hb dL_law_44 (by decide) (by decide) rfl (by decide) (case_tollOf hst hx hb hml hown hts2 hK hE hA hX hbl hbA i1 i2 hRel hH hg0 hP hD hS hc hs hl kk)
  | 23, _ => exact lv_tableIn (tgt := 1497) hx hb dL_law_44 (by decide) (by decide) rfl (by decide) (case_hoursUntilOver hst hx hb hml hown hts2 hK hE hA hX hbl hbA i1 i2 hRel hH hg0 hP hD hS hc hs hl kk)
  | 24, _ => exact lv_tableIn (tgt := 1553) hx hb dL_law_44 (by decide) (by decide) rfl (by decide) (case_totalLoad hst hx hb hml hown hts2 hK hE hA hX hbl hbA i1 i2 hRel hH hg0 hP hD hS hc hs hl kk)
  | 25, _ => exact lv_tableIn (tgt := 1566) hx hb dL_law_44 (by decide) (by decide) rfl (by decide) (case_totalLoadByVehicles hst hx hb hml hown hts2 hK hE hA hX hbl hbA i1 i2 hRel hH hg0 hP hD hS hc hs hl kk)
  | 26, _ => exact lv_tableIn (tgt := 1579) hx hb dL_law_44 (by decide) (by decide) rfl (by decide) (case_greatestWeight hst hx hb hml hown hts2 hK hE hA hX hbl hbA i1 i2 hRel hH hg0 hP hD hS hc hs hl kk)
  | 27, _ => exact lv_tableIn (tgt := 1592) hx hb dL_law_44 (by decide) (by decide) rfl (by decide) (case_hour hst hx hb hml hown hts2 hK hE hA hX hbl hbA i1 i2 hRel hH hg0 hP hD hS hc hs hl kk)
  | 28, _ => exact lv_tableIn (tgt := 1605) hx hb dL_law_44 (by decide) (by decide) rfl (by decide) (case_rate hst hx hb hml hown hts2 hK hE hA hX hbl hbA i1 i2 hRel hH hg0 hP hD hS hc hs hl kk)
  | 29, _ => exact lv_tableIn (tgt := 1618) hx hb dL_law_44 (by decide) (by decide) rfl (by decide) (case_till hst hx hb hml hown hts2 hK hE hA hX hbl hbA i1 i2 hRel hH hg0 hP hD hS hc hs hl kk)
  | 30, _ => exact lv_tableIn (tgt := 1631) hx hb dL_law_44 (by decide) (by decide) rfl (by decide) (case_paidTolls hst hx hb hml hown hts2 hK hE hA hX hbl hbA i1 i2 hRel hH hg0 hP hD hS hc hs hl kk)
  | 31, _ => exact lv_tableIn (tgt := 1644) hx hb dL_law_44 (by decide) (by decide) rfl (by decide) (case_crossed hst hx hb hml hown hts2 hK hE hA hX hbl hbA i1 i2 hRel hH hg0 hP hD hS hc hs hl kk)
  | 32, _ => exact lv_tableIn (tgt := 1657) hx hb dL_law_44 (by decide) (by decide) rfl (by decide) (case_sunk hst hx hb hml hown hts2 hK hE hA hX hbl hbA i1 i2 hRel hH hg0 hP hD hS hc hs hl kk)
  | 33, _ => exact lv_tableIn (tgt := 1670) hx hb dL_law_44 (by decide) (by decide) rfl (by decide) (case_meanStrength hst hx hb hml hown hts2 hK hE hA hX hbl hbA i1 i2 hRel hH hg0 hP hD hS hc hs hl kk)
  | 34, _ => exact lv_tableIn (tgt := 1735) hx hb dL_law_44 (by decide) (by decide) rfl (by decide) (case_sunkShare hst hx hb hml hown hts2 hK hE hA hX hbl hbA i1 i2 hRel hH hg0 hP hD hS hc hs hl kk)
  | 35, _ => exact lv_tableIn (tgt := 1801) hx hb dL_law_44 (by decide) (by decide) rfl (by decide) (case_feed hst hx hb hml hown hts2 hK hE hA hX hbl hbA i1 i2 hRel hH hg0 hP hD hS hc hs hl kk)
  | 36, _ => exact lv_tableIn (tgt := 1859) hx hb dL_law_44 (by decide) (by decide) rfl (by decide) (case_execute hst hx hb hml hown hts2 hK hE hA hX hbl hbA i1 i2 hRel hH hg0 hP hD hS hc hs hl kk)
  | 37, _ => exact lv_tableIn (tgt := 1903) hx hb dL_law_44 (by decide) (by decide) rfl (by decide) (case_faultPosition hst hx hb hml hown hts2 hK hE hA hX hbl hbA i1 i2 hRel hH hg0 hP hD hS hc hs hl kk)
  | 38, _ => exact lv_tableIn (tgt := 1947) hx hb dL_law_44 (by decide) (by decide) rfl (by decide) (case_writeSpan hst hx hb hml hown hts2 hK hE hA hX hbl hbA i1 i2 hRel hH hg0 hP hD hS hc hs hl kk)
  | 39, _ => exact lv_tableIn (tgt := 2003) hx hb dL_law_44 (by decide) (by decide) rfl (by decide) (case_writeBridge hst hx hb hml hown hts2 hK hE hA hX hbl hbA i1 i2 hRel hH hg0 hP hD hS hc hs hl kk)
  | 40, _ => exact lv_tableIn (tgt := 2016) hx hb dL_law_44 (by decide) (by decide) rfl (by decide) (case_lineCharacter hst hx hb hml hown hts2 hK hE hA hX hbl hbA i1 i2 hRel hH hg0 hP hD hS hc hs hl kk)
  | 41, _ => exact lv_tableIn (tgt := 2072) hx hb dL_law_44 (by decide) (by decide) rfl (by decide) (case_denial hst hx hb hml hown hts2 hK hE hA hX hbl hbA i1 i2 hRel hH hg0 hP hD hS hc hs hl kk)
  | 42, _ => exact lv_tableIn (tgt := 2116) hx hb dL_law_44 (by decide) (by decide) rfl (by decide) (case_denialDetail hst hx hb hml hown hts2 hK hE hA hX hbl hbA i1 i2 hRel hH hg0 hP hD hS hc hs hl kk)
  | 43, _ => exact lv_tableIn (tgt := 2160) hx hb dL_law_44 (by decide) (by decide) rfl (by decide) (case_denialCause hst hx hb hml hown hts2 hK hE hA hX hbl hbA i1 i2 hRel hH hg0 hP hD hS hc hs hl kk)
  | 44, _ => exact lv_tableIn (tgt := 2204) hx hb dL_law_44 (by decide) (by decide) rfl (by decide) (case_undo hst hx hb hml hown hts2 hK hE hA hX hbl hbA i1 i2 hRel hH hg0 hP hD hS hc hs hl kk)
  | 45, _ => exact lv_tableIn (tgt := 2248) hx hb dL_law_44 (by decide) (by decide) rfl (by decide) (case_undoCount hst hx hb hml hown hts2 hK hE hA hX hbl hbA i1 i2 hRel hH hg0 hP hD hS hc hs hl kk)
  | 46, _ => exact lv_tableIn (tgt := 2261) hx hb dL_law_44 (by decide) (by decide) rfl (by decide) (case_saveSnapshot hst hx hb hml hown hts2 hK hE hA hX hbl hbA i1 i2 hRel hH hg0 hP hD hS hc hs hl kk)
  | 47, _ => exact lv_tableIn (tgt := 2274) hx hb dL_law_44 (by decide) (by decide) rfl (by decide) (case_restoreSnapshot hst hx hb hml hown hts2 hK hE hA hX hbl hbA i1 i2 hRel hH hg0 hP hD hS hc hs hl kk)
  | q + 48, hq =>
    refine lv_tableOut (tgt := 2318) hx hb dL_law_44 (Or.inr ?_) (by decide) (W.widen (by omega) (by omega) (kk x b t sn h j tx ln gh mo fL fD H locs ls (hRel.up (by omega) (by omega)) hg0 hP hD hS hl))
    rw [nI_int64 _ hq]
    omega
set_option maxHeartbeats 4000000 in
theorem law_loop {p : Program} {l : Launch} {e : Env} {s : State} {m : MethodId} {args : Array Value} {below : List Frame} {meth : Method} {c : Code} {Q : State → Prop} {g : GG} {A : Nat → Prop} {a a1 a2 a3 a4 a5 a6 a7 am : Nat → Nat} {q3 q4 b0 L c0 s0 : Nat} {xs : Nat → Int32} (hst : l.stackTraces = false) (hx : p.tables.exec = Jvm.exec) (hb : c.code = cL_law) (hml : c.maxLocals = 9) (hown : s.vm.findClass "JamBridgeLaw" = some m.cls) (hts2 : ∀ w ∈ WW2, w.before args s = true) (hK : va_K g.1 vwCl (TY g) s) (hE : EV g A s s.heap) (hA : ∀ q : Nat, s.heap.size ≤ q → A q) (hX : va_X b0 L xs s s.heap) (hbl : b0 < s.heap.size) (hbA : ¬ A b0) (hL : L ≤ 1536) (hc0 : c0 ≤ 39872) (hs0 : s0 ≤ 51306)
    (kend : ∀ (H : Heap) (locs : List Loc) (ls : Array Slot), va_S A s.heap H locs → W p l e room_1 s m args below meth c H locs 603072 7219306 Q (F0 m 2324 ls [])) : ∀ (n j0 : Nat), j0 + n = 513 → 3 * j0 ≤ L → ∀ (x : Xv) (b t sn : Bv) (h : Hv) (j : Jv) (tx : Tv) (ln : Nv) (gh : LG) (mo : Mv) (fL : Nat → Int64) (fD : Nat → UInt64) (H : Heap) (locs : List Loc) (ls : Array Slot), Rel (800 * j0) x b t sn h tx ln mo → LK ln.2 ln.1 gh → va_P g.1 vwCl [wX g a a1 a2 a3 a4 a5 a6 a7 x, wB g a1 b, wB g a2 t, wB g a3 sn, wH g a4 h, wJ g a5 j, wT g a6 tx, wLn g (a7 0) ln gh, wM g am mo, wO g q3 fL, wOD g q4 fD].flatten H → va_D A [wX g a a1 a2 a3 a4 a5 a6 a7 x, wB g a1 b, wB g a2 t, wB g a3 sn, wH g a4 h, wJ g a5 j, wT g a6 tx, wLn g (a7 0) ln gh, wM g am mo, wO g q3 fL, wOD g q4 fD].flatten → va_S A s.heap H locs → lv_has ls 9 [(0, .ref b0), (1, .ref (a 0)), (2, .ref (am 0)), (3, .ref q3), (4, .ref q4), (5, .int (nI (3 * j0)))] → W p l e room_1 s m args below meth c H locs (c0 + 1100 * j0) (s0 + 14000 * j0) Q (F0 m 28 ls []) := by
  intro n
  induction n with
  | zero => intro j0 h1 h2; omega
  | succ n ih =>
    intro j0 hn h3 x b t sn h j tx ln gh mo fL fD H locs ls hRel hg0 hP hD hS hl
    refine lv_iload hx hb dL_law_28 (lv_at hl 5 rfl) ?_
    refine lv_aload_n hx hb dL_law_30 rfl (lv_at hl 0 rfl) ?_
    refine va_slen hx hb hX hbl hbA hS dL_law_31 ?_
    refine lv_iconst (v := 3) hx hb dL_law_32 (by decide) ?_
    refine lv_isub hx hb dL_law_33 ?_
    refine lv_icmp_gt (tgt := 2324) hx hb dL_law_34 (by decide) (fun _ => ?_) (fun hlt => ?_)
    · exact W.widen (by omega) (by omega) (kend H locs ls hS)
    · have hlt : 3 * j0 + 3 ≤ L := lp_ge hL (by omega) hlt
      have i0 : vp_in (nI (3 * j0)) L := vp_in_nI (by omega) (by omega)
      have i1 : vp_in (nI (3 * j0) + 1) L := by rw [nI_1]; exact vp_in_nI (by omega) (by omega)
      have i2 : vp_in (nI (3 * j0) + 2) L := by rw [show nI (3 * j0) + 2 = nI (3 * j0 + 2) from nI_add (3 * j0) 2]; exact vp_in_nI (by omega) (by omega)
      refine lv_aload_n hx hb dL_law_37 rfl (lv_at hl 0 rfl) ?_
      refine lv_iload hx hb dL_law_38 (lv_at hl 5 rfl) ?_
      refine va_sld hx hb hX hbl hbA hS i0 dL_law_40 ?_
      refine lv_bipush (v := 63) hx hb dL_law_41 (by decide) ?_
      refine lv_iand hx hb dL_law_43 ?_
      obtain ⟨q, hq, e9⟩ := pk_andE (xs (nI (3 * j0)).toNatClampNeg) (m := 63) 6 (by decide)
      rw [e9]
      refine law_pick hst hx hb hml hown hts2 hK hE hA hX hbl hbA i1 i2 hRel (by omega) hg0 hP hD hS (by omega) (by omega) hl ?_ q hq
      intro x b t sn h j tx ln gh mo fL fD H locs ls hRel hg0 hP hD hS hl
      refine lv_iinc (v := nI (3 * (j0 + 1))) (lv' := [(5, .int (nI (3 * (j0 + 1)))), (0, .ref b0), (1, .ref (a 0)), (2, .ref (am 0)), (3, .ref q3), (4, .ref q4)]) hx hb dL_law_2318 hl (k := 5) rfl (nI_add (3 * j0) 3) (by decide) rfl (fun ls hl => ?_)
      refine lv_goto (tgt := 28) hx hb dL_law_2321 (by decide) ?_
      exact W.widen (by omega) (by omega) (ih (j0 + 1) (by omega) (by omega) x b t sn h j tx ln gh mo fL fD H locs ls (hRel.up (by omega) (by omega)) hg0 hP hD hS (lv_sub hl [1, 2, 3, 4, 5, 0] rfl))
