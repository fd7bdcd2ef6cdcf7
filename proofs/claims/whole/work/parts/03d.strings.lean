/-! String.length and charAt of the texts that are read -/
theorem tx_ok : ∀ w, w < 13 → (txL.getD w 0 = (txB.getD w []).length ∧ ∀ j, j < txL.getD w 0 → (((txB.getD w []).getD j 0 &&& 255).toUInt32 % 65536).toInt32 = (txB.getD w []).getD j 0) := by decide +kernel
def F_J0_length_8abf5 (w : Nat) : Option Int32 := ck (decide (w < 13)) (some (nI (txL.getD w 0)))
def F_J0_charAt_5068e (w : Nat) (i : Int32) : Option Int32 := ck (decide (w < 13)) (ck (inb i (txL.getD w 0)) (some ((txB.getD w []).getD i.toNatClampNeg 0)))
theorem tx_lt {i : Int32} {w : Nat} (hw : w < 13) (h : vp_in i (txL.getD w 0)) : ¬ i < 0 ∧ i < nI (txL.getD w 0) ∧ i.toNatClampNeg < txL.getD w 0 := by
  have hb : ∀ w, w < 13 → txL.getD w 0 < 2 ^ 31 := by decide +kernel
  obtain ⟨j, hj, rfl⟩ := vp_in_of h (hb w hw)
  have := hb w hw
  exact ⟨nI_pos (by omega), nI_lt hj this, by rw [nI_clamp (by omega)]; exact hj⟩
theorem tx_nar (w : Nat) (hw : w < 13) (j : Nat) (hj : j < txL.getD w 0) : narrow .char (.int ((txB.getD w []).getD j 0)) = .int ((txB.getD w []).getD j 0) := by
  rw [← (tx_ok w hw).2 j hj]
  exact pk_nc _
set_option maxHeartbeats 4000000 in
set_option maxRecDepth 100000 in
theorem c_J3_checkIndex (g : GG) (l : Launch) (i n : Int32) (v : Value) (hv : v = .null ∨ ∃ t, v = .ref t) (h0 : ¬ i < 0) (h1 : i < n) : MI g l yJ3_checkIndex_8e157 cJ3_checkIndex_8e157 3 (some .int) ({ frames := 0, cells := 0, slots := 0, locals := 0 } : Room) [.int i, .int n, v] [] 0 0 i [] := by
  have hc : v.category = 1 := by
    rcases hv with rfl | ⟨t, rfl⟩ <;> rfl
  refine MI.bg (by decide) (by rcases hv with rfl | ⟨t, rfl⟩ <;> exact (Nat.le_of_ble_eq_true rfl)) ?_
  intro p e s m below meth c A Q hQ hx hb hr hml hown hts hlocks hmn hK hE hA hP hD hS ls hl
  have hl : lv_has ls 3 [(0, .int i), (1, .int n), (2, v)] := by
    rcases hv with rfl | ⟨t, rfl⟩ <;> exact hl
  refine lv_iload_n hx hb dJ3_checkIndex_8e157_0 rfl (lv_at hl 0 rfl) ?_
  refine lv_if_lt (tgt := 9) hx hb dJ3_checkIndex_8e157_1 (by decide) (fun c1 => absurd c1 h0) (fun c1 => ?_)
  refine lv_iload_n hx hb dJ3_checkIndex_8e157_4 rfl (lv_at hl 0 rfl) ?_
  refine lv_iload_n hx hb dJ3_checkIndex_8e157_5 rfl (lv_at hl 1 rfl) ?_
  refine lv_icmp_lt (tgt := 16) hx hb dJ3_checkIndex_8e157_6 (by decide) (fun c2 => ?_) (fun c2 => absurd h1 c2)
  refine lv_iload_n hx hb dJ3_checkIndex_8e157_16 rfl (lv_at hl 0 rfl) ?_
  rw [hQ]
  exact jb_iret hx hb hr hlocks hP hD hS dJ3_checkIndex_8e157_17 rfl (Nat.le_of_ble_eq_true rfl) (Nat.le_of_ble_eq_true rfl)
set_option maxHeartbeats 4000000 in
set_option maxRecDepth 100000 in
theorem c_J0_checkIndex (g : GG) (l : Launch) (i n : Int32) (h0 : ¬ i < 0) (h1 : i < n) : MV g l yJ0_checkIndex_df160 cJ0_checkIndex_df160 2 none ({ frames := 1, cells := 0, slots := 0, locals := 22 } : Room) [.int i, .int n] [] 0 0 [] := by
  refine MV.bg (by decide) (Nat.le_of_ble_eq_true rfl) ?_
  intro p e s m below meth c A Q hQ hx hb hr hml hown hts hlocks hmn hK hE hA hP hD hS ls hl
  have hl : lv_has ls 2 [(0, .int i), (1, .int n)] := hl
  refine lv_iload_n hx hb dJ0_checkIndex_df160_0 rfl (lv_at hl 0 rfl) ?_
  refine lv_iload_n hx hb dJ0_checkIndex_df160_1 rfl (lv_at hl 1 rfl) ?_
  have go : ∀ v : Value, (v = .null ∨ ∃ t, v = .ref t) → va_Z "jdk/internal/util/Preconditions" "SIOOBE_FORMATTER" "Ljava/util/function/BiFunction;" v A s s.heap → W p l e ({ frames := 1, cells := 0, slots := 0, locals := 22 } : Room) s m ([.int i, .int n] : List Value).toArray below meth c s.heap [] 0 0 Q (F0 m 2 ls [.int n, .int i]) := by
    intro v hv hZ
    refine va_gets hx hb hZ hS hown (hts _ (WT_in 401 (by decide +kernel) (by decide +kernel))) (fun _ h9 => h9) dJ0_checkIndex_df160_2 ?_
    refine cl_siG (csR := []) (csF := []) (rest := []) hx hb hml hown hts hK hE hA hl hP hD hS (c_J3_checkIndex g l i n v hv h0 h1) [] [] [] ⟨rfl, rfl, rfl, rfl, rfl, rfl, rfl⟩ 3 (jb_giG (WT_in 689 (by decide +kernel) (by decide +kernel)) (WT_in 690 (by decide +kernel) (by decide +kernel)) (WT_in 24 (by decide +kernel) (by decide +kernel)) (WT_in 691 (by decide +kernel) (by decide +kernel))) ⟨rfl, rfl⟩ (by decide +kernel) ⟨⟨(Nat.le_of_ble_eq_true rfl), (Nat.le_of_ble_eq_true rfl)⟩, (Nat.le_of_ble_eq_true rfl), (Nat.le_of_ble_eq_true rfl)⟩ ⟨rfl, rfl⟩ (Nat.le_of_ble_eq_true rfl) dJ0_checkIndex_df160_5 (fun H locs hP hD hS => ?_)
    refine lv_pop hx hb dJ0_checkIndex_df160_8 rfl ?_
    rw [hQ]
    exact jb_vret hx hb hr hlocks hP hD hS dJ0_checkIndex_df160_9 (Nat.le_of_ble_eq_true rfl) (Nat.le_of_ble_eq_true rfl)
  rcases hE.2.2.2.2.2.1.2 with h | ⟨t, h⟩
  · exact go _ (Or.inl rfl) h
  · exact go _ (Or.inr ⟨t, rfl⟩) h
set_option maxHeartbeats 4000000 in
set_option maxRecDepth 100000 in
theorem c_J1_charAt (g : GG) (l : Launch) (w : Nat) (hw : w < 13) (i : Int32) (hi : vp_in i (txL.getD w 0)) : MI g l yJ1_charAt_3b067 cJ1_charAt_3b067 2 (some .char) ({ frames := 2, cells := 0, slots := 0, locals := 43 } : Room) [.ref (g.2.2.2 w), .int i] [] 0 0 ((txB.getD w []).getD i.toNatClampNeg 0) [] := by
  refine MI.bg (by decide) (Nat.le_of_ble_eq_true rfl) ?_
  intro p e s m below meth c A Q hQ hx hb hr hml hown hts hlocks hmn hK hE hA hP hD hS ls hl
  have hl : lv_has ls 2 [(0, .ref (g.2.2.2 w)), (1, .int i)] := hl
  obtain ⟨h0, h1, h2⟩ := tx_lt hw hi
  have hT := (hE.2.2.1 w hw).2.2.2
  refine lv_iload_n hx hb dJ1_charAt_3b067_0 rfl (lv_at hl 1 rfl) ?_
  refine lv_aload_n hx hb dJ1_charAt_3b067_1 rfl (lv_at hl 0 rfl) ?_
  refine va_tlen hx hb hT hS rfl dJ1_charAt_3b067_2 ?_
  refine cl_svG (csR := []) (csF := []) (rest := []) hx hb hml hown hts hK hE hA hl hP hD hS (c_J0_checkIndex g l i (nI (txL.getD w 0)) h0 h1) [] [] [] ⟨rfl, rfl, rfl, rfl, rfl, rfl, rfl⟩ 2 (jb_giG (WT_in 1191 (by decide +kernel) (by decide +kernel)) (WT_in 687 (by decide +kernel) (by decide +kernel)) (WT_in 8 (by decide +kernel) (by decide +kernel)) (WT_in 688 (by decide +kernel) (by decide +kernel))) ⟨rfl, rfl⟩ (by decide +kernel) ⟨⟨(Nat.le_of_ble_eq_true rfl), (Nat.le_of_ble_eq_true rfl)⟩, (Nat.le_of_ble_eq_true rfl), (Nat.le_of_ble_eq_true rfl)⟩ ⟨rfl, rfl⟩ (Nat.le_of_ble_eq_true rfl) dJ1_charAt_3b067_3 (fun H locs hP hD hS => ?_)
  refine lv_aload_n hx hb dJ1_charAt_3b067_6 rfl (lv_at hl 0 rfl) ?_
  refine lv_iload_n hx hb dJ1_charAt_3b067_7 rfl (lv_at hl 1 rfl) ?_
  refine va_tb hx hb hT hS hi rfl dJ1_charAt_3b067_8 ?_
  refine lv_sipush (v := 255) hx hb dJ1_charAt_3b067_9 (by decide) ?_
  refine lv_iand hx hb dJ1_charAt_3b067_12 ?_
  refine lv_i2c hx hb dJ1_charAt_3b067_13 ((tx_ok w hw).2 _ h2) ?_
  rw [hQ]
  exact jb_zret hx hb hr (tx_nar w hw _ h2) hlocks hP hD hS dJ1_charAt_3b067_14 rfl (Nat.le_of_ble_eq_true rfl) (Nat.le_of_ble_eq_true rfl)
set_option maxHeartbeats 4000000 in
set_option maxRecDepth 100000 in
theorem c_J0_isLatin1 (g : GG) (l : Launch) (w : Nat) (hw : w < 13) : MI g l yJ0_isLatin1_aae02 cJ0_isLatin1_aae02 1 (some .boolean) ({ frames := 0, cells := 0, slots := 0, locals := 0 } : Room) [.ref (g.2.2.1 w)] [] 0 0 1 [] := by
  refine MI.bg (by decide) (Nat.le_of_ble_eq_true rfl) ?_
  intro p e s m below meth c A Q hQ hx hb hr hml hown hts hlocks hmn hK hE hA hP hD hS ls hl
  have hl : lv_has ls 1 [(0, .ref (g.2.2.1 w))] := hl
  refine va_gets hx hb hE.2.2.2.2.2.1.1 hS hown (hts _ (WT_in 423 (by decide +kernel) (by decide +kernel))) (fun _ h9 => h9) dJ0_isLatin1_aae02_0 ?_
  refine lv_if_eq (tgt := 17) hx hb dJ0_isLatin1_aae02_3 (by decide) (fun c1 => absurd c1 (by decide)) (fun _ => ?_)
  refine lv_aload_n hx hb dJ0_isLatin1_aae02_6 rfl (lv_at hl 0 rfl) ?_
  refine vk_getf hx hb (hE.2.2.1 w hw).2.1 hS hown (hts _ (WT_in 610 (by decide +kernel) (by decide +kernel))) (fun _ h9 => h9) dJ0_isLatin1_aae02_7 ?_
  refine lv_if_ne (tgt := 17) hx hb dJ0_isLatin1_aae02_10 (by decide) (fun c1 => absurd rfl c1) (fun _ => ?_)
  refine lv_iconst (v := 1) hx hb dJ0_isLatin1_aae02_13 (by decide) ?_
  refine lv_goto (tgt := 18) hx hb dJ0_isLatin1_aae02_14 (by decide) ?_
  rw [hQ]
  exact jb_zret hx hb hr rfl hlocks hP hD hS dJ0_isLatin1_aae02_18 rfl (Nat.le_of_ble_eq_true rfl) (Nat.le_of_ble_eq_true rfl)
set_option maxHeartbeats 4000000 in
set_option maxRecDepth 100000 in
theorem c_J0_coder (g : GG) (l : Launch) (w : Nat) (hw : w < 13) : MI g l yJ0_coder_7d493 cJ0_coder_7d493 1 (some .byte) ({ frames := 0, cells := 0, slots := 0, locals := 0 } : Room) [.ref (g.2.2.1 w)] [] 0 0 0 [] := by
  refine MI.bg (by decide) (Nat.le_of_ble_eq_true rfl) ?_
  intro p e s m below meth c A Q hQ hx hb hr hml hown hts hlocks hmn hK hE hA hP hD hS ls hl
  have hl : lv_has ls 1 [(0, .ref (g.2.2.1 w))] := hl
  refine va_gets hx hb hE.2.2.2.2.2.1.1 hS hown (hts _ (WT_in 423 (by decide +kernel) (by decide +kernel))) (fun _ h9 => h9) dJ0_coder_7d493_0 ?_
  refine lv_if_eq (tgt := 13) hx hb dJ0_coder_7d493_3 (by decide) (fun c1 => absurd c1 (by decide)) (fun _ => ?_)
  refine lv_aload_n hx hb dJ0_coder_7d493_6 rfl (lv_at hl 0 rfl) ?_
  refine vk_getf hx hb (hE.2.2.1 w hw).2.1 hS hown (hts _ (WT_in 610 (by decide +kernel) (by decide +kernel))) (fun _ h9 => h9) dJ0_coder_7d493_7 ?_
  refine lv_goto (tgt := 14) hx hb dJ0_coder_7d493_10 (by decide) ?_
  rw [hQ]
  exact jb_zret hx hb hr rfl hlocks hP hD hS dJ0_coder_7d493_14 rfl (Nat.le_of_ble_eq_true rfl) (Nat.le_of_ble_eq_true rfl)
theorem jb_strR {g : GG} {A : Nat → Prop} {s : State} {H : Heap} {locs : List Loc} (hE : EV g A s s.heap) {w : Nat} (hw : w < 13) (hS : va_S A s.heap H locs) : ∃ cell : Cell, H[g.2.2.1 w]? = some cell ∧ cell.vm.isStatics = false ∧ s.vm.findClass RJ0 = some cell.cls := by
  obtain ⟨cell, h1, h2, h3, -⟩ := (hE.2.2.1 w hw).1.kept hS.2.1
  exact ⟨cell, h1, h2, h3⟩
set_option maxHeartbeats 4000000 in
set_option maxRecDepth 100000 in
theorem c_J0_length_8abf5 (g : GG) (l : Launch) (w : Nat) (z : Int32) (hF : F_J0_length_8abf5 w = some z) : MI g l yJ0_length_8abf5 cJ0_length_8abf5 1 (some .int) ({ frames := 1, cells := 0, slots := 0, locals := 20 } : Room) [.ref (g.2.2.1 w)] [] 0 0 z [] := by
  refine MI.bg (by decide) (Nat.le_of_ble_eq_true rfl) ?_
  intro p e s m below meth c A Q hQ hx hb hr hml hown hts hlocks hmn hK hE hA hP hD hS ls hl
  have hl : lv_has ls 1 [(0, .ref (g.2.2.1 w))] := hl
  have hw := ck_t hF
  have hF := ck_s hF
  cases hF
  refine lv_aload_n hx hb dJ0_length_8abf5_0 rfl (lv_at hl 0 rfl) ?_
  refine vk_getf hx hb (hE.2.2.1 w (of_decide_eq_true hw)).2.2.1 hS hown (hts _ (WT_in 609 (by decide +kernel) (by decide +kernel))) (fun _ h9 => h9) dJ0_length_8abf5_1 ?_
  refine va_tlen hx hb (hE.2.2.1 w (of_decide_eq_true hw)).2.2.2 hS rfl dJ0_length_8abf5_4 ?_
  refine lv_aload_n hx hb dJ0_length_8abf5_5 rfl (lv_at hl 0 rfl) ?_
  refine cl_iR (csR := []) (csF := []) (rest := [.int (nI (txL.getD w 0))]) hx hb hml hown hts hK hE hA hl hP hD hS (c_J0_coder g l w (of_decide_eq_true hw)) [] [] [] ⟨rfl, rfl, rfl, rfl, rfl, rfl, rfl⟩ (jb_strR hE (of_decide_eq_true hw) hS) 0 (jb_giV (WT_in 419 (by decide +kernel) (by decide +kernel)) (WT_in 420 (by decide +kernel) (by decide +kernel)) (WT_in 421 (by decide +kernel) (by decide +kernel)) (WT_in 8 (by decide +kernel) (by decide +kernel)) (WT_in 422 (by decide +kernel) (by decide +kernel))) ⟨rfl, rfl⟩ (by decide +kernel) ⟨⟨(Nat.le_of_ble_eq_true rfl), (Nat.le_of_ble_eq_true rfl)⟩, (Nat.le_of_ble_eq_true rfl), (Nat.le_of_ble_eq_true rfl)⟩ ⟨rfl, rfl⟩ (Nat.le_of_ble_eq_true rfl) dJ0_length_8abf5_6 (fun H locs hP hD hS => ?_)
  refine lv_ishr hx hb dJ0_length_8abf5_9 ?_
  rw [hQ]
  exact jb_iret hx hb hr hlocks hP hD hS dJ0_length_8abf5_10 (sb_shr0 _) (Nat.le_of_ble_eq_true rfl) (Nat.le_of_ble_eq_true rfl)
set_option maxHeartbeats 4000000 in
set_option maxRecDepth 100000 in
theorem c_J0_charAt_5068e (g : GG) (l : Launch) (w : Nat) (i : Int32) (z : Int32) (hF : F_J0_charAt_5068e w i = some z) : MI g l yJ0_charAt_5068e cJ0_charAt_5068e 2 (some .char) ({ frames := 3, cells := 0, slots := 0, locals := 64 } : Room) [.ref (g.2.2.1 w), .int i] [] 0 0 z [] := by
  refine MI.bg (by decide) (Nat.le_of_ble_eq_true rfl) ?_
  intro p e s m below meth c A Q hQ hx hb hr hml hown hts hlocks hmn hK hE hA hP hD hS ls hl
  have hl : lv_has ls 2 [(0, .ref (g.2.2.1 w)), (1, .int i)] := hl
  have hw := ck_t hF
  have hF := ck_s hF
  have hi := inb_in (ck_t hF)
  have hF := ck_s hF
  cases hF
  have h2 := (tx_lt (of_decide_eq_true hw) hi).2.2
  refine lv_aload_n hx hb dJ0_charAt_5068e_0 rfl (lv_at hl 0 rfl) ?_
  refine cl_iR (csR := []) (csF := []) (rest := []) hx hb hml hown hts hK hE hA hl hP hD hS (c_J0_isLatin1 g l w (of_decide_eq_true hw)) [] [] [] ⟨rfl, rfl, rfl, rfl, rfl, rfl, rfl⟩ (jb_strR hE (of_decide_eq_true hw) hS) 0 (jb_giV (WT_in 1184 (by decide +kernel) (by decide +kernel)) (WT_in 1185 (by decide +kernel) (by decide +kernel)) (WT_in 1186 (by decide +kernel) (by decide +kernel)) (WT_in 8 (by decide +kernel) (by decide +kernel)) (WT_in 1187 (by decide +kernel) (by decide +kernel))) ⟨rfl, rfl⟩ (by decide +kernel) ⟨⟨(Nat.le_of_ble_eq_true rfl), (Nat.le_of_ble_eq_true rfl)⟩, (Nat.le_of_ble_eq_true rfl), (Nat.le_of_ble_eq_true rfl)⟩ ⟨rfl, rfl⟩ (Nat.le_of_ble_eq_true rfl) dJ0_charAt_5068e_1 (fun H locs hP hD hS => ?_)
  refine lv_if_eq (tgt := 16) hx hb dJ0_charAt_5068e_4 (by decide) (fun c1 => absurd c1 (by decide)) (fun _ => ?_)
  refine lv_aload_n hx hb dJ0_charAt_5068e_7 rfl (lv_at hl 0 rfl) ?_
  refine vk_getf hx hb (hE.2.2.1 w (of_decide_eq_true hw)).2.2.1 hS hown (hts _ (WT_in 609 (by decide +kernel) (by decide +kernel))) (fun _ h9 => h9) dJ0_charAt_5068e_8 ?_
  refine lv_iload_n hx hb dJ0_charAt_5068e_11 rfl (lv_at hl 1 rfl) ?_
  refine cl_siG (csR := []) (csF := []) (rest := []) hx hb hml hown hts hK hE hA hl hP hD hS (c_J1_charAt g l w (of_decide_eq_true hw) i hi) [] [] [] ⟨rfl, rfl, rfl, rfl, rfl, rfl, rfl⟩ 2 (jb_giG (WT_in 1188 (by decide +kernel) (by decide +kernel)) (WT_in 1189 (by decide +kernel) (by decide +kernel)) (WT_in 23 (by decide +kernel) (by decide +kernel)) (WT_in 1190 (by decide +kernel) (by decide +kernel))) ⟨rfl, rfl⟩ (by decide +kernel) ⟨⟨(Nat.le_of_ble_eq_true rfl), (Nat.le_of_ble_eq_true rfl)⟩, (Nat.le_of_ble_eq_true rfl), (Nat.le_of_ble_eq_true rfl)⟩ ⟨rfl, rfl⟩ (Nat.le_of_ble_eq_true rfl) dJ0_charAt_5068e_12 (fun H locs hP hD hS => ?_)
  rw [hQ]
  exact jb_zret hx hb hr (tx_nar w (of_decide_eq_true hw) _ h2) hlocks hP hD hS dJ0_charAt_5068e_15 rfl (Nat.le_of_ble_eq_true rfl) (Nat.le_of_ble_eq_true rfl)
theorem isch_nar {v : Int32} (h : isch v = true) : narrow .char (.int v) = .int v := by
  rw [← (of_decide_eq_true h : (v.toUInt32 % 65536).toInt32 = v)]
  exact pk_nc _
/-! answers that are references to what does not move -/
def MR (g : GG) (l : Launch) (y : MethodName) (cc : ByteArray) (n : Nat) (ret : Option FieldType) (rm : Room) (av : List Value) (cs : List va_W) (mc ms : Nat) (res : Nat) (cs' : List va_W) : Prop :=
  ∀ sz : Nat, Met l y (wsM y cc n ret) rm (va_Pc av (PRE g cs sz)) (va_Qr (fun (_ : Unit) => True) (fun _ q t => q = res ∧ va_P g.1 vwCl cs'.flatten t.heap ∧ va_D (va_A cs.flatten sz) cs'.flatten) (va_A cs.flatten sz)) mc ms (va_A cs.flatten sz)
theorem MR.bg {g : GG} {l : Launch} {y : MethodName} {cc : ByteArray} {n : Nat} {ret : Option FieldType} {rm : Room} {av : List Value} {cs cs' : List va_W} {mc ms : Nat} {res : Nat} (hy : plainName y.cls = true) (hn : (lg_sl av).length ≤ n)
    (body : ∀ (p : Program) (e : Env) (s : State) (m : MethodId) (below : List Frame) (meth : Method) (c : Code) (A : Nat → Prop) (Q : State → Prop), Q = (MQ below (va_Qr (fun (_ : Unit) => True) (fun _ q t => q = res ∧ va_P g.1 vwCl cs'.flatten t.heap ∧ va_D A cs'.flatten) A) av.toArray s mc ms A) → p.tables.exec = Jvm.exec → c.code = cc → meth.sig.returnType = ret → c.maxLocals = n → s.vm.findClass y.cls = some m.cls → (∀ w ∈ WW, w.before av.toArray s = true) → meth.locks = false → meth.name = y.name → va_K g.1 vwCl (TY g) s → EV g A s s.heap → (∀ q : Nat, s.heap.size ≤ q → A q) → va_P g.1 vwCl cs.flatten s.heap → va_D A cs.flatten → va_S A s.heap s.heap [] →
      ∀ ls : Array Slot, lv_has ls n (lv_args 0 av) → W p l e rm s m av.toArray below meth c s.heap [] 0 0 Q (F0 m 0 ls [])) : MR g l y cc n ret rm av cs mc ms res cs' :=
  fun _ => jb_open (Qf := fun A => va_Qr (fun (_ : Unit) => True) (fun _ q t => q = res ∧ va_P g.1 vwCl cs'.flatten t.heap ∧ va_D A cs'.flatten) A) hy hn (fun p e s m below meth c A => body p e s m below meth c A _ rfl)
section RCALLS
variable {p : Program} {l : Launch} {e : Env} {R : Room} {s : State} {m : MethodId} {args : Array Value} {below : List Frame} {meth : Method} {c : Code} {H : Heap} {locs : List Loc} {cells slots : Nat} {Q : State → Prop}
  {cc bytes : ByteArray} {nL maxL index n mc ms pc : Nat} {own C : String} {y : MethodName} {ret : Option FieldType} {rm : Room} {b : Addr} {As rest st0 : List Value} {ls : Array Slot} {g : GG} {A : Nat → Prop} {cs csC csR csN csF : List va_W} {res : Nat} {lv : List (Nat × Value)}
theorem jb_aret {n : String} {q : Nat} (hx : p.tables.exec = Jvm.exec) (hb : c.code = cc) (hr : meth.sig.returnType = some (.object n)) (hlocks : meth.locks = false) (hP : va_P g.1 vwCl cs.flatten H) (hD : va_D A cs.flatten) (hS : va_S A s.heap H locs) (hdg : decode cc pc = .ok (.areturn, 1)) (hv : q = res) (hc : cells ≤ mc) (hs : slots ≤ ms) :
    W p l e R s m args below meth c H locs cells slots (MQ below (va_Qr (fun (_ : Unit) => True) (fun _ q t => q = res ∧ va_P g.1 vwCl cs.flatten t.heap ∧ va_D A cs.flatten) A) args s mc ms A) (F0 m pc ls [.ref q]) := by
  refine W.widen hc hs ?_
  exact W.aret (v := .ref q) hx hb hr (Or.inl ⟨_, rfl⟩) (Or.inr ⟨_, rfl⟩) (fun t ht hW => ⟨⟨(), q, rfl, trivial, hv, by rw [ht]; exact hP, hD⟩, hS.F ht⟩) hS.2.2 hdg hlocks
theorem cl_srG (hx : p.tables.exec = Jvm.exec) (hb : c.code = cc) (hml : c.maxLocals = nL) (hown : s.vm.findClass own = some m.cls) (hts : ∀ w ∈ WW, w.before args s = true) (hK : va_K g.1 vwCl (TY g) s) (hE : EV g A s s.heap) (hA : ∀ q : Nat, s.heap.size ≤ q → A q) (hl : lv_has ls nL lv)
    (hP : va_P g.1 vwCl cs.flatten H) (hD : va_D A cs.flatten) (hS : va_S A s.heap H locs) (hM : MR g l y bytes maxL ret rm As csC mc ms res csN) (isC isR isF : List Nat) (hJ : CJ cs csC csR csN csF isC isR isF) (n : Nat)
    (hG : GoodIn WW (va_wsS own index y (wsM y bytes maxL ret))) (hrm : rm.cells = mc ∧ rm.slots = ms) (hd : y.cls ≠ "java/lang/invoke/MethodHandle" ∧ y.cls ≠ "java/lang/invoke/VarHandle" ∧ (parseMethodDescriptor y.desc).map (fun d => d.parameters.length) = some n)
    (hRm : (rm.frames + 1 ≤ R.frames ∧ 8 + (maxL + 11) + rm.locals ≤ R.locals) ∧ cells + mc ≤ R.cells ∧ slots + ms ≤ R.slots) (hst : As.length = n ∧ st0 = As.reverse ++ rest) (hW : (rest.map fun v => v.category).sum ≤ 8) (hdg : decode cc pc = .ok (.invokestatic index, 3))
    (kk : ∀ (H1 : Heap) (locs1 : List Loc), va_P g.1 vwCl csF.flatten H1 → va_D A csF.flatten → va_S A s.heap H1 locs1 → W p l e R s m args below meth c H1 locs1 (cells + mc) (slots + ms) Q (F0 m (pc + 3) ls (.ref res :: rest))) : W p l e R s m args below meth c H locs cells slots Q (F0 m pc ls st0) := by
  obtain ⟨j1, j2, j3, j4, j5, j6, j7⟩ := hJ
  have hPc := fr_sub hP isC j1
  have hDc := fr_subD hD isC j2 j1
  have hFc := fr_free hD hS hA isC j1
  refine va_callr (va_runS (As := As) (rest := rest) ⟨hx, hb, hml, hown, hts⟩ (hM H.size) (va_cwS n hts hG rfl hrm.1 hrm.2 hd hRm.1) ⟨PRE.blind, PRE.go hPc hK hDc hE hS hFc⟩ rfl hst.1 hl.1 hst.2 (lv_room hW) hdg hRm.2) hS (fun q _ h => hFc q h) hFc (fun u q9 t H1 locs1 ht hvm hw hB hz1 hk1 hS1 => ?_)
  obtain ⟨rfl, hP1, hD1⟩ := hB
  rw [ht] at hP1
  obtain ⟨hP2, hD2⟩ := fr_join hP hD isC isR j1 j3 j4 j5 hk1 hFc hP1 hD1
  exact kk H1 locs1 (fr_sub hP2 isF j6) (fr_subD hD2 isF j7 j6) hS1
end RCALLS
def isb (x : Int32) : Bool := decide (x = 0 ∨ x = 1)
def tob (x : Int32) : Bool := decide (x = 1)
theorem isb_e {x : Int32} (h : isb x = true) : x = bi (tob x) := by
  rcases (of_decide_eq_true h : x = 0 ∨ x = 1) with rfl | rfl <;> decide
theorem isb_n {x : Int32} (h : isb x = true) : narrow .boolean (.int x) = .int x := by
  rcases (of_decide_eq_true h : x = 0 ∨ x = 1) with rfl | rfl <;> rfl
