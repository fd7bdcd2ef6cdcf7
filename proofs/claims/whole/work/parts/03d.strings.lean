/-! String.length and charAt of the texts that are read -/
theorem tx_ok : ∀ w, w < 13 → (txL.getD w 0 = (txB.getD w []).length ∧ ∀ j, j < txL.getD w 0 → (((txB.getD w []).getD j 0 &&& 255).toUInt32 % 65536).toInt32 = (txB.getD w []).getD j 0) := by decide +kernel
def F_J0_length (w : Nat) : Option Int32 := ck (decide (w < 13)) (some (nI (txL.getD w 0)))
def F_J0_charAt (w : Nat) (i : Int32) : Option Int32 := ck (decide (w < 13)) (ck (inb i (txL.getD w 0)) (some ((txB.getD w []).getD i.toNatClampNeg 0)))
theorem tx_lt {i : Int32} {w : Nat} (hw : w < 13) (h : vp_in i (txL.getD w 0)) : ¬ i < 0 ∧ i < nI (txL.getD w 0) ∧ i.toNatClampNeg < txL.getD w 0 := by
  have hb : ∀ w, w < 13 → txL.getD w 0 < 2 ^ 31 := by decide +kernel
  obtain ⟨j, hj, rfl⟩ := vp_in_of h (hb w hw)
  have := hb w hw
  exact ⟨nI_pos (by omega), nI_lt hj this, by rw [nI_clamp (by omega)]; exact hj⟩
theorem tx_nar (w : Nat) (hw : w < 13) (j : Nat) (hj : j < txL.getD w 0) : narrow .char (.int ((txB.getD w []).getD j 0)) = .int ((txB.getD w []).getD j 0) := by
  rw [← (tx_ok w hw).2 j hj]
  exact pk_nc _
set_option maxHeartbeats 4000000 in
set_option maxRecDepth 100000 in
theorem c_J3_checkIndex (g : GG) (l : Launch) (i n : Int32) (v : Value) (hv : v = .null ∨ ∃ t, v = .ref t) (h0 : ¬ i < 0) (h1 : i < n) : MI g l yJ3_checkIndex_8e157 cJ3_checkIndex_8e157 3 (some .int) ({ frames := 0, cells := 0, slots := 0, locals := 0 } : Room) [.int i, .int n, v] [] 0 0 i [] := by
  have hc : v.category = 1 := by
    rcases hv with rfl | ⟨t, rfl⟩ <;> rfl
  refine MI.bg (by decide) (by rcases hv with rfl | ⟨t, rfl⟩ <;> exact (Nat.le_of_ble_eq_true rfl)) ?_
  intro p e s m below meth c A Q hQ hx hb hr hml hown hts hlocks hmn hK hE hA hP hD hS ls hl
  have hl : lv_has ls 3 [(0, .int i), (1, .int n), (2, v)] := by
    rcases hv with rfl | ⟨t, rfl⟩ <;> exact hl
  refine lv_iload_n hx hb dJ3_checkIndex_8e157_0 rfl (lv_at hl 0 rfl) ?_
  refine lv_if_lt (tgt := 9) hx hb dJ3_checkIndex_8e157_1 (by decide) (fun c1 => absurd c1 h0) (fun c1 => ?_)
  refine lv_iload_n hx hb dJ3_checkIndex_8e157_4 rfl (lv_at hl 0 rfl) ?_
  refine lv_iload_n hx hb dJ3_checkIndex_8e157_5 rfl (lv_at hl 1 rfl) ?_
  refine lv_icmp_lt (tgt := 16) hx hb dJ3_checkIndex_8e157_6 (by decide) (fun c2 => ?_) (fun c2 => absurd h1 c2)
  refine lv_iload_n hx hb dJ3_checkIndex_8e157_16 rfl (lv_at hl 0 rfl) ?_
  rw [hQ]
  exact jb_iret hx hb hr hlocks hP hD hS dJ3_checkIndex_8e157_17 rfl (Nat.le_of_ble_eq_true rfl) (Nat.le_of_ble_eq_true rfl)
set_option maxHeartbeats 4000000 in
set_option maxRecDepth 100000 in
theorem c_J0_checkIndex (g : GG) (l : Launch) (i n : Int32) (h0 : ¬ i < 0) (h1 : i < n) : MV g l yJ0_checkIndex_df160 cJ0_checkIndex_df160 2 none ({ frames := 1, cells := 0, slots := 0, locals := 22 } : Room) [.int i, .int n] [] 0 0 [] := by
  refine MV.bg (by decide) (Nat.le_of_ble_eq_true rfl) ?_
  intro p e s m below meth c A Q hQ hx hb hr hml hown hts hlocks hmn hK hE hA hP hD hS ls hl
  have hl : lv_has ls 2 [(0, .int i), (1, .int n)] := hl
  refine lv_iload_n hx hb dJ0_checkIndex_df160_0 rfl (lv_at hl 0 rfl) ?_
  refine lv_iload_n hx hb dJ0_checkIndex_df160_1 rfl (lv_at hl 1 rfl) ?_
  have go : ∀ v : Value, (v = .null ∨ ∃ t, v = .ref t) → va_Z "jdk/internal/util/Preconditions" "SIOOBE_FORMATTER" "Ljava/util/function/BiFunction;" v A s s.heap → W p l e ({ frames := 1, cells := 0, slots := 0, locals := 22 } : Room) s m ([.int i, .int n] : List Value).toArray below meth c s.heap [] 0 0 Q (F0 m 2 ls [.int n, .int i]) := by
    intro v hv hZ
    refine va_gets hx hb hZ hS hown (hts _ (WT_in 401 (by decide +kernel) (by decide +kernel))) (fun _ h9 => h9) dJ0_checkIndex_df160_2 ?_
    refine cl_siG (csR := []) (csF := []) (rest := []) hx hb hml hown hts hK hE hA hl hP hD hS (c_J3_checkIndex g l i n v hv h0 h1) [] [] [] ⟨rfl, rfl, rfl, rfl, rfl, rfl, rfl⟩ 3 (jb_giG (WT_in 689 (by decide +kernel) (by decide +kernel)) (WT_in 690 (by decide +kernel) (by decide +kernel)) (WT_in 24 (by decide +kernel) (by decide +kernel)) (WT_in 691 (by decide +kernel) (by decide +kernel))) ⟨rfl, rfl⟩ (by decide +kernel) ⟨⟨(Nat.le_of_ble_eq_true rfl), (Nat.le_of_ble_eq_true rfl)⟩, (Nat.le_of_ble_eq_true rfl), (Nat.le_of_ble_eq_true rfl)⟩ ⟨rfl, rfl⟩ (Nat.le_of_ble_eq_true rfl) dJ0_checkIndex_df160_5 (fun H locs hP hD hS => ?_)
    refine lv_pop hx hb dJ0_checkIndex_df160_8 rfl ?_
    rw [hQ]
    exact jb_vret hx hb hr hlocks hP hD hS dJ0_checkIndex_df160_9 (Nat.le_of_ble_eq_true rfl) (Nat.le_of_ble_eq_true rfl)
  rcases hE.2.2.2.2.2.1.2 with h | ⟨t, h⟩
  · exact go _ (Or.inl rfl) h
  · exact go _ (Or.inr ⟨t, rfl⟩) h
set_option maxHeartbeats 4000000 in
set_option maxRecDepth 100000 in
theorem c_J1_charAt (g : GG) (l : Launch) (w : Nat) (hw : w < 13) (i : Int32) (hi : vp_in i (txL.getD w 0)) : MI g l yJ1_charAt_3b067 cJ1_charAt_3b067 2 (some .char) ({ frames := 2, cells := 0, slots := 0, locals := 43 } : Room) [.ref (g.2.2.2 w), .int i] [] 0 0 ((txB.getD w []).getD i.toNatClampNeg 0) [] := by
  refine MI.bg (by decide) (Nat.le_of_ble_eq_true rfl) ?_
  intro p e s m below meth c A Q hQ hx hb hr hml hown hts hlocks hmn hK hE hA hP hD hS ls hl
  have hl : lv_has ls 2 [(0, .ref (g.2.2.2 w)), (1, .int i)] := hl
  obtain ⟨h0, h1, h2⟩ := tx_lt hw hi
  have hT := (hE.2.2.1 w hw).2.2.2
  refine lv_iload_n hx hb dJ1_charAt_3b067_0 rfl (lv_at hl 1 rfl) ?_
  refine lv_aload_n hx hb dJ1_charAt_3b067_1 rfl (lv_at hl 0 rfl) ?_
  refine va_tlen hx hb hT hS rfl dJ1_charAt_3b067_2 ?_
  refine cl_svG (csR := []) (csF := []) (rest := []) hx hb hml hown hts hK hE hA hl hP hD hS (c_J0_checkIndex g l i (nI (txL.getD w 0)) h0 h1) [] [] [] ⟨rfl, rfl, rfl, rfl, rfl, rfl, rfl⟩ 2 (jb_giG (WT_in 1191 (by decide +kernel) (by decide +kernel)) (WT_in 687 (by decide +kernel) (by decide +kernel)) (WT_in 8 (by decide +kernel) (by decide +kernel)) (WT_in 688 (by decide +kernel) (by decide +kernel))) ⟨rfl, rfl⟩ (by decide +kernel) ⟨⟨(Nat.le_of_ble_eq_true rfl), (Nat.le_of_ble_eq_true rfl)⟩, (Nat.le_of_ble_eq_true rfl), (Nat.le_of_ble_eq_true rfl)⟩ ⟨rfl, rfl⟩ (Nat.le_of_ble_eq_true rfl) dJ1_charAt_3b067_3 (fun H locs hP hD hS => ?_)
  refine lv_aload_n hx hb dJ1_charAt_3b067_6 rfl (lv_at hl 0 rfl) ?_
  refine lv_iload_n hx hb dJ1_charAt_3b067_7 rfl (lv_at hl 1 rfl) ?_
  refine va_tb hx hb hT hS hi rfl dJ1_charAt_3b067_8 ?_
  refine lv_sipush (v := 255) hx hb dJ1_charAt_3b067_9 (by decide) ?_
  refine lv_iand hx hb dJ1_charAt_3b067_12 ?_
  refine lv_i2c hx hb dJ1_charAt_3b067_13 ((tx_ok w hw).2 _ h2) ?_
  rw [hQ]
  exact jb_zret hx hb hr (tx_nar w hw _ h2) hlocks hP hD hS dJ1_charAt_3b067_14 rfl (Nat.le_of_ble_eq_true rfl) (Nat.le_of_ble_eq_true rfl)
set_option maxHeartbeats 4000000 in
set_option maxRecDepth 100000 in
theorem c_J0_isLatin1 (g : GG) (l : Launch) (w : Nat) (hw : w < 13) : MI g l yJ0_isLatin1_aae02 cJ0_isLatin1_aae02 1 (some .boolean) ({ frames := 0, cells := 0, slots := 0, locals := 0 } : Room) [.ref (g.2.2.1 w)] [] 0 0 1 [] := by
  refine MI.bg (by decide) (Nat.le_of_ble_eq_true rfl) ?_
  intro p e s m below meth c A Q hQ hx hb hr hml hown hts hlocks hmn hK hE hA hP hD hS ls hl
  have hl : lv_has ls 1 [(0, .ref (g.2.2.1 w))] := hl
  refine va_gets hx hb hE.2.2.2.2.2.1.1 hS hown (hts _ (WT_in 423 (by decide +kernel) (by decide +kernel))) (fun _ h9 => h9) dJ0_isLatin1_aae02_0 ?_
  refine lv_if_eq (tgt := 17) hx hb dJ0_isLatin1_aae02_3 (by decide) (fun c1 => absurd c1 (by decide)) (fun _ => ?_)
  refine lv_aload_n hx hb dJ0_isLatin1_aae02_6 rfl (lv_at hl 0 rfl) ?_
  refine vk_getf hx hb (hE.2.2.1 w hw).2.1 hS hown (hts _ (WT_in 610 (by decide +kernel) (by decide +kernel))) (fun _ h9 => h9) dJ0_isLatin1_aae02_7 ?_
  refine lv_if_ne (tgt := 17) hx hb dJ0_isLatin1_aae02_10 (by decide) (fun c1 => absurd rfl c1) (fun _ => ?_)
  refine lv_iconst (v := 1) hx hb dJ0_isLatin1_aae02_13 (by decide) ?_
  refine lv_goto (tgt := 18) hx hb dJ0_isLatin1_aae02_14 (by decide) ?_
  rw [hQ]
  exact jb_zret hx hb hr rfl hlocks hP hD hS dJ0_isLatin1_aae02_18 rfl (Nat.le_of_ble_eq_true rfl) (Nat.le_of_ble_eq_true rfl)
set_option maxHeartbeats 4000000 in
set_option maxRecDepth 100000 in
theorem c_J0_coder (g : GG) (l : Launch) (w : Nat) (hw : w < 13) : MI g l yJ0_coder_7d493 cJ0_coder_7d493 1 (some .byte) ({ frames := 0, cells := 0, slots := 0, locals := 0 } : Room) [.ref (g.2.2.1 w)] [] 0 0 0 [] := by
  refine MI.bg (by decide) (Nat.le_of_ble_eq_true rfl) ?_
  intro p e s m below meth c A Q hQ hx hb hr hml hown hts hlocks hmn hK hE hA hP hD hS ls hl
  have hl : lv_has ls 1 [(0, .ref (g.2.2.1 w))] := hl
  refine va_gets hx hb hE.2.2.2.2.2.1.1 hS hown (hts _ (WT_in 423 (by decide +kernel) (by decide +kernel))) (fun _ h9 => h9) dJ0_coder_7d493_0 ?_
  refine lv_if_eq (tgt := 13) hx hb dJ0_coder_7d493_3 (by decide) (fun c1 => absurd c1 (by decide)) (fun _ => ?_)
  refine lv_aload_n hx hb dJ0_coder_7d493_6 rfl (lv_at hl 0 rfl) ?_
  refine vk_getf hx hb (hE.2.2.1 w hw).2.1 hS hown (hts _ (WT_in 610 (by decide +kernel) (by decide +kernel))) (fun _ h9 => h9) dJ0_coder_7d493_7 ?_
  refine lv_goto (tgt := 14) hx hb dJ0_coder_7d493_10 (by decide) ?_
  rw [hQ]
  exact jb_zret hx hb hr rfl hlocks hP hD hS dJ0_coder_7d493_14 rfl (Nat.le_of_ble_eq_true rfl) (Nat.le_of_ble_eq_true rfl)
theorem jb_strR {g : GG} {A : Nat → Prop} {s : State} {H : Heap} {locs : List Loc} (hE : EV g A s s.heap) {w : Nat} (hw : w < 13) (hS : va_S A s.heap H locs) : ∃ cell : Cell, H[g.2.2.1 w]? = some cell ∧ cell.vm.isStatics = false ∧ s.vm.findClass RJ0 = some cell.cls := by
  obtain ⟨cell, h1, h2, h3, -⟩ := (hE.2.2.1 w hw).1.kept hS.2.1
  exact ⟨cell, h1, h2, h3⟩
set_option maxHeartbeats 4000000 in
set_option maxRecDepth 100000 in
theorem c_J0_length_8abf5 (g : GG) (l : Launch) (w : Nat) (z : Int32) (hF : F_J0_length w = some z) : MI g l yJ0_length_8abf5 cJ0_length_8abf5 1 (some .int) ({ frames := 1, cells := 0, slots := 0, locals := 20 } : Room) [.ref (g.2.2.1 w)] [] 0 0 z [] := by
  refine MI.bg (by decide) (Nat.le_of_ble_eq_true rfl) ?_
  intro p e s m below meth c A Q hQ hx hb hr hml hown hts hlocks hmn hK hE hA hP hD hS ls hl
  have hl : lv_has ls 1 [(0, .ref (g.2.2.1 w))] := hl
  have hw := ck_t hF
  have hF := ck_s hF
  cases hF
  refine lv_aload_n hx hb dJ0_length_8abf5_0 rfl (lv_at hl 0 rfl) ?_
  refine vk_getf hx hb (hE.2.2.1 w (of_decide_eq_true hw)).2.2.1 hS hown (hts _ (WT_in 609 (by decide +kernel) (by decide +kernel))) (fun _ h9 => h9) dJ0_length_8abf5_1 ?_
  refine va_tlen hx hb (hE.2.2.1 w (of_decide_eq_true hw)).2.2.2 hS rfl dJ0_length_8abf5_4 ?_
  refine lv_aload_n hx hb dJ0_length_8abf5_5 rfl (lv_at hl 0 rfl) ?_
  refine cl_iR (csR := []) (csF := []) (rest := [.int (nI (txL.getD w 0))]) hx hb hml hown hts hK hE hA hl hP hD hS (c_J0_coder g l w (of_decide_eq_true hw)) [] [] [] ⟨rfl, rfl, rfl, rfl, rfl, rfl, rfl⟩ (jb_strR hE (of_decide_eq_true hw) hS) 0 (jb_giV (WT_in 419 (by decide +kernel) (by decide +kernel)) (WT_in 420 (by decide +kernel) (by decide +kernel)) (WT_in 421 (by decide +kernel) (by decide +kernel)) (WT_in 8 (by decide +kernel) (by decide +kernel)) (WT_in 422 (by decide +kernel) (by decide +kernel))) ⟨rfl, rfl⟩ (by decide +kernel) ⟨⟨(Nat.le_of_ble_eq_true rfl), (Nat.le_of_ble_eq_true rfl)⟩, (Nat.le_of_ble_eq_true rfl), (Nat.le_of_ble_eq_true rfl)⟩ ⟨rfl, rfl⟩ (Nat.le_of_ble_eq_true rfl) dJ0_length_8abf5_6 (fun H locs hP hD hS => ?_)
  refine lv_ishr hx hb dJ0_length_8abf5_9 ?_
  rw [hQ]
  exact jb_iret hx hb hr hlocks hP hD hS dJ0_length_8abf5_10 (sb_shr0 _) (Nat.le_of_ble_eq_true rfl) (Nat.le_of_ble_eq_true rfl)
set_option maxHeartbeats 4000000 in
set_option maxRecDepth 100000 in
theorem c_J0_charAt_5068e (g : GG) (l : Launch) (w : Nat) (i : Int32) (z : Int32) (hF : F_J0_charAt w i = some z) : MI g l yJ0_charAt_5068e cJ0_charAt_5068e 2 (some .char) ({ frames := 3, cells := 0, slots := 0, locals := 64 } : Room) [.ref (g.2.2.1 w), .int i] [] 0 0 z [] := by
  refine MI.bg (by decide) (Nat.le_of_ble_eq_true rfl) ?_
  intro p e s m below meth c A Q hQ hx hb hr hml hown hts hlocks hmn hK hE hA hP hD hS ls hl
  have hl : lv_has ls 2 [(0, .ref (g.2.2.1 w)), (1, .int i)] := hl
  have hw := ck_t hF
  have hF := ck_s hF
  have hi := inb_in (ck_t hF)
  have hF := ck_s hF
  cases hF
  have h2 := (tx_lt (of_decide_eq_true hw) hi).2.2
  refine lv_aload_n hx hb dJ0_charAt_5068e_0 rfl (lv_at hl 0 rfl) ?_
  refine cl_iR (csR := []) (csF := []) (rest := []) hx hb hml hown hts hK hE hA hl hP hD hS (c_J0_isLatin1 g l w (of_decide_eq_true hw)) [] [] [] ⟨rfl, rfl, rfl, rfl, rfl, rfl, rfl⟩ (jb_strR hE (of_decide_eq_true hw) hS) 0 (jb_giV (WT_in 1184 (by decide +kernel) (by decide +kernel)) (WT_in 1185 (by decide +kernel) (by decide +kernel)) (WT_in 1186 (by decide +kernel) (by decide +kernel)) (WT_in 8 (by decide +kernel) (by decide +kernel)) (WT_in 1187 (by decide +kernel) (by decide +kernel))) ⟨rfl, rfl⟩ (by decide +kernel) ⟨⟨(Nat.le_of_ble_eq_true rfl), (Nat.le_of_ble_eq_true rfl)⟩, (Nat.le_of_ble_eq_true rfl), (Nat.le_of_ble_eq_true rfl)⟩ ⟨rfl, rfl⟩ (Nat.le_of_ble_eq_true rfl) dJ0_charAt_5068e_1 (fun H locs hP hD hS => ?_)
  refine lv_if_eq (tgt := 16) hx hb dJ0_charAt_5068e_4 (by decide) (fun c1 => absurd c1 (by decide)) (fun _ => ?_)
  refine lv_aload_n hx hb dJ0_charAt_5068e_7 rfl (lv_at hl 0 rfl) ?_
  refine vk_getf hx hb (hE.2.2.1 w (of_decide_eq_true hw)).2.2.1 hS hown (hts _ (WT_in 609 (by decide +kernel) (by decide +kernel))) (fun _ h9 => h9) dJ0_charAt_5068e_8 ?_
  refine lv_iload_n hx hb dJ0_charAt_5068e_11 rfl (lv_at hl 1 rfl) ?_
  refine cl_siG (csR := []) (csF := []) (rest := []) hx hb hml hown hts hK hE hA hl hP hD hS (c_J1_charAt g l w (of_decide_eq_true hw) i hi) [] [] [] ⟨rfl, rfl, rfl, rfl, rfl, rfl, rfl⟩ 2 (jb_giG (WT_in 1188 (by decide +kernel) (by decide +kernel)) (WT_in 1189 (by decide +kernel) (by decide +kernel)) (WT_in 23 (by decide +kernel) (by decide +kernel)) (WT_in 1190 (by decide +kernel) (by decide +kernel))) ⟨rfl, rfl⟩ (by decide +kernel) ⟨⟨(Nat.le_of_ble_eq_true rfl), (Nat.le_of_ble_eq_true rfl)⟩, (Nat.le_of_ble_eq_true rfl), (Nat.le_of_ble_eq_true rfl)⟩ ⟨rfl, rfl⟩ (Nat.le_of_ble_eq_true rfl) dJ0_charAt_5068e_12 (fun H locs hP hD hS => ?_)
  rw [hQ]
  exact jb_zret hx hb hr (tx_nar w (of_decide_eq_true hw) _ h2) hlocks hP hD hS dJ0_charAt_5068e_15 rfl (Nat.le_of_ble_eq_true rfl) (Nat.le_of_ble_eq_true rfl)
