/-! the law's helpers: a call of the class, its answer in 'out', its exception as a number -/
theorem rl_is : RL = "JamBridgeLaw" := rfl
def wsW (y : MethodName) (cc : ByteArray) (n : Nat) (ret : Option FieldType) (hh : List (Nat × Nat × Nat × Nat)) : List Cond := Cond.codeWith y cc n ret hh :: WW2
def wO (g : GG) (q : Nat) (f : Nat → Int64) : va_W := [(q, .inl (g.2.1 4, 1, .inr (.inl f)))]
def wOD (g : GG) (q : Nat) (f : Nat → UInt64) : va_W := [(q, .inl (g.2.1 5, 1, .inr (.inr (.inr (.inl f)))))]
def MW {G : Type} (g : GG) (l : Launch) (y : MethodName) (cc : ByteArray) (n : Nat) (ret : Option FieldType) (hh : List (Nat × Nat × Nat × Nat)) (rm : Room) (av : List Value) (cs : List va_W) (mc ms : Nat) (rs : G → Option Value) (f : G → List va_W) (Pr : G → Prop) : Prop :=
  ∀ sz : Nat, Met l y (wsW y cc n ret hh) rm (va_Pc av (PRE g cs sz)) (QG g rs f Pr (va_A cs.flatten sz)) mc ms (va_A cs.flatten sz)
theorem MW.bg {G : Type} {g : GG} {l : Launch} {y : MethodName} {cc : ByteArray} {n : Nat} {ret : Option FieldType} {hh : List (Nat × Nat × Nat × Nat)} {rm : Room} {av : List Value} {cs : List va_W} {mc ms : Nat} {rs : G → Option Value} {f : G → List va_W} {Pr : G → Prop} (hy : plainName y.cls = true) (hn : (lg_sl av).length ≤ n)
    (body : ∀ (p : Program) (e : Env) (s : State) (m : MethodId) (below : List Frame) (meth : Method) (c : Code) (A : Nat → Prop) (Q : State → Prop), Q = (MQ below (QG g rs f Pr A) av.toArray s mc ms A) → p.tables.exec = Jvm.exec → c.code = cc → meth.sig.returnType = ret → c.maxLocals = n → s.vm.findClass y.cls = some m.cls → (∀ w ∈ WW, w.before av.toArray s = true) → (∀ w ∈ WW2, w.before av.toArray s = true) → meth.locks = false → c.exceptionTable.toList = tableOf hh → va_K g.1 vwCl (TY g) s → EV g A s s.heap → (∀ q : Nat, s.heap.size ≤ q → A q) → va_P g.1 vwCl cs.flatten s.heap → va_D A cs.flatten → va_S A s.heap s.heap [] →
      ∀ ls : Array Slot, lv_has ls n (lv_args 0 av) → W p l e rm s m av.toArray below meth c s.heap [] 0 0 Q (F0 m 0 ls [])) : MW g l y cc n ret hh rm av cs mc ms rs f Pr := by
  intro sz
  refine va_MetW (cc := cc) (maxL := n) (ret := ret) (hh := hh) hy rfl ?_
  intro p e s m args below meth c s₁ B hml hv
  obtain ⟨rfl, hsz, hP, hK, hD0, hE⟩ := hv
  subst hsz
  have hts := atoms_spec (ws := wsW y cc n ret hh) B.pre
  have htab := vx_table (x := y) B (hts _ List.mem_cons_self)
  have hl := lv_entry av (n := n) hn
  rw [lg_entry_eq]
  exact body p e s m below meth c (va_A cs.flatten s.heap.size) _ rfl B.exec B.bytes B.returns hml (findClass_of_methodNamed B.named) (fun w hw => hts w (List.mem_cons_of_mem _ (w2_in hw))) (fun w hw => hts w (List.mem_cons_of_mem _ hw)) B.notSynchronized htab hK hE (fun q h => Or.inr h) hP hD0.self va_S.rf _ hl
section LCALLS
variable {p : Program} {l : Launch} {e : Env} {R : Room} {s : State} {m : MethodId} {args : Array Value} {below : List Frame} {meth : Method} {c : Code} {H : Heap} {locs : List Loc} {cells slots : Nat} {Q : State → Prop}
  {cc bytes : ByteArray} {nL maxL index n mc ms pc : Nat} {own C : String} {y : MethodName} {ret : Option FieldType} {rm : Room} {b : Addr} {As rest st0 : List Value} {ls : Array Slot} {g : GG} {A : Nat → Prop} {cs csC csR : List va_W} {lv : List (Nat × Value)} {v : Option Value} {E : String} {G : Type} {res : G → (Option Value × List va_W) ⊕ (String × List va_W)} {Pr : G → Prop} {csN csF : G → List va_W}
/-- a call of a method that may throw and makes a world: it comes back -/
theorem cxg_n (hx : p.tables.exec = Jvm.exec) (hb : c.code = cc) (hml : c.maxLocals = nL) (hown : s.vm.findClass own = some m.cls) (hts : ∀ w ∈ WW2, w.before args s = true) (hK : va_K g.1 vwCl (TY g) s) (hE : EV g A s s.heap) (hA : ∀ q : Nat, s.heap.size ≤ q → A q) (hl : lv_has ls nL lv)
    (hP : va_P g.1 vwCl cs.flatten H) (hD : va_D A cs.flatten) (hS : va_S A s.heap H locs) (hM : MXG g l y bytes maxL ret rm (.ref b :: As) csC mc ms res Pr) (hres : ∀ x, res x = .inl (v, csN x)) (isC isR isF : List Nat) (hCs : isC.map (fun i => cs[i]?) = csC.map some ∧ va_nd isC = true) (hJ : ∀ x, CJ cs csC csR (csN x) (csF x) isC isR isF) (hR : RV csC b C) (n : Nat)
    (hG : GoodIn WW2 (wsV own index C y (wsL y bytes maxL ret))) (hrm : rm.cells = mc ∧ rm.slots = ms) (hd : y.cls = C ∧ y.cls ≠ "java/lang/invoke/MethodHandle" ∧ y.cls ≠ "java/lang/invoke/VarHandle" ∧ (parseMethodDescriptor y.desc).map (fun d => d.parameters.length) = some n)
    (hRm : (rm.frames + 1 ≤ R.frames ∧ 8 + (maxL + 11) + rm.locals ≤ R.locals) ∧ cells + mc ≤ R.cells ∧ slots + ms ≤ R.slots) (hst : As.length = n ∧ st0 = As.reverse ++ .ref b :: rest) (hW : (rest.map fun v => v.category).sum ≤ 8) (hdg : decode cc pc = .ok (.invokevirtual index, 3))
    (kk : ∀ (x : G) (H1 : Heap) (locs1 : List Loc), Pr x → va_P g.1 vwCl (csF x).flatten H1 → va_D A (csF x).flatten → va_S A s.heap H1 locs1 → W p l e R s m args below meth c H1 locs1 (cells + mc) (slots + ms) Q (F0 m (pc + 3) ls (v.toList ++ rest))) : W p l e R s m args below meth c H locs cells slots Q (F0 m pc ls st0) := by
  obtain ⟨q0, ci, q, fs, r1, r2, rfl⟩ := hR
  have hPc := fr_sub hP isC hCs.1
  have hDc := fr_subD hD isC hCs.2 hCs.1
  have hFc := fr_free hD hS hA isC hCs.1
  have hr := vx_runV (e := e) (m := m) (below := below) (meth := meth) (locs := locs) (g := F0 m pc ls st0) (As := As) (rest := rest) ⟨hx, hb, hml, hown, hts⟩ (hM H.size) (cwV n hts hG rfl hrm.1 hrm.2 hd hRm.1) ⟨PRE.blind, va_recv hK hPc r2 r1, PRE.go hPc hK hDc hE hS hFc⟩ rfl hst.1 hl.1 hst.2 (lv_room hW) hdg hRm.2
  intro T hT X
  rcases hr T hT X with ⟨v2, st₀, t, T', L, h0, X', hL, e1, e2, ⟨⟨x, v3, cs3, hv, hres3, hpr, hp, hdd⟩, hF⟩, st⟩ | ⟨q, st₀, t, T', L, E, ce, h0, X', hL, e1, e2, ⟨⟨x, cs3, hres3, -, -, -⟩, -⟩, -⟩
  · cases hv
    rw [hres x] at hres3
    cases hres3
    obtain ⟨j1, j2, j3, j4, j5, j6, j7⟩ := hJ x
    obtain ⟨k1, k2, k3⟩ := vx_keep h0 e1 hS (fun q _ h => hFc q h) hFc hL hF
    rw [← e1] at hp
    obtain ⟨hP2, hD2⟩ := fr_join hP hD isC isR j1 j3 j4 j5 k2 hFc hp hdd
    obtain ⟨t2, a1, b1⟩ := kk x T'.heap (locs ++ L) hpr (fr_sub hP2 isF j6) (fr_subD hD2 isF j7 j6) k3 T' rfl X'
    exact ⟨t2, st t2 a1, b1⟩
  · rw [hres x] at hres3
    cases hres3
theorem cxg_x (hx : p.tables.exec = Jvm.exec) (hb : c.code = cc) (hml : c.maxLocals = nL) (hown : s.vm.findClass own = some m.cls) (hts : ∀ w ∈ WW2, w.before args s = true) (hK : va_K g.1 vwCl (TY g) s) (hE : EV g A s s.heap) (hA : ∀ q : Nat, s.heap.size ≤ q → A q) (hl : lv_has ls nL lv)
    (hP : va_P g.1 vwCl cs.flatten H) (hD : va_D A cs.flatten) (hS : va_S A s.heap H locs) (hM : MXG g l y bytes maxL ret rm (.ref b :: As) csC mc ms res Pr) (hres : ∀ x, res x = .inr (E, csN x)) (isC isR isF : List Nat) (hCs : isC.map (fun i => cs[i]?) = csC.map some ∧ va_nd isC = true) (hJ : ∀ x, CJ cs csC csR (csN x) (csF x) isC isR isF) (hR : RV csC b C) (n : Nat)
    (hG : GoodIn WW2 (wsV own index C y (wsL y bytes maxL ret))) (hrm : rm.cells = mc ∧ rm.slots = ms) (hd : y.cls = C ∧ y.cls ≠ "java/lang/invoke/MethodHandle" ∧ y.cls ≠ "java/lang/invoke/VarHandle" ∧ (parseMethodDescriptor y.desc).map (fun d => d.parameters.length) = some n)
    (hRm : (rm.frames + 1 ≤ R.frames ∧ 8 + (maxL + 11) + rm.locals ≤ R.locals) ∧ cells + mc ≤ R.cells ∧ slots + ms ≤ R.slots) (hst : As.length = n ∧ st0 = As.reverse ++ .ref b :: rest) (hW : (rest.map fun v => v.category).sum ≤ 8) (hdg : decode cc pc = .ok (.invokevirtual index, 3))
    (kk : ∀ (x : G) (H1 : Heap) (locs1 : List Loc) (q9 : Addr) (ce : Cell), Pr x → va_P g.1 vwCl (csF x).flatten H1 → va_D A (csF x).flatten → va_S A s.heap H1 locs1 → H1[q9]? = some ce → ce.vm = .none → s.vm.findClass E = some ce.cls → vx_W p l e R s m args below meth c H1 locs1 (cells + mc) (slots + ms) Q (F0 m pc ls rest) q9) : W p l e R s m args below meth c H locs cells slots Q (F0 m pc ls st0) := by
  obtain ⟨q0, ci, q, fs, r1, r2, rfl⟩ := hR
  have hPc := fr_sub hP isC hCs.1
  have hDc := fr_subD hD isC hCs.2 hCs.1
  have hFc := fr_free hD hS hA isC hCs.1
  have hr := vx_runV (e := e) (m := m) (below := below) (meth := meth) (locs := locs) (g := F0 m pc ls st0) (As := As) (rest := rest) ⟨hx, hb, hml, hown, hts⟩ (hM H.size) (cwV n hts hG rfl hrm.1 hrm.2 hd hRm.1) ⟨PRE.blind, va_recv hK hPc r2 r1, PRE.go hPc hK hDc hE hS hFc⟩ rfl hst.1 hl.1 hst.2 (lv_room hW) hdg hRm.2
  intro T hT X
  rcases hr T hT X with ⟨v2, st₀, t, T', L, h0, X', hL, e1, e2, ⟨⟨x, v3, cs3, hv, hres3, -, -, -⟩, -⟩, -⟩ | ⟨q, st₀, t, T', L, E2, ce, h0, X', hL, e1, e2, ⟨⟨x, cs3, hres3, hpr, hp, hdd⟩, hF⟩, hce, hcv, hcl, st⟩
  · rw [hres x] at hres3
    cases hres3
  · rw [hres x] at hres3
    cases hres3
    obtain ⟨j1, j2, j3, j4, j5, j6, j7⟩ := hJ x
    obtain ⟨k1, k2, k3⟩ := vx_keep h0 e1 hS (fun q _ h => hFc q h) hFc hL hF
    rw [← e1] at hp
    obtain ⟨hP2, hD2⟩ := fr_join hP hD isC isR j1 j3 j4 j5 k2 hFc hp hdd
    obtain ⟨t2, a1, b1⟩ := kk x T'.heap (locs ++ L) q ce hpr (fr_sub hP2 isF j6) (fr_subD hD2 isF j7 j6) k3 (by rw [e1]; exact hce) hcv hcl T' rfl X'
    exact ⟨t2, st.trans a1, b1⟩
end LCALLS
def i2l (x : Int32) : Int64 := x.toInt64
set_option maxHeartbeats 4000000 in
set_option maxRecDepth 100000 in
theorem h_addSpan (g : GG) (l : Launch) (hst : l.stackTraces = false) (a a1 a2 a3 a4 a5 a6 a7 : Nat → Nat) (q3 : Nat) (fL : Nat → Int64) (x : Xv) (b : Bv) (h : Hv) (j : Jv) (p0 : Int32) (z : (Int32 × Xv × Bv × Hv × Jv) ⊕ (String × Xv × Bv × Hv × Jv)) (hF : F_X4_addSpan x b h j p0 = some z) (kz : Int32) (hk : Sum.elim (fun _ => some 0) (fun y => cd ["java/lang/IllegalArgumentException", "java/lang/UnsupportedOperationException"] 1 y.1) z = some kz) : MW (G := Unit) g l yL_addSpan cL_addSpan 4 (some .int) [(0, 9, 12, 13), (0, 9, 15, 15)] ({ frames := 8, cells := 1, slots := 6, locals := 187 } : Room) [.ref (a 0), .int p0, .ref q3] [wO g q3 fL, wX g a a1 a2 a3 a4 a5 a6 a7 x, wB g a1 b, wH g a4 h, wJ g a5 j] 1 6 (fun _ => some (.int kz)) (fun _ => Sum.elim (fun y => [wO g q3 (vp_updL fL (0 : Int32).toNatClampNeg (i2l y.1)), wX g a a1 a2 a3 a4 a5 a6 a7 y.2.1, wB g a1 y.2.2.1, wH g a4 y.2.2.2.1, wJ g a5 y.2.2.2.2]) (fun y => [wO g q3 fL, wX g a a1 a2 a3 a4 a5 a6 a7 y.2.1, wB g a1 y.2.2.1, wH g a4 y.2.2.2.1, wJ g a5 y.2.2.2.2]) z) (fun _ => True) := by
  refine MW.bg (by decide) (Nat.le_of_ble_eq_true rfl) ?_
  intro p e s m below meth c A Q hQ hx hb hr hml hown hts hts2 hlocks htab hK hE hA hP hD hS ls hl
  have hl : lv_has ls 4 [(0, .ref (a 0)), (1, .int p0), (2, .ref q3)] := hl
  refine lv_aload_n hx hb dL_addSpan_0 rfl (lv_at hl 2 rfl) ?_
  refine lv_iconst (v := 0) hx hb dL_addSpan_1 (by decide) ?_
  refine lv_aload_n hx hb dL_addSpan_2 rfl (lv_at hl 0 rfl) ?_
  refine lv_iload_n hx hb dL_addSpan_3 rfl (lv_at hl 1 rfl) ?_
  rcases z with y | y
  · have hkz : (0 : Int32) = kz := Option.some.inj hk
    subst hkz
    refine cx_n (v := some (.int y.1)) (csR := [wO g q3 fL]) (csF := [wO g q3 fL, wX g a a1 a2 a3 a4 a5 a6 a7 y.2.1, wB g a1 y.2.2.1, wH g a4 y.2.2.2.1, wJ g a5 y.2.2.2.2]) (rest := [.int 0, .ref q3]) hx hb hml hown hts hK hE hA hl hP hD hS (c_X4_addSpan g l hst a a1 a2 a3 a4 a5 a6 a7 x b h j p0 (.inl y) hF) [1, 2, 3, 4] [0] [0, 1, 2, 3, 4] ⟨rfl, rfl, rfl, rfl, rfl, rfl, rfl⟩ ⟨0, 8, _, _, rfl, rfl, rfl⟩ 1 (jb_giV (WT_in 718 (by decide +kernel) (by decide +kernel)) (WT_in 719 (by decide +kernel) (by decide +kernel)) (WT_in 720 (by decide +kernel) (by decide +kernel)) (WT_in 1 (by decide +kernel) (by decide +kernel)) (WT_in 721 (by decide +kernel) (by decide +kernel))) ⟨rfl, rfl⟩ (by decide +kernel) ⟨⟨(Nat.le_of_ble_eq_true rfl), (Nat.le_of_ble_eq_true rfl)⟩, (Nat.le_of_ble_eq_true rfl), (Nat.le_of_ble_eq_true rfl)⟩ ⟨rfl, rfl⟩ (Nat.le_of_ble_eq_true rfl) dL_addSpan_4 (fun H locs hP hD hS => ?_)
    refine W.eq (g2 := F0 m 7 ls [.int y.1, .int 0, .ref q3]) rfl ?_
    refine lv_i2l (v := i2l y.1) hx hb dL_addSpan_7 rfl ?_
    refine va_last hx hb hK hP hD hS 0 4 rfl rfl (show vp_in (0 : Int32) 1 by unfold vp_in; decide) dL_addSpan_8 (fun H locs hP hD hS => ?_)
    refine lv_goto (tgt := 18) hx hb dL_addSpan_9 (by decide) ?_
    refine lv_iconst (v := 0) hx hb dL_addSpan_18 (by decide) ?_
    rw [hQ]
    exact jg_zret hx hb hr rfl hlocks () hP hD hS dL_addSpan_19 rfl trivial (Nat.le_of_ble_eq_true rfl) (Nat.le_of_ble_eq_true rfl)
  · have hk : cd ["java/lang/IllegalArgumentException", "java/lang/UnsupportedOperationException"] 1 y.1 = some kz := hk
    refine cx_x (E := y.1) (csR := [wO g q3 fL]) (csF := [wO g q3 fL, wX g a a1 a2 a3 a4 a5 a6 a7 y.2.1, wB g a1 y.2.2.1, wH g a4 y.2.2.2.1, wJ g a5 y.2.2.2.2]) (rest := [.int 0, .ref q3]) hx hb hml hown hts hK hE hA hl hP hD hS (c_X4_addSpan g l hst a a1 a2 a3 a4 a5 a6 a7 x b h j p0 (.inr y) hF) [1, 2, 3, 4] [0] [0, 1, 2, 3, 4] ⟨rfl, rfl, rfl, rfl, rfl, rfl, rfl⟩ ⟨0, 8, _, _, rfl, rfl, rfl⟩ 1 (jb_giV (WT_in 718 (by decide +kernel) (by decide +kernel)) (WT_in 719 (by decide +kernel) (by decide +kernel)) (WT_in 720 (by decide +kernel) (by decide +kernel)) (WT_in 1 (by decide +kernel) (by decide +kernel)) (WT_in 721 (by decide +kernel) (by decide +kernel))) ⟨rfl, rfl⟩ (by decide +kernel) ⟨⟨(Nat.le_of_ble_eq_true rfl), (Nat.le_of_ble_eq_true rfl)⟩, (Nat.le_of_ble_eq_true rfl), (Nat.le_of_ble_eq_true rfl)⟩ ⟨rfl, rfl⟩ (Nat.le_of_ble_eq_true rfl) dL_addSpan_4 (fun H locs q9 ce hP hD hS h1 h2 h3 => ?_)
    have hN := hE.2.2.2.2.2.2
    rcases cd_2 hk with ⟨he, hz9⟩ | ⟨he, hz9⟩
    · rw [he] at h3
      subst hz9
      refine vx_catch (name := "java/lang/IllegalArgumentException") hown [] ⟨0, 9, 12, 13⟩ [⟨0, 9, 15, 15⟩] (htab.trans rfl) (fun z9 hz9 => by cases hz9) rfl (by decide) (hts _ (WT_in 716 (by decide +kernel) (by decide +kernel))) (va_Nw.use rfl (hN.2.2.2.2.2.1 ("java/lang/IllegalArgumentException", "java/lang/IllegalArgumentException") (by decide +kernel))) h1 h2 h3 ?_
      refine lv_astore_n (lv' := [(3, .ref q9), (0, .ref (a 0)), (1, .int p0), (2, .ref q3)]) hx hb dL_addSpan_12 rfl hl (by decide) rfl (fun ls hl => ?_)
      refine lv_iconst (v := 1) hx hb dL_addSpan_13 (by decide) ?_
      rw [hQ]
      exact jg_zret hx hb hr rfl hlocks () hP hD hS dL_addSpan_14 rfl trivial (Nat.le_of_ble_eq_true rfl) (Nat.le_of_ble_eq_true rfl)
    · rw [he] at h3
      subst hz9
      refine vx_catch (name := "java/lang/UnsupportedOperationException") hown [⟨0, 9, 12, 13⟩] ⟨0, 9, 15, 15⟩ [] (htab.trans rfl) (fun z9 hz9 => by
        simp only [List.mem_cons, List.not_mem_nil, or_false] at hz9
        rcases hz9 with rfl
        · exact Or.inr ⟨by decide, "java/lang/IllegalArgumentException", hts _ (WT_in 716 (by decide +kernel) (by decide +kernel)), hN.2.2.2.2.1 ("java/lang/UnsupportedOperationException", "java/lang/IllegalArgumentException") (by decide +kernel)⟩) rfl (by decide) (hts _ (WT_in 717 (by decide +kernel) (by decide +kernel))) (va_Nw.use rfl (hN.2.2.2.2.2.1 ("java/lang/UnsupportedOperationException", "java/lang/UnsupportedOperationException") (by decide +kernel))) h1 h2 h3 ?_
      refine lv_astore_n (lv' := [(3, .ref q9), (0, .ref (a 0)), (1, .int p0), (2, .ref q3)]) hx hb dL_addSpan_15 rfl hl (by decide) rfl (fun ls hl => ?_)
      refine lv_iconst (v := 2) hx hb dL_addSpan_16 (by decide) ?_
      rw [hQ]
      exact jg_zret hx hb hr rfl hlocks () hP hD hS dL_addSpan_17 rfl trivial (Nat.le_of_ble_eq_true rfl) (Nat.le_of_ble_eq_true rfl)
set_option maxHeartbeats 4000000 in
set_option maxRecDepth 100000 in
theorem h_removeLastSpan (g : GG) (l : Launch) (hst : l.stackTraces = false) (a a1 a2 a3 a4 a5 a6 a7 : Nat → Nat) (q3 : Nat) (fL : Nat → Int64) (x : Xv) (b : Bv) (h : Hv) (j : Jv)  (z : (Int32 × Xv × Bv × Hv × Jv) ⊕ (String × Xv × Bv × Hv × Jv)) (hF : F_X4_removeLastSpan x b h j  = some z) (kz : Int32) (hk : Sum.elim (fun _ => some 0) (fun y => cd ["java/lang/UnsupportedOperationException"] 1 y.1) z = some kz) : MW (G := Unit) g l yL_removeLastSpan cL_removeLastSpan 3 (some .int) [(0, 8, 11, 15)] ({ frames := 8, cells := 1, slots := 6, locals := 186 } : Room) [.ref (a 0), .ref q3] [wO g q3 fL, wX g a a1 a2 a3 a4 a5 a6 a7 x, wB g a1 b, wH g a4 h, wJ g a5 j] 1 6 (fun _ => some (.int kz)) (fun _ => Sum.elim (fun y => [wO g q3 (vp_updL fL (0 : Int32).toNatClampNeg (i2l y.1)), wX g a a1 a2 a3 a4 a5 a6 a7 y.2.1, wB g a1 y.2.2.1, wH g a4 y.2.2.2.1, wJ g a5 y.2.2.2.2]) (fun y => [wO g q3 fL, wX g a a1 a2 a3 a4 a5 a6 a7 y.2.1, wB g a1 y.2.2.1, wH g a4 y.2.2.2.1, wJ g a5 y.2.2.2.2]) z) (fun _ => True) := by
  refine MW.bg (by decide) (Nat.le_of_ble_eq_true rfl) ?_
  intro p e s m below meth c A Q hQ hx hb hr hml hown hts hts2 hlocks htab hK hE hA hP hD hS ls hl
  have hl : lv_has ls 3 [(0, .ref (a 0)), (1, .ref q3)] := hl
  refine lv_aload_n hx hb dL_removeLastSpan_0 rfl (lv_at hl 1 rfl) ?_
  refine lv_iconst (v := 0) hx hb dL_removeLastSpan_1 (by decide) ?_
  refine lv_aload_n hx hb dL_removeLastSpan_2 rfl (lv_at hl 0 rfl) ?_
  rcases z with y | y
  · have hkz : (0 : Int32) = kz := Option.some.inj hk
    subst hkz
    refine cx_n (v := some (.int y.1)) (csR := [wO g q3 fL]) (csF := [wO g q3 fL, wX g a a1 a2 a3 a4 a5 a6 a7 y.2.1, wB g a1 y.2.2.1, wH g a4 y.2.2.2.1, wJ g a5 y.2.2.2.2]) (rest := [.int 0, .ref q3]) hx hb hml hown hts hK hE hA hl hP hD hS (c_X4_removeLastSpan g l hst a a1 a2 a3 a4 a5 a6 a7 x b h j  (.inl y) hF) [1, 2, 3, 4] [0] [0, 1, 2, 3, 4] ⟨rfl, rfl, rfl, rfl, rfl, rfl, rfl⟩ ⟨0, 8, _, _, rfl, rfl, rfl⟩ 0 (jb_giV (WT_in 814 (by decide +kernel) (by decide +kernel)) (WT_in 815 (by decide +kernel) (by decide +kernel)) (WT_in 816 (by decide +kernel) (by decide +kernel)) (WT_in 1 (by decide +kernel) (by decide +kernel)) (WT_in 817 (by decide +kernel) (by decide +kernel))) ⟨rfl, rfl⟩ (by decide +kernel) ⟨⟨(Nat.le_of_ble_eq_true rfl), (Nat.le_of_ble_eq_true rfl)⟩, (Nat.le_of_ble_eq_true rfl), (Nat.le_of_ble_eq_true rfl)⟩ ⟨rfl, rfl⟩ (Nat.le_of_ble_eq_true rfl) dL_removeLastSpan_3 (fun H locs hP hD hS => ?_)
    refine W.eq (g2 := F0 m 6 ls [.int y.1, .int 0, .ref q3]) rfl ?_
    refine lv_i2l (v := i2l y.1) hx hb dL_removeLastSpan_6 rfl ?_
    refine va_last hx hb hK hP hD hS 0 4 rfl rfl (show vp_in (0 : Int32) 1 by unfold vp_in; decide) dL_removeLastSpan_7 (fun H locs hP hD hS => ?_)
    refine lv_goto (tgt := 14) hx hb dL_removeLastSpan_8 (by decide) ?_
    refine lv_iconst (v := 0) hx hb dL_removeLastSpan_14 (by decide) ?_
    rw [hQ]
    exact jg_zret hx hb hr rfl hlocks () hP hD hS dL_removeLastSpan_15 rfl trivial (Nat.le_of_ble_eq_true rfl) (Nat.le_of_ble_eq_true rfl)
  · have hk : cd ["java/lang/UnsupportedOperationException"] 1 y.1 = some kz := hk
    refine cx_x (E := y.1) (csR := [wO g q3 fL]) (csF := [wO g q3 fL, wX g a a1 a2 a3 a4 a5 a6 a7 y.2.1, wB g a1 y.2.2.1, wH g a4 y.2.2.2.1, wJ g a5 y.2.2.2.2]) (rest := [.int 0, .ref q3]) hx hb hml hown hts hK hE hA hl hP hD hS (c_X4_removeLastSpan g l hst a a1 a2 a3 a4 a5 a6 a7 x b h j  (.inr y) hF) [1, 2, 3, 4] [0] [0, 1, 2, 3, 4] ⟨rfl, rfl, rfl, rfl, rfl, rfl, rfl⟩ ⟨0, 8, _, _, rfl, rfl, rfl⟩ 0 (jb_giV (WT_in 814 (by decide +kernel) (by decide +kernel)) (WT_in 815 (by decide +kernel) (by decide +kernel)) (WT_in 816 (by decide +kernel) (by decide +kernel)) (WT_in 1 (by decide +kernel) (by decide +kernel)) (WT_in 817 (by decide +kernel) (by decide +kernel))) ⟨rfl, rfl⟩ (by decide +kernel) ⟨⟨(Nat.le_of_ble_eq_true rfl), (Nat.le_of_ble_eq_true rfl)⟩, (Nat.le_of_ble_eq_true rfl), (Nat.le_of_ble_eq_true rfl)⟩ ⟨rfl, rfl⟩ (Nat.le_of_ble_eq_true rfl) dL_removeLastSpan_3 (fun H locs q9 ce hP hD hS h1 h2 h3 => ?_)
    have hN := hE.2.2.2.2.2.2
    obtain ⟨he, hz9⟩ := cd_1 hk
    rw [he] at h3
    subst hz9
    refine vx_catch (name := "java/lang/UnsupportedOperationException") hown [] ⟨0, 8, 11, 15⟩ [] (htab.trans rfl) (fun z9 hz9 => by cases hz9) rfl (by decide) (hts _ (WT_in 717 (by decide +kernel) (by decide +kernel))) (va_Nw.use rfl (hN.2.2.2.2.2.1 ("java/lang/UnsupportedOperationException", "java/lang/UnsupportedOperationException") (by decide +kernel))) h1 h2 h3 ?_
    refine lv_astore_n (lv' := [(2, .ref q9), (0, .ref (a 0)), (1, .ref q3)]) hx hb dL_removeLastSpan_11 rfl hl (by decide) rfl (fun ls hl => ?_)
    refine lv_iconst (v := 1) hx hb dL_removeLastSpan_12 (by decide) ?_
    rw [hQ]
    exact jg_zret hx hb hr rfl hlocks () hP hD hS dL_removeLastSpan_13 rfl trivial (Nat.le_of_ble_eq_true rfl) (Nat.le_of_ble_eq_true rfl)
set_option maxHeartbeats 4000000 in
set_option maxRecDepth 100000 in
theorem h_pour (g : GG) (l : Launch) (hst : l.stackTraces = false) (a a1 a2 a3 a4 a5 a6 a7 : Nat → Nat) (q3 : Nat) (fL : Nat → Int64) (x : Xv) (b : Bv) (h : Hv) (j : Jv) (p0 : Int32) (p1 : Int32) (z : (Int32 × Xv × Bv × Hv × Jv) ⊕ (String × Xv × Bv × Hv × Jv)) (hF : F_X4_pour x b h j p0 p1 = some z) (kz : Int32) (hk : Sum.elim (fun _ => some 0) (fun y => cd ["java/lang/IndexOutOfBoundsException", "java/lang/IllegalArgumentException", "java/lang/UnsupportedOperationException"] 1 y.1) z = some kz) : MW (G := Unit) g l yL_pour cL_pour 5 (some .int) [(0, 10, 13, 25), (0, 10, 17, 13), (0, 10, 21, 15)] ({ frames := 8, cells := 1, slots := 6, locals := 188 } : Room) [.ref (a 0), .int p0, .int p1, .ref q3] [wO g q3 fL, wX g a a1 a2 a3 a4 a5 a6 a7 x, wB g a1 b, wH g a4 h, wJ g a5 j] 1 6 (fun _ => some (.int kz)) (fun _ => Sum.elim (fun y => [wO g q3 (vp_updL fL (0 : Int32).toNatClampNeg (i2l y.1)), wX g a a1 a2 a3 a4 a5 a6 a7 y.2.1, wB g a1 y.2.2.1, wH g a4 y.2.2.2.1, wJ g a5 y.2.2.2.2]) (fun y => [wO g q3 fL, wX g a a1 a2 a3 a4 a5 a6 a7 y.2.1, wB g a1 y.2.2.1, wH g a4 y.2.2.2.1, wJ g a5 y.2.2.2.2]) z) (fun _ => True) := by
  refine MW.bg (by decide) (Nat.le_of_ble_eq_true rfl) ?_
  intro p e s m below meth c A Q hQ hx hb hr hml hown hts hts2 hlocks htab hK hE hA hP hD hS ls hl
  have hl : lv_has ls 5 [(0, .ref (a 0)), (1, .int p0), (2, .int p1), (3, .ref q3)] := hl
  refine lv_aload_n hx hb dL_pour_0 rfl (lv_at hl 3 rfl) ?_
  refine lv_iconst (v := 0) hx hb dL_pour_1 (by decide) ?_
  refine lv_aload_n hx hb dL_pour_2 rfl (lv_at hl 0 rfl) ?_
  refine lv_iload_n hx hb dL_pour_3 rfl (lv_at hl 1 rfl) ?_
  refine lv_iload_n hx hb dL_pour_4 rfl (lv_at hl 2 rfl) ?_
  rcases z with y | y
  · have hkz : (0 : Int32) = kz := Option.some.inj hk
    subst hkz
    refine cx_n (v := some (.int y.1)) (csR := [wO g q3 fL]) (csF := [wO g q3 fL, wX g a a1 a2 a3 a4 a5 a6 a7 y.2.1, wB g a1 y.2.2.1, wH g a4 y.2.2.2.1, wJ g a5 y.2.2.2.2]) (rest := [.int 0, .ref q3]) hx hb hml hown hts hK hE hA hl hP hD hS (c_X4_pour g l hst a a1 a2 a3 a4 a5 a6 a7 x b h j p0 p1 (.inl y) hF) [1, 2, 3, 4] [0] [0, 1, 2, 3, 4] ⟨rfl, rfl, rfl, rfl, rfl, rfl, rfl⟩ ⟨0, 8, _, _, rfl, rfl, rfl⟩ 2 (jb_giV (WT_in 828 (by decide +kernel) (by decide +kernel)) (WT_in 829 (by decide +kernel) (by decide +kernel)) (WT_in 830 (by decide +kernel) (by decide +kernel)) (WT_in 1 (by decide +kernel) (by decide +kernel)) (WT_in 831 (by decide +kernel) (by decide +kernel))) ⟨rfl, rfl⟩ (by decide +kernel) ⟨⟨(Nat.le_of_ble_eq_true rfl), (Nat.le_of_ble_eq_true rfl)⟩, (Nat.le_of_ble_eq_true rfl), (Nat.le_of_ble_eq_true rfl)⟩ ⟨rfl, rfl⟩ (Nat.le_of_ble_eq_true rfl) dL_pour_5 (fun H locs hP hD hS => ?_)
    refine W.eq (g2 := F0 m 8 ls [.int y.1, .int 0, .ref q3]) rfl ?_
    refine lv_i2l (v := i2l y.1) hx hb dL_pour_8 rfl ?_
    refine va_last hx hb hK hP hD hS 0 4 rfl rfl (show vp_in (0 : Int32) 1 by unfold vp_in; decide) dL_pour_9 (fun H locs hP hD hS => ?_)
    refine lv_goto (tgt := 25) hx hb dL_pour_10 (by decide) ?_
    refine lv_iconst (v := 0) hx hb dL_pour_25 (by decide) ?_
    rw [hQ]
    exact jg_zret hx hb hr rfl hlocks () hP hD hS dL_pour_26 rfl trivial (Nat.le_of_ble_eq_true rfl) (Nat.le_of_ble_eq_true rfl)
  · have hk : cd ["java/lang/IndexOutOfBoundsException", "java/lang/IllegalArgumentException", "java/lang/UnsupportedOperationException"] 1 y.1 = some kz := hk
    refine cx_x (E := y.1) (csR := [wO g q3 fL]) (csF := [wO g q3 fL, wX g a a1 a2 a3 a4 a5 a6 a7 y.2.1, wB g a1 y.2.2.1, wH g a4 y.2.2.2.1, wJ g a5 y.2.2.2.2]) (rest := [.int 0, .ref q3]) hx hb hml hown hts hK hE hA hl hP hD hS (c_X4_pour g l hst a a1 a2 a3 a4 a5 a6 a7 x b h j p0 p1 (.inr y) hF) [1, 2, 3, 4] [0] [0, 1, 2, 3, 4] ⟨rfl, rfl, rfl, rfl, rfl, rfl, rfl⟩ ⟨0, 8, _, _, rfl, rfl, rfl⟩ 2 (jb_giV (WT_in 828 (by decide +kernel) (by decide +kernel)) (WT_in 829 (by decide +kernel) (by decide +kernel)) (WT_in 830 (by decide +kernel) (by decide +kernel)) (WT_in 1 (by decide +kernel) (by decide +kernel)) (WT_in 831 (by decide +kernel) (by decide +kernel))) ⟨rfl, rfl⟩ (by decide +kernel) ⟨⟨(Nat.le_of_ble_eq_true rfl), (Nat.le_of_ble_eq_true rfl)⟩, (Nat.le_of_ble_eq_true rfl), (Nat.le_of_ble_eq_true rfl)⟩ ⟨rfl, rfl⟩ (Nat.le_of_ble_eq_true rfl) dL_pour_5 (fun H locs q9 ce hP hD hS h1 h2 h3 => ?_)
    have hN := hE.2.2.2.2.2.2
    rcases cd_3 hk with ⟨he, hz9⟩ | ⟨he, hz9⟩ | ⟨he, hz9⟩
    · rw [he] at h3
      subst hz9
      refine vx_catch (name := "java/lang/IndexOutOfBoundsException") hown [] ⟨0, 10, 13, 25⟩ [⟨0, 10, 17, 13⟩, ⟨0, 10, 21, 15⟩] (htab.trans rfl) (fun z9 hz9 => by cases hz9) rfl (by decide) (hts _ (WT_in 825 (by decide +kernel) (by decide +kernel))) (va_Nw.use rfl (hN.2.2.2.2.2.1 ("java/lang/IndexOutOfBoundsException", "java/lang/IndexOutOfBoundsException") (by decide +kernel))) h1 h2 h3 ?_
      refine lv_astore (lv' := [(4, .ref q9), (0, .ref (a 0)), (1, .int p0), (2, .int p1), (3, .ref q3)]) hx hb dL_pour_13 hl (by decide) rfl (fun ls hl => ?_)
      refine lv_iconst (v := 1) hx hb dL_pour_15 (by decide) ?_
      rw [hQ]
      exact jg_zret hx hb hr rfl hlocks () hP hD hS dL_pour_16 rfl trivial (Nat.le_of_ble_eq_true rfl) (Nat.le_of_ble_eq_true rfl)
    · rw [he] at h3
      subst hz9
      refine vx_catch (name := "java/lang/IllegalArgumentException") hown [⟨0, 10, 13, 25⟩] ⟨0, 10, 17, 13⟩ [⟨0, 10, 21, 15⟩] (htab.trans rfl) (fun z9 hz9 => by
        simp only [List.mem_cons, List.not_mem_nil, or_false] at hz9
        rcases hz9 with rfl
        · exact Or.inr ⟨by decide, "java/lang/IndexOutOfBoundsException", hts _ (WT_in 825 (by decide +kernel) (by decide +kernel)), hN.2.2.2.2.1 ("java/lang/IllegalArgumentException", "java/lang/IndexOutOfBoundsException") (by decide +kernel)⟩) rfl (by decide) (hts _ (WT_in 716 (by decide +kernel) (by decide +kernel))) (va_Nw.use rfl (hN.2.2.2.2.2.1 ("java/lang/IllegalArgumentException", "java/lang/IllegalArgumentException") (by decide +kernel))) h1 h2 h3 ?_
      refine lv_astore (lv' := [(4, .ref q9), (0, .ref (a 0)), (1, .int p0), (2, .int p1), (3, .ref q3)]) hx hb dL_pour_17 hl (by decide) rfl (fun ls hl => ?_)
      refine lv_iconst (v := 2) hx hb dL_pour_19 (by decide) ?_
      rw [hQ]
      exact jg_zret hx hb hr rfl hlocks () hP hD hS dL_pour_20 rfl trivial (Nat.le_of_ble_eq_true rfl) (Nat.le_of_ble_eq_true rfl)
    · rw [he] at h3
      subst hz9
      refine vx_catch (name := "java/lang/UnsupportedOperationException") hown [⟨0, 10, 13, 25⟩, ⟨0, 10, 17, 13⟩] ⟨0, 10, 21, 15⟩ [] (htab.trans rfl) (fun z9 hz9 => by
        simp only [List.mem_cons, List.not_mem_nil, or_false] at hz9
        rcases hz9 with rfl | rfl
        · exact Or.inr ⟨by decide, "java/lang/IndexOutOfBoundsException", hts _ (WT_in 825 (by decide +kernel) (by decide +kernel)), hN.2.2.2.2.1 ("java/lang/UnsupportedOperationException", "java/lang/IndexOutOfBoundsException") (by decide +kernel)⟩
        · exact Or.inr ⟨by decide, "java/lang/IllegalArgumentException", hts _ (WT_in 716 (by decide +kernel) (by decide +kernel)), hN.2.2.2.2.1 ("java/lang/UnsupportedOperationException", "java/lang/IllegalArgumentException") (by decide +kernel)⟩) rfl (by decide) (hts _ (WT_in 717 (by decide +kernel) (by decide +kernel))) (va_Nw.use rfl (hN.2.2.2.2.2.1 ("java/lang/UnsupportedOperationException", "java/lang/UnsupportedOperationException") (by decide +kernel))) h1 h2 h3 ?_
      refine lv_astore (lv' := [(4, .ref q9), (0, .ref (a 0)), (1, .int p0), (2, .int p1), (3, .ref q3)]) hx hb dL_pour_21 hl (by decide) rfl (fun ls hl => ?_)
      refine lv_iconst (v := 3) hx hb dL_pour_23 (by decide) ?_
      rw [hQ]
      exact jg_zret hx hb hr rfl hlocks () hP hD hS dL_pour_24 rfl trivial (Nat.le_of_ble_eq_true rfl) (Nat.le_of_ble_eq_true rfl)
set_option maxHeartbeats 4000000 in
set_option maxRecDepth 100000 in
theorem h_mend (g : GG) (l : Launch) (hst : l.stackTraces = false) (a a1 a2 a3 a4 a5 a6 a7 : Nat → Nat) (q3 : Nat) (fL : Nat → Int64) (x : Xv) (b : Bv) (h : Hv) (j : Jv) (p0 : Int32) (p1 : Int32) (z : (Int32 × Xv × Bv × Hv × Jv) ⊕ (String × Xv × Bv × Hv × Jv)) (hF : F_X4_mend x b h j p0 p1 = some z) (kz : Int32) (hk : Sum.elim (fun _ => some 0) (fun y => cd ["java/lang/IndexOutOfBoundsException", "java/lang/IllegalArgumentException", "java/lang/UnsupportedOperationException"] 1 y.1) z = some kz) : MW (G := Unit) g l yL_mend cL_mend 5 (some .int) [(0, 10, 13, 25), (0, 10, 17, 13), (0, 10, 21, 15)] ({ frames := 8, cells := 1, slots := 6, locals := 188 } : Room) [.ref (a 0), .int p0, .int p1, .ref q3] [wO g q3 fL, wX g a a1 a2 a3 a4 a5 a6 a7 x, wB g a1 b, wH g a4 h, wJ g a5 j] 1 6 (fun _ => some (.int kz)) (fun _ => Sum.elim (fun y => [wO g q3 (vp_updL fL (0 : Int32).toNatClampNeg (i2l y.1)), wX g a a1 a2 a3 a4 a5 a6 a7 y.2.1, wB g a1 y.2.2.1, wH g a4 y.2.2.2.1, wJ g a5 y.2.2.2.2]) (fun y => [wO g q3 fL, wX g a a1 a2 a3 a4 a5 a6 a7 y.2.1, wB g a1 y.2.2.1, wH g a4 y.2.2.2.1, wJ g a5 y.2.2.2.2]) z) (fun _ => True) := by
  refine MW.bg (by decide) (Nat.le_of_ble_eq_true rfl) ?_
  intro p e s m below meth c A Q hQ hx hb hr hml hown hts hts2 hlocks htab hK hE hA hP hD hS ls hl
  have hl : lv_has ls 5 [(0, .ref (a 0)), (1, .int p0), (2, .int p1), (3, .ref q3)] := hl
  refine lv_aload_n hx hb dL_mend_0 rfl (lv_at hl 3 rfl) ?_
  refine lv_iconst (v := 0) hx hb dL_mend_1 (by decide) ?_
  refine lv_aload_n hx hb dL_mend_2 rfl (lv_at hl 0 rfl) ?_
  refine lv_iload_n hx hb dL_mend_3 rfl (lv_at hl 1 rfl) ?_
  refine lv_iload_n hx hb dL_mend_4 rfl (lv_at hl 2 rfl) ?_
  rcases z with y | y
  · have hkz : (0 : Int32) = kz := Option.some.inj hk
    subst hkz
    refine cx_n (v := some (.int y.1)) (csR := [wO g q3 fL]) (csF := [wO g q3 fL, wX g a a1 a2 a3 a4 a5 a6 a7 y.2.1, wB g a1 y.2.2.1, wH g a4 y.2.2.2.1, wJ g a5 y.2.2.2.2]) (rest := [.int 0, .ref q3]) hx hb hml hown hts hK hE hA hl hP hD hS (c_X4_mend g l hst a a1 a2 a3 a4 a5 a6 a7 x b h j p0 p1 (.inl y) hF) [1, 2, 3, 4] [0] [0, 1, 2, 3, 4] ⟨rfl, rfl, rfl, rfl, rfl, rfl, rfl⟩ ⟨0, 8, _, _, rfl, rfl, rfl⟩ 2 (jb_giV (WT_in 839 (by decide +kernel) (by decide +kernel)) (WT_in 840 (by decide +kernel) (by decide +kernel)) (WT_in 841 (by decide +kernel) (by decide +kernel)) (WT_in 1 (by decide +kernel) (by decide +kernel)) (WT_in 842 (by decide +kernel) (by decide +kernel))) ⟨rfl, rfl⟩ (by decide +kernel) ⟨⟨(Nat.le_of_ble_eq_true rfl), (Nat.le_of_ble_eq_true rfl)⟩, (Nat.le_of_ble_eq_true rfl), (Nat.le_of_ble_eq_true rfl)⟩ ⟨rfl, rfl⟩ (Nat.le_of_ble_eq_true rfl) dL_mend_5 (fun H locs hP hD hS => ?_)
    refine W.eq (g2 := F0 m 8 ls [.int y.1, .int 0, .ref q3]) rfl ?_
    refine lv_i2l (v := i2l y.1) hx hb dL_mend_8 rfl ?_
    refine va_last hx hb hK hP hD hS 0 4 rfl rfl (show vp_in (0 : Int32) 1 by unfold vp_in; decide) dL_mend_9 (fun H locs hP hD hS => ?_)
    refine lv_goto (tgt := 25) hx hb dL_mend_10 (by decide) ?_
    refine lv_iconst (v := 0) hx hb dL_mend_25 (by decide) ?_
    rw [hQ]
    exact jg_zret hx hb hr rfl hlocks () hP hD hS dL_mend_26 rfl trivial (Nat.le_of_ble_eq_true rfl) (Nat.le_of_ble_eq_true rfl)
  · have hk : cd ["java/lang/IndexOutOfBoundsException", "java/lang/IllegalArgumentException", "java/lang/UnsupportedOperationException"] 1 y.1 = some kz := hk
    refine cx_x (E := y.1) (csR := [wO g q3 fL]) (csF := [wO g q3 fL, wX g a a1 a2 a3 a4 a5 a6 a7 y.2.1, wB g a1 y.2.2.1, wH g a4 y.2.2.2.1, wJ g a5 y.2.2.2.2]) (rest := [.int 0, .ref q3]) hx hb hml hown hts hK hE hA hl hP hD hS (c_X4_mend g l hst a a1 a2 a3 a4 a5 a6 a7 x b h j p0 p1 (.inr y) hF) [1, 2, 3, 4] [0] [0, 1, 2, 3, 4] ⟨rfl, rfl, rfl, rfl, rfl, rfl, rfl⟩ ⟨0, 8, _, _, rfl, rfl, rfl⟩ 2 (jb_giV (WT_in 839 (by decide +kernel) (by decide +kernel)) (WT_in 840 (by decide +kernel) (by decide +kernel)) (WT_in 841 (by decide +kernel) (by decide +kernel)) (WT_in 1 (by decide +kernel) (by decide +kernel)) (WT_in 842 (by decide +kernel) (by decide +kernel))) ⟨rfl, rfl⟩ (by decide +kernel) ⟨⟨(Nat.le_of_ble_eq_true rfl), (Nat.le_of_ble_eq_true rfl)⟩, (Nat.le_of_ble_eq_true rfl), (Nat.le_of_ble_eq_true rfl)⟩ ⟨rfl, rfl⟩ (Nat.le_of_ble_eq_true rfl) dL_mend_5 (fun H locs q9 ce hP hD hS h1 h2 h3 => ?_)
    have hN := hE.2.2.2.2.2.2
    rcases cd_3 hk with ⟨he, hz9⟩ | ⟨he, hz9⟩ | ⟨he, hz9⟩
    · rw [he] at h3
      subst hz9
      refine vx_catch (name := "java/lang/IndexOutOfBoundsException") hown [] ⟨0, 10, 13, 25⟩ [⟨0, 10, 17, 13⟩, ⟨0, 10, 21, 15⟩] (htab.trans rfl) (fun z9 hz9 => by cases hz9) rfl (by decide) (hts _ (WT_in 825 (by decide +kernel) (by decide +kernel))) (va_Nw.use rfl (hN.2.2.2.2.2.1 ("java/lang/IndexOutOfBoundsException", "java/lang/IndexOutOfBoundsException") (by decide +kernel))) h1 h2 h3 ?_
      refine lv_astore (lv' := [(4, .ref q9), (0, .ref (a 0)), (1, .int p0), (2, .int p1), (3, .ref q3)]) hx hb dL_mend_13 hl (by decide) rfl (fun ls hl => ?_)
      refine lv_iconst (v := 1) hx hb dL_mend_15 (by decide) ?_
      rw [hQ]
      exact jg_zret hx hb hr rfl hlocks () hP hD hS dL_mend_16 rfl trivial (Nat.le_of_ble_eq_true rfl) (Nat.le_of_ble_eq_true rfl)
    · rw [he] at h3
      subst hz9
      refine vx_catch (name := "java/lang/IllegalArgumentException") hown [⟨0, 10, 13, 25⟩] ⟨0, 10, 17, 13⟩ [⟨0, 10, 21, 15⟩] (htab.trans rfl) (fun z9 hz9 => by
        simp only [List.mem_cons, List.not_mem_nil, or_false] at hz9
        rcases hz9 with rfl
        · exact Or.inr ⟨by decide, "java/lang/IndexOutOfBoundsException", hts _ (WT_in 825 (by decide +kernel) (by decide +kernel)), hN.2.2.2.2.1 ("java/lang/IllegalArgumentException", "java/lang/IndexOutOfBoundsException") (by decide +kernel)⟩) rfl (by decide) (hts _ (WT_in 716 (by decide +kernel) (by decide +kernel))) (va_Nw.use rfl (hN.2.2.2.2.2.1 ("java/lang/IllegalArgumentException", "java/lang/IllegalArgumentException") (by decide +kernel))) h1 h2 h3 ?_
      refine lv_astore (lv' := [(4, .ref q9), (0, .ref (a 0)), (1, .int p0), (2, .int p1), (3, .ref q3)]) hx hb dL_mend_17 hl (by decide) rfl (fun ls hl => ?_)
      refine lv_iconst (v := 2) hx hb dL_mend_19 (by decide) ?_
      rw [hQ]
      exact jg_zret hx hb hr rfl hlocks () hP hD hS dL_mend_20 rfl trivial (Nat.le_of_ble_eq_true rfl) (Nat.le_of_ble_eq_true rfl)
    · rw [he] at h3
      subst hz9
      refine vx_catch (name := "java/lang/UnsupportedOperationException") hown [⟨0, 10, 13, 25⟩, ⟨0, 10, 17, 13⟩] ⟨0, 10, 21, 15⟩ [] (htab.trans rfl) (fun z9 hz9 => by
        simp only [List.mem_cons, List.not_mem_nil, or_false] at hz9
        rcases hz9 with rfl | rfl
        · exact Or.inr ⟨by decide, "java/lang/IndexOutOfBoundsException", hts _ (WT_in 825 (by decide +kernel) (by decide +kernel)), hN.2.2.2.2.1 ("java/lang/UnsupportedOperationException", "java/lang/IndexOutOfBoundsException") (by decide +kernel)⟩
        · exact Or.inr ⟨by decide, "java/lang/IllegalArgumentException", hts _ (WT_in 716 (by decide +kernel) (by decide +kernel)), hN.2.2.2.2.1 ("java/lang/UnsupportedOperationException", "java/lang/IllegalArgumentException") (by decide +kernel)⟩) rfl (by decide) (hts _ (WT_in 717 (by decide +kernel) (by decide +kernel))) (va_Nw.use rfl (hN.2.2.2.2.2.1 ("java/lang/UnsupportedOperationException", "java/lang/UnsupportedOperationException") (by decide +kernel))) h1 h2 h3 ?_
      refine lv_astore (lv' := [(4, .ref q9), (0, .ref (a 0)), (1, .int p0), (2, .int p1), (3, .ref q3)]) hx hb dL_mend_21 hl (by decide) rfl (fun ls hl => ?_)
      refine lv_iconst (v := 3) hx hb dL_mend_23 (by decide) ?_
      rw [hQ]
      exact jg_zret hx hb hr rfl hlocks () hP hD hS dL_mend_24 rfl trivial (Nat.le_of_ble_eq_true rfl) (Nat.le_of_ble_eq_true rfl)
set_option maxHeartbeats 4000000 in
set_option maxRecDepth 100000 in
theorem h_jars (g : GG) (l : Launch) (hst : l.stackTraces = false) (a a1 a2 a3 a4 a5 a6 a7 : Nat → Nat) (q3 : Nat) (fL : Nat → Int64) (x : Xv) (b : Bv) (p0 : Int32) (z : (Int32) ⊕ (String)) (hF : F_X4_jars x b p0 = some z) (kz : Int32) (hk : Sum.elim (fun _ => some 0) (fun y => cd ["java/lang/IndexOutOfBoundsException"] 1 y) z = some kz) : MW (G := Unit) g l yL_jars cL_jars 4 (some .int) [(0, 9, 12, 25)] ({ frames := 8, cells := 1, slots := 6, locals := 132 } : Room) [.ref (a 0), .int p0, .ref q3] [wO g q3 fL, wX g a a1 a2 a3 a4 a5 a6 a7 x, wB g a1 b] 1 6 (fun _ => some (.int kz)) (fun _ => Sum.elim (fun y => [wO g q3 (vp_updL fL (0 : Int32).toNatClampNeg (i2l y)), wX g a a1 a2 a3 a4 a5 a6 a7 x, wB g a1 b]) (fun y => [wO g q3 fL, wX g a a1 a2 a3 a4 a5 a6 a7 x, wB g a1 b]) z) (fun _ => True) := by
  refine MW.bg (by decide) (Nat.le_of_ble_eq_true rfl) ?_
  intro p e s m below meth c A Q hQ hx hb hr hml hown hts hts2 hlocks htab hK hE hA hP hD hS ls hl
  have hl : lv_has ls 4 [(0, .ref (a 0)), (1, .int p0), (2, .ref q3)] := hl
  refine lv_aload_n hx hb dL_jars_0 rfl (lv_at hl 2 rfl) ?_
  refine lv_iconst (v := 0) hx hb dL_jars_1 (by decide) ?_
  refine lv_aload_n hx hb dL_jars_2 rfl (lv_at hl 0 rfl) ?_
  refine lv_iload_n hx hb dL_jars_3 rfl (lv_at hl 1 rfl) ?_
  rcases z with y | y
  · have hkz : (0 : Int32) = kz := Option.some.inj hk
    subst hkz
    refine cx_n (v := some (.int y)) (csR := [wO g q3 fL]) (csF := [wO g q3 fL, wX g a a1 a2 a3 a4 a5 a6 a7 x, wB g a1 b]) (rest := [.int 0, .ref q3]) hx hb hml hown hts hK hE hA hl hP hD hS (c_X4_jars g l hst a a1 a2 a3 a4 a5 a6 a7 x b p0 (.inl y) hF) [1, 2] [0] [0, 1, 2] ⟨rfl, rfl, rfl, rfl, rfl, rfl, rfl⟩ ⟨0, 8, _, _, rfl, rfl, rfl⟩ 1 (jb_giV (WT_in 850 (by decide +kernel) (by decide +kernel)) (WT_in 851 (by decide +kernel) (by decide +kernel)) (WT_in 852 (by decide +kernel) (by decide +kernel)) (WT_in 1 (by decide +kernel) (by decide +kernel)) (WT_in 853 (by decide +kernel) (by decide +kernel))) ⟨rfl, rfl⟩ (by decide +kernel) ⟨⟨(Nat.le_of_ble_eq_true rfl), (Nat.le_of_ble_eq_true rfl)⟩, (Nat.le_of_ble_eq_true rfl), (Nat.le_of_ble_eq_true rfl)⟩ ⟨rfl, rfl⟩ (Nat.le_of_ble_eq_true rfl) dL_jars_4 (fun H locs hP hD hS => ?_)
    refine W.eq (g2 := F0 m 7 ls [.int y, .int 0, .ref q3]) rfl ?_
    refine lv_i2l (v := i2l y) hx hb dL_jars_7 rfl ?_
    refine va_last hx hb hK hP hD hS 0 4 rfl rfl (show vp_in (0 : Int32) 1 by unfold vp_in; decide) dL_jars_8 (fun H locs hP hD hS => ?_)
    refine lv_goto (tgt := 15) hx hb dL_jars_9 (by decide) ?_
    refine lv_iconst (v := 0) hx hb dL_jars_15 (by decide) ?_
    rw [hQ]
    exact jg_zret hx hb hr rfl hlocks () hP hD hS dL_jars_16 rfl trivial (Nat.le_of_ble_eq_true rfl) (Nat.le_of_ble_eq_true rfl)
  · have hk : cd ["java/lang/IndexOutOfBoundsException"] 1 y = some kz := hk
    refine cx_x (E := y) (csR := [wO g q3 fL]) (csF := [wO g q3 fL, wX g a a1 a2 a3 a4 a5 a6 a7 x, wB g a1 b]) (rest := [.int 0, .ref q3]) hx hb hml hown hts hK hE hA hl hP hD hS (c_X4_jars g l hst a a1 a2 a3 a4 a5 a6 a7 x b p0 (.inr y) hF) [1, 2] [0] [0, 1, 2] ⟨rfl, rfl, rfl, rfl, rfl, rfl, rfl⟩ ⟨0, 8, _, _, rfl, rfl, rfl⟩ 1 (jb_giV (WT_in 850 (by decide +kernel) (by decide +kernel)) (WT_in 851 (by decide +kernel) (by decide +kernel)) (WT_in 852 (by decide +kernel) (by decide +kernel)) (WT_in 1 (by decide +kernel) (by decide +kernel)) (WT_in 853 (by decide +kernel) (by decide +kernel))) ⟨rfl, rfl⟩ (by decide +kernel) ⟨⟨(Nat.le_of_ble_eq_true rfl), (Nat.le_of_ble_eq_true rfl)⟩, (Nat.le_of_ble_eq_true rfl), (Nat.le_of_ble_eq_true rfl)⟩ ⟨rfl, rfl⟩ (Nat.le_of_ble_eq_true rfl) dL_jars_4 (fun H locs q9 ce hP hD hS h1 h2 h3 => ?_)
    have hN := hE.2.2.2.2.2.2
    obtain ⟨he, hz9⟩ := cd_1 hk
    rw [he] at h3
    subst hz9
    refine vx_catch (name := "java/lang/IndexOutOfBoundsException") hown [] ⟨0, 9, 12, 25⟩ [] (htab.trans rfl) (fun z9 hz9 => by cases hz9) rfl (by decide) (hts _ (WT_in 825 (by decide +kernel) (by decide +kernel))) (va_Nw.use rfl (hN.2.2.2.2.2.1 ("java/lang/IndexOutOfBoundsException", "java/lang/IndexOutOfBoundsException") (by decide +kernel))) h1 h2 h3 ?_
    refine lv_astore_n (lv' := [(3, .ref q9), (0, .ref (a 0)), (1, .int p0), (2, .ref q3)]) hx hb dL_jars_12 rfl hl (by decide) rfl (fun ls hl => ?_)
    refine lv_iconst (v := 1) hx hb dL_jars_13 (by decide) ?_
    rw [hQ]
    exact jg_zret hx hb hr rfl hlocks () hP hD hS dL_jars_14 rfl trivial (Nat.le_of_ble_eq_true rfl) (Nat.le_of_ble_eq_true rfl)
set_option maxHeartbeats 4000000 in
set_option maxRecDepth 100000 in
theorem h_age (g : GG) (l : Launch) (hst : l.stackTraces = false) (a a1 a2 a3 a4 a5 a6 a7 : Nat → Nat) (q3 : Nat) (fL : Nat → Int64) (x : Xv) (b : Bv) (p0 : Int32) (z : (Int32) ⊕ (String)) (hF : F_X4_age x b p0 = some z) (kz : Int32) (hk : Sum.elim (fun _ => some 0) (fun y => cd ["java/lang/IndexOutOfBoundsException"] 1 y) z = some kz) : MW (G := Unit) g l yL_age cL_age 4 (some .int) [(0, 9, 12, 25)] ({ frames := 8, cells := 1, slots := 6, locals := 132 } : Room) [.ref (a 0), .int p0, .ref q3] [wO g q3 fL, wX g a a1 a2 a3 a4 a5 a6 a7 x, wB g a1 b] 1 6 (fun _ => some (.int kz)) (fun _ => Sum.elim (fun y => [wO g q3 (vp_updL fL (0 : Int32).toNatClampNeg (i2l y)), wX g a a1 a2 a3 a4 a5 a6 a7 x, wB g a1 b]) (fun y => [wO g q3 fL, wX g a a1 a2 a3 a4 a5 a6 a7 x, wB g a1 b]) z) (fun _ => True) := by
  refine MW.bg (by decide) (Nat.le_of_ble_eq_true rfl) ?_
  intro p e s m below meth c A Q hQ hx hb hr hml hown hts hts2 hlocks htab hK hE hA hP hD hS ls hl
  have hl : lv_has ls 4 [(0, .ref (a 0)), (1, .int p0), (2, .ref q3)] := hl
  refine lv_aload_n hx hb dL_age_0 rfl (lv_at hl 2 rfl) ?_
  refine lv_iconst (v := 0) hx hb dL_age_1 (by decide) ?_
  refine lv_aload_n hx hb dL_age_2 rfl (lv_at hl 0 rfl) ?_
  refine lv_iload_n hx hb dL_age_3 rfl (lv_at hl 1 rfl) ?_
  rcases z with y | y
  · have hkz : (0 : Int32) = kz := Option.some.inj hk
    subst hkz
    refine cx_n (v := some (.int y)) (csR := [wO g q3 fL]) (csF := [wO g q3 fL, wX g a a1 a2 a3 a4 a5 a6 a7 x, wB g a1 b]) (rest := [.int 0, .ref q3]) hx hb hml hown hts hK hE hA hl hP hD hS (c_X4_age g l hst a a1 a2 a3 a4 a5 a6 a7 x b p0 (.inl y) hF) [1, 2] [0] [0, 1, 2] ⟨rfl, rfl, rfl, rfl, rfl, rfl, rfl⟩ ⟨0, 8, _, _, rfl, rfl, rfl⟩ 1 (jb_giV (WT_in 862 (by decide +kernel) (by decide +kernel)) (WT_in 863 (by decide +kernel) (by decide +kernel)) (WT_in 864 (by decide +kernel) (by decide +kernel)) (WT_in 1 (by decide +kernel) (by decide +kernel)) (WT_in 865 (by decide +kernel) (by decide +kernel))) ⟨rfl, rfl⟩ (by decide +kernel) ⟨⟨(Nat.le_of_ble_eq_true rfl), (Nat.le_of_ble_eq_true rfl)⟩, (Nat.le_of_ble_eq_true rfl), (Nat.le_of_ble_eq_true rfl)⟩ ⟨rfl, rfl⟩ (Nat.le_of_ble_eq_true rfl) dL_age_4 (fun H locs hP hD hS => ?_)
    refine W.eq (g2 := F0 m 7 ls [.int y, .int 0, .ref q3]) rfl ?_
    refine lv_i2l (v := i2l y) hx hb dL_age_7 rfl ?_
    refine va_last hx hb hK hP hD hS 0 4 rfl rfl (show vp_in (0 : Int32) 1 by unfold vp_in; decide) dL_age_8 (fun H locs hP hD hS => ?_)
    refine lv_goto (tgt := 15) hx hb dL_age_9 (by decide) ?_
    refine lv_iconst (v := 0) hx hb dL_age_15 (by decide) ?_
    rw [hQ]
    exact jg_zret hx hb hr rfl hlocks () hP hD hS dL_age_16 rfl trivial (Nat.le_of_ble_eq_true rfl) (Nat.le_of_ble_eq_true rfl)
  · have hk : cd ["java/lang/IndexOutOfBoundsException"] 1 y = some kz := hk
    refine cx_x (E := y) (csR := [wO g q3 fL]) (csF := [wO g q3 fL, wX g a a1 a2 a3 a4 a5 a6 a7 x, wB g a1 b]) (rest := [.int 0, .ref q3]) hx hb hml hown hts hK hE hA hl hP hD hS (c_X4_age g l hst a a1 a2 a3 a4 a5 a6 a7 x b p0 (.inr y) hF) [1, 2] [0] [0, 1, 2] ⟨rfl, rfl, rfl, rfl, rfl, rfl, rfl⟩ ⟨0, 8, _, _, rfl, rfl, rfl⟩ 1 (jb_giV (WT_in 862 (by decide +kernel) (by decide +kernel)) (WT_in 863 (by decide +kernel) (by decide +kernel)) (WT_in 864 (by decide +kernel) (by decide +kernel)) (WT_in 1 (by decide +kernel) (by decide +kernel)) (WT_in 865 (by decide +kernel) (by decide +kernel))) ⟨rfl, rfl⟩ (by decide +kernel) ⟨⟨(Nat.le_of_ble_eq_true rfl), (Nat.le_of_ble_eq_true rfl)⟩, (Nat.le_of_ble_eq_true rfl), (Nat.le_of_ble_eq_true rfl)⟩ ⟨rfl, rfl⟩ (Nat.le_of_ble_eq_true rfl) dL_age_4 (fun H locs q9 ce hP hD hS h1 h2 h3 => ?_)
    have hN := hE.2.2.2.2.2.2
    obtain ⟨he, hz9⟩ := cd_1 hk
    rw [he] at h3
    subst hz9
    refine vx_catch (name := "java/lang/IndexOutOfBoundsException") hown [] ⟨0, 9, 12, 25⟩ [] (htab.trans rfl) (fun z9 hz9 => by cases hz9) rfl (by decide) (hts _ (WT_in 825 (by decide +kernel) (by decide +kernel))) (va_Nw.use rfl (hN.2.2.2.2.2.1 ("java/lang/IndexOutOfBoundsException", "java/lang/IndexOutOfBoundsException") (by decide +kernel))) h1 h2 h3 ?_
    refine lv_astore_n (lv' := [(3, .ref q9), (0, .ref (a 0)), (1, .int p0), (2, .ref q3)]) hx hb dL_age_12 rfl hl (by decide) rfl (fun ls hl => ?_)
    refine lv_iconst (v := 1) hx hb dL_age_13 (by decide) ?_
    rw [hQ]
    exact jg_zret hx hb hr rfl hlocks () hP hD hS dL_age_14 rfl trivial (Nat.le_of_ble_eq_true rfl) (Nat.le_of_ble_eq_true rfl)
set_option maxHeartbeats 4000000 in
set_option maxRecDepth 100000 in
theorem h_cracks (g : GG) (l : Launch) (hst : l.stackTraces = false) (a a1 a2 a3 a4 a5 a6 a7 : Nat → Nat) (q3 : Nat) (fL : Nat → Int64) (x : Xv) (b : Bv) (p0 : Int32) (z : (Int32) ⊕ (String)) (hF : F_X4_cracks x b p0 = some z) (kz : Int32) (hk : Sum.elim (fun _ => some 0) (fun y => cd ["java/lang/IndexOutOfBoundsException"] 1 y) z = some kz) : MW (G := Unit) g l yL_cracks cL_cracks 4 (some .int) [(0, 9, 12, 25)] ({ frames := 8, cells := 1, slots := 6, locals := 132 } : Room) [.ref (a 0), .int p0, .ref q3] [wO g q3 fL, wX g a a1 a2 a3 a4 a5 a6 a7 x, wB g a1 b] 1 6 (fun _ => some (.int kz)) (fun _ => Sum.elim (fun y => [wO g q3 (vp_updL fL (0 : Int32).toNatClampNeg (i2l y)), wX g a a1 a2 a3 a4 a5 a6 a7 x, wB g a1 b]) (fun y => [wO g q3 fL, wX g a a1 a2 a3 a4 a5 a6 a7 x, wB g a1 b]) z) (fun _ => True) := by
  refine MW.bg (by decide) (Nat.le_of_ble_eq_true rfl) ?_
  intro p e s m below meth c A Q hQ hx hb hr hml hown hts hts2 hlocks htab hK hE hA hP hD hS ls hl
  have hl : lv_has ls 4 [(0, .ref (a 0)), (1, .int p0), (2, .ref q3)] := hl
  refine lv_aload_n hx hb dL_cracks_0 rfl (lv_at hl 2 rfl) ?_
  refine lv_iconst (v := 0) hx hb dL_cracks_1 (by decide) ?_
  refine lv_aload_n hx hb dL_cracks_2 rfl (lv_at hl 0 rfl) ?_
  refine lv_iload_n hx hb dL_cracks_3 rfl (lv_at hl 1 rfl) ?_
  rcases z with y | y
  · have hkz : (0 : Int32) = kz := Option.some.inj hk
    subst hkz
    refine cx_n (v := some (.int y)) (csR := [wO g q3 fL]) (csF := [wO g q3 fL, wX g a a1 a2 a3 a4 a5 a6 a7 x, wB g a1 b]) (rest := [.int 0, .ref q3]) hx hb hml hown hts hK hE hA hl hP hD hS (c_X4_cracks g l hst a a1 a2 a3 a4 a5 a6 a7 x b p0 (.inl y) hF) [1, 2] [0] [0, 1, 2] ⟨rfl, rfl, rfl, rfl, rfl, rfl, rfl⟩ ⟨0, 8, _, _, rfl, rfl, rfl⟩ 1 (jb_giV (WT_in 869 (by decide +kernel) (by decide +kernel)) (WT_in 870 (by decide +kernel) (by decide +kernel)) (WT_in 871 (by decide +kernel) (by decide +kernel)) (WT_in 1 (by decide +kernel) (by decide +kernel)) (WT_in 872 (by decide +kernel) (by decide +kernel))) ⟨rfl, rfl⟩ (by decide +kernel) ⟨⟨(Nat.le_of_ble_eq_true rfl), (Nat.le_of_ble_eq_true rfl)⟩, (Nat.le_of_ble_eq_true rfl), (Nat.le_of_ble_eq_true rfl)⟩ ⟨rfl, rfl⟩ (Nat.le_of_ble_eq_true rfl) dL_cracks_4 (fun H locs hP hD hS => ?_)
    refine W.eq (g2 := F0 m 7 ls [.int y, .int 0, .ref q3]) rfl ?_
    refine lv_i2l (v := i2l y) hx hb dL_cracks_7 rfl ?_
    refine va_last hx hb hK hP hD hS 0 4 rfl rfl (show vp_in (0 : Int32) 1 by unfold vp_in; decide) dL_cracks_8 (fun H locs hP hD hS => ?_)
    refine lv_goto (tgt := 15) hx hb dL_cracks_9 (by decide) ?_
    refine lv_iconst (v := 0) hx hb dL_cracks_15 (by decide) ?_
    rw [hQ]
    exact jg_zret hx hb hr rfl hlocks () hP hD hS dL_cracks_16 rfl trivial (Nat.le_of_ble_eq_true rfl) (Nat.le_of_ble_eq_true rfl)
  · have hk : cd ["java/lang/IndexOutOfBoundsException"] 1 y = some kz := hk
    refine cx_x (E := y) (csR := [wO g q3 fL]) (csF := [wO g q3 fL, wX g a a1 a2 a3 a4 a5 a6 a7 x, wB g a1 b]) (rest := [.int 0, .ref q3]) hx hb hml hown hts hK hE hA hl hP hD hS (c_X4_cracks g l hst a a1 a2 a3 a4 a5 a6 a7 x b p0 (.inr y) hF) [1, 2] [0] [0, 1, 2] ⟨rfl, rfl, rfl, rfl, rfl, rfl, rfl⟩ ⟨0, 8, _, _, rfl, rfl, rfl⟩ 1 (jb_giV (WT_in 869 (by decide +kernel) (by decide +kernel)) (WT_in 870 (by decide +kernel) (by decide +kernel)) (WT_in 871 (by decide +kernel) (by decide +kernel)) (WT_in 1 (by decide +kernel) (by decide +kernel)) (WT_in 872 (by decide +kernel) (by decide +kernel))) ⟨rfl, rfl⟩ (by decide +kernel) ⟨⟨(Nat.le_of_ble_eq_true rfl), (Nat.le_of_ble_eq_true rfl)⟩, (Nat.le_of_ble_eq_true rfl), (Nat.le_of_ble_eq_true rfl)⟩ ⟨rfl, rfl⟩ (Nat.le_of_ble_eq_true rfl) dL_cracks_4 (fun H locs q9 ce hP hD hS h1 h2 h3 => ?_)
    have hN := hE.2.2.2.2.2.2
    obtain ⟨he, hz9⟩ := cd_1 hk
    rw [he] at h3
    subst hz9
    refine vx_catch (name := "java/lang/IndexOutOfBoundsException") hown [] ⟨0, 9, 12, 25⟩ [] (htab.trans rfl) (fun z9 hz9 => by cases hz9) rfl (by decide) (hts _ (WT_in 825 (by decide +kernel) (by decide +kernel))) (va_Nw.use rfl (hN.2.2.2.2.2.1 ("java/lang/IndexOutOfBoundsException", "java/lang/IndexOutOfBoundsException") (by decide +kernel))) h1 h2 h3 ?_
    refine lv_astore_n (lv' := [(3, .ref q9), (0, .ref (a 0)), (1, .int p0), (2, .ref q3)]) hx hb dL_cracks_12 rfl hl (by decide) rfl (fun ls hl => ?_)
    refine lv_iconst (v := 1) hx hb dL_cracks_13 (by decide) ?_
    rw [hQ]
    exact jg_zret hx hb hr rfl hlocks () hP hD hS dL_cracks_14 rfl trivial (Nat.le_of_ble_eq_true rfl) (Nat.le_of_ble_eq_true rfl)
set_option maxHeartbeats 4000000 in
set_option maxRecDepth 100000 in
theorem h_stress (g : GG) (l : Launch) (hst : l.stackTraces = false) (a a1 a2 a3 a4 a5 a6 a7 : Nat → Nat) (q3 : Nat) (fL : Nat → Int64) (x : Xv) (b : Bv) (p0 : Int32) (z : (Int32) ⊕ (String)) (hF : F_X4_stress x b p0 = some z) (kz : Int32) (hk : Sum.elim (fun _ => some 0) (fun y => cd ["java/lang/IndexOutOfBoundsException"] 1 y) z = some kz) : MW (G := Unit) g l yL_stress cL_stress 4 (some .int) [(0, 9, 12, 25)] ({ frames := 8, cells := 1, slots := 6, locals := 132 } : Room) [.ref (a 0), .int p0, .ref q3] [wO g q3 fL, wX g a a1 a2 a3 a4 a5 a6 a7 x, wB g a1 b] 1 6 (fun _ => some (.int kz)) (fun _ => Sum.elim (fun y => [wO g q3 (vp_updL fL (0 : Int32).toNatClampNeg (i2l y)), wX g a a1 a2 a3 a4 a5 a6 a7 x, wB g a1 b]) (fun y => [wO g q3 fL, wX g a a1 a2 a3 a4 a5 a6 a7 x, wB g a1 b]) z) (fun _ => True) := by
  refine MW.bg (by decide) (Nat.le_of_ble_eq_true rfl) ?_
  intro p e s m below meth c A Q hQ hx hb hr hml hown hts hts2 hlocks htab hK hE hA hP hD hS ls hl
  have hl : lv_has ls 4 [(0, .ref (a 0)), (1, .int p0), (2, .ref q3)] := hl
  refine lv_aload_n hx hb dL_stress_0 rfl (lv_at hl 2 rfl) ?_
  refine lv_iconst (v := 0) hx hb dL_stress_1 (by decide) ?_
  refine lv_aload_n hx hb dL_stress_2 rfl (lv_at hl 0 rfl) ?_
  refine lv_iload_n hx hb dL_stress_3 rfl (lv_at hl 1 rfl) ?_
  rcases z with y | y
  · have hkz : (0 : Int32) = kz := Option.some.inj hk
    subst hkz
    refine cx_n (v := some (.int y)) (csR := [wO g q3 fL]) (csF := [wO g q3 fL, wX g a a1 a2 a3 a4 a5 a6 a7 x, wB g a1 b]) (rest := [.int 0, .ref q3]) hx hb hml hown hts hK hE hA hl hP hD hS (c_X4_stress g l hst a a1 a2 a3 a4 a5 a6 a7 x b p0 (.inl y) hF) [1, 2] [0] [0, 1, 2] ⟨rfl, rfl, rfl, rfl, rfl, rfl, rfl⟩ ⟨0, 8, _, _, rfl, rfl, rfl⟩ 1 (jb_giV (WT_in 876 (by decide +kernel) (by decide +kernel)) (WT_in 877 (by decide +kernel) (by decide +kernel)) (WT_in 878 (by decide +kernel) (by decide +kernel)) (WT_in 1 (by decide +kernel) (by decide +kernel)) (WT_in 879 (by decide +kernel) (by decide +kernel))) ⟨rfl, rfl⟩ (by decide +kernel) ⟨⟨(Nat.le_of_ble_eq_true rfl), (Nat.le_of_ble_eq_true rfl)⟩, (Nat.le_of_ble_eq_true rfl), (Nat.le_of_ble_eq_true rfl)⟩ ⟨rfl, rfl⟩ (Nat.le_of_ble_eq_true rfl) dL_stress_4 (fun H locs hP hD hS => ?_)
    refine W.eq (g2 := F0 m 7 ls [.int y, .int 0, .ref q3]) rfl ?_
    refine lv_i2l (v := i2l y) hx hb dL_stress_7 rfl ?_
    refine va_last hx hb hK hP hD hS 0 4 rfl rfl (show vp_in (0 : Int32) 1 by unfold vp_in; decide) dL_stress_8 (fun H locs hP hD hS => ?_)
    refine lv_goto (tgt := 15) hx hb dL_stress_9 (by decide) ?_
    refine lv_iconst (v := 0) hx hb dL_stress_15 (by decide) ?_
    rw [hQ]
    exact jg_zret hx hb hr rfl hlocks () hP hD hS dL_stress_16 rfl trivial (Nat.le_of_ble_eq_true rfl) (Nat.le_of_ble_eq_true rfl)
  · have hk : cd ["java/lang/IndexOutOfBoundsException"] 1 y = some kz := hk
    refine cx_x (E := y) (csR := [wO g q3 fL]) (csF := [wO g q3 fL, wX g a a1 a2 a3 a4 a5 a6 a7 x, wB g a1 b]) (rest := [.int 0, .ref q3]) hx hb hml hown hts hK hE hA hl hP hD hS (c_X4_stress g l hst a a1 a2 a3 a4 a5 a6 a7 x b p0 (.inr y) hF) [1, 2] [0] [0, 1, 2] ⟨rfl, rfl, rfl, rfl, rfl, rfl, rfl⟩ ⟨0, 8, _, _, rfl, rfl, rfl⟩ 1 (jb_giV (WT_in 876 (by decide +kernel) (by decide +kernel)) (WT_in 877 (by decide +kernel) (by decide +kernel)) (WT_in 878 (by decide +kernel) (by decide +kernel)) (WT_in 1 (by decide +kernel) (by decide +kernel)) (WT_in 879 (by decide +kernel) (by decide +kernel))) ⟨rfl, rfl⟩ (by decide +kernel) ⟨⟨(Nat.le_of_ble_eq_true rfl), (Nat.le_of_ble_eq_true rfl)⟩, (Nat.le_of_ble_eq_true rfl), (Nat.le_of_ble_eq_true rfl)⟩ ⟨rfl, rfl⟩ (Nat.le_of_ble_eq_true rfl) dL_stress_4 (fun H locs q9 ce hP hD hS h1 h2 h3 => ?_)
    have hN := hE.2.2.2.2.2.2
    obtain ⟨he, hz9⟩ := cd_1 hk
    rw [he] at h3
    subst hz9
    refine vx_catch (name := "java/lang/IndexOutOfBoundsException") hown [] ⟨0, 9, 12, 25⟩ [] (htab.trans rfl) (fun z9 hz9 => by cases hz9) rfl (by decide) (hts _ (WT_in 825 (by decide +kernel) (by decide +kernel))) (va_Nw.use rfl (hN.2.2.2.2.2.1 ("java/lang/IndexOutOfBoundsException", "java/lang/IndexOutOfBoundsException") (by decide +kernel))) h1 h2 h3 ?_
    refine lv_astore_n (lv' := [(3, .ref q9), (0, .ref (a 0)), (1, .int p0), (2, .ref q3)]) hx hb dL_stress_12 rfl hl (by decide) rfl (fun ls hl => ?_)
    refine lv_iconst (v := 1) hx hb dL_stress_13 (by decide) ?_
    rw [hQ]
    exact jg_zret hx hb hr rfl hlocks () hP hD hS dL_stress_14 rfl trivial (Nat.le_of_ble_eq_true rfl) (Nat.le_of_ble_eq_true rfl)
set_option maxHeartbeats 4000000 in
set_option maxRecDepth 100000 in
theorem h_strength (g : GG) (l : Launch) (hst : l.stackTraces = false) (a a1 a2 a3 a4 a5 a6 a7 : Nat → Nat) (q3 : Nat) (fL : Nat → Int64) (x : Xv) (b : Bv) (p0 : Int32) (z : (Int32) ⊕ (String)) (hF : F_X4_strength x b p0 = some z) (kz : Int32) (hk : Sum.elim (fun _ => some 0) (fun y => cd ["java/lang/IndexOutOfBoundsException"] 1 y) z = some kz) : MW (G := Unit) g l yL_strength cL_strength 4 (some .int) [(0, 9, 12, 25)] ({ frames := 8, cells := 1, slots := 6, locals := 132 } : Room) [.ref (a 0), .int p0, .ref q3] [wO g q3 fL, wX g a a1 a2 a3 a4 a5 a6 a7 x, wB g a1 b] 1 6 (fun _ => some (.int kz)) (fun _ => Sum.elim (fun y => [wO g q3 (vp_updL fL (0 : Int32).toNatClampNeg (i2l y)), wX g a a1 a2 a3 a4 a5 a6 a7 x, wB g a1 b]) (fun y => [wO g q3 fL, wX g a a1 a2 a3 a4 a5 a6 a7 x, wB g a1 b]) z) (fun _ => True) := by
  refine MW.bg (by decide) (Nat.le_of_ble_eq_true rfl) ?_
  intro p e s m below meth c A Q hQ hx hb hr hml hown hts hts2 hlocks htab hK hE hA hP hD hS ls hl
  have hl : lv_has ls 4 [(0, .ref (a 0)), (1, .int p0), (2, .ref q3)] := hl
  refine lv_aload_n hx hb dL_strength_0 rfl (lv_at hl 2 rfl) ?_
  refine lv_iconst (v := 0) hx hb dL_strength_1 (by decide) ?_
  refine lv_aload_n hx hb dL_strength_2 rfl (lv_at hl 0 rfl) ?_
  refine lv_iload_n hx hb dL_strength_3 rfl (lv_at hl 1 rfl) ?_
  rcases z with y | y
  · have hkz : (0 : Int32) = kz := Option.some.inj hk
    subst hkz
    refine cx_n (v := some (.int y)) (csR := [wO g q3 fL]) (csF := [wO g q3 fL, wX g a a1 a2 a3 a4 a5 a6 a7 x, wB g a1 b]) (rest := [.int 0, .ref q3]) hx hb hml hown hts hK hE hA hl hP hD hS (c_X4_strength g l hst a a1 a2 a3 a4 a5 a6 a7 x b p0 (.inl y) hF) [1, 2] [0] [0, 1, 2] ⟨rfl, rfl, rfl, rfl, rfl, rfl, rfl⟩ ⟨0, 8, _, _, rfl, rfl, rfl⟩ 1 (jb_giV (WT_in 883 (by decide +kernel) (by decide +kernel)) (WT_in 884 (by decide +kernel) (by decide +kernel)) (WT_in 885 (by decide +kernel) (by decide +kernel)) (WT_in 1 (by decide +kernel) (by decide +kernel)) (WT_in 886 (by decide +kernel) (by decide +kernel))) ⟨rfl, rfl⟩ (by decide +kernel) ⟨⟨(Nat.le_of_ble_eq_true rfl), (Nat.le_of_ble_eq_true rfl)⟩, (Nat.le_of_ble_eq_true rfl), (Nat.le_of_ble_eq_true rfl)⟩ ⟨rfl, rfl⟩ (Nat.le_of_ble_eq_true rfl) dL_strength_4 (fun H locs hP hD hS => ?_)
    refine W.eq (g2 := F0 m 7 ls [.int y, .int 0, .ref q3]) rfl ?_
    refine lv_i2l (v := i2l y) hx hb dL_strength_7 rfl ?_
    refine va_last hx hb hK hP hD hS 0 4 rfl rfl (show vp_in (0 : Int32) 1 by unfold vp_in; decide) dL_strength_8 (fun H locs hP hD hS => ?_)
    refine lv_goto (tgt := 15) hx hb dL_strength_9 (by decide) ?_
    refine lv_iconst (v := 0) hx hb dL_strength_15 (by decide) ?_
    rw [hQ]
    exact jg_zret hx hb hr rfl hlocks () hP hD hS dL_strength_16 rfl trivial (Nat.le_of_ble_eq_true rfl) (Nat.le_of_ble_eq_true rfl)
  · have hk : cd ["java/lang/IndexOutOfBoundsException"] 1 y = some kz := hk
    refine cx_x (E := y) (csR := [wO g q3 fL]) (csF := [wO g q3 fL, wX g a a1 a2 a3 a4 a5 a6 a7 x, wB g a1 b]) (rest := [.int 0, .ref q3]) hx hb hml hown hts hK hE hA hl hP hD hS (c_X4_strength g l hst a a1 a2 a3 a4 a5 a6 a7 x b p0 (.inr y) hF) [1, 2] [0] [0, 1, 2] ⟨rfl, rfl, rfl, rfl, rfl, rfl, rfl⟩ ⟨0, 8, _, _, rfl, rfl, rfl⟩ 1 (jb_giV (WT_in 883 (by decide +kernel) (by decide +kernel)) (WT_in 884 (by decide +kernel) (by decide +kernel)) (WT_in 885 (by decide +kernel) (by decide +kernel)) (WT_in 1 (by decide +kernel) (by decide +kernel)) (WT_in 886 (by decide +kernel) (by decide +kernel))) ⟨rfl, rfl⟩ (by decide +kernel) ⟨⟨(Nat.le_of_ble_eq_true rfl), (Nat.le_of_ble_eq_true rfl)⟩, (Nat.le_of_ble_eq_true rfl), (Nat.le_of_ble_eq_true rfl)⟩ ⟨rfl, rfl⟩ (Nat.le_of_ble_eq_true rfl) dL_strength_4 (fun H locs q9 ce hP hD hS h1 h2 h3 => ?_)
    have hN := hE.2.2.2.2.2.2
    obtain ⟨he, hz9⟩ := cd_1 hk
    rw [he] at h3
    subst hz9
    refine vx_catch (name := "java/lang/IndexOutOfBoundsException") hown [] ⟨0, 9, 12, 25⟩ [] (htab.trans rfl) (fun z9 hz9 => by cases hz9) rfl (by decide) (hts _ (WT_in 825 (by decide +kernel) (by decide +kernel))) (va_Nw.use rfl (hN.2.2.2.2.2.1 ("java/lang/IndexOutOfBoundsException", "java/lang/IndexOutOfBoundsException") (by decide +kernel))) h1 h2 h3 ?_
    refine lv_astore_n (lv' := [(3, .ref q9), (0, .ref (a 0)), (1, .int p0), (2, .ref q3)]) hx hb dL_strength_12 rfl hl (by decide) rfl (fun ls hl => ?_)
    refine lv_iconst (v := 1) hx hb dL_strength_13 (by decide) ?_
    rw [hQ]
    exact jg_zret hx hb hr rfl hlocks () hP hD hS dL_strength_14 rfl trivial (Nat.le_of_ble_eq_true rfl) (Nat.le_of_ble_eq_true rfl)
set_option maxHeartbeats 4000000 in
set_option maxRecDepth 100000 in
theorem h_load (g : GG) (l : Launch) (hst : l.stackTraces = false) (a a1 a2 a3 a4 a5 a6 a7 : Nat → Nat) (q3 : Nat) (fL : Nat → Int64) (x : Xv) (b : Bv) (p0 : Int32) (z : (Int32) ⊕ (String)) (hF : F_X4_load x b p0 = some z) (kz : Int32) (hk : Sum.elim (fun _ => some 0) (fun y => cd ["java/lang/IndexOutOfBoundsException"] 1 y) z = some kz) : MW (G := Unit) g l yL_load cL_load 4 (some .int) [(0, 9, 12, 25)] ({ frames := 8, cells := 1, slots := 6, locals := 132 } : Room) [.ref (a 0), .int p0, .ref q3] [wO g q3 fL, wX g a a1 a2 a3 a4 a5 a6 a7 x, wB g a1 b] 1 6 (fun _ => some (.int kz)) (fun _ => Sum.elim (fun y => [wO g q3 (vp_updL fL (0 : Int32).toNatClampNeg (i2l y)), wX g a a1 a2 a3 a4 a5 a6 a7 x, wB g a1 b]) (fun y => [wO g q3 fL, wX g a a1 a2 a3 a4 a5 a6 a7 x, wB g a1 b]) z) (fun _ => True) := by
  refine MW.bg (by decide) (Nat.le_of_ble_eq_true rfl) ?_
  intro p e s m below meth c A Q hQ hx hb hr hml hown hts hts2 hlocks htab hK hE hA hP hD hS ls hl
  have hl : lv_has ls 4 [(0, .ref (a 0)), (1, .int p0), (2, .ref q3)] := hl
  refine lv_aload_n hx hb dL_load_0 rfl (lv_at hl 2 rfl) ?_
  refine lv_iconst (v := 0) hx hb dL_load_1 (by decide) ?_
  refine lv_aload_n hx hb dL_load_2 rfl (lv_at hl 0 rfl) ?_
  refine lv_iload_n hx hb dL_load_3 rfl (lv_at hl 1 rfl) ?_
  rcases z with y | y
  · have hkz : (0 : Int32) = kz := Option.some.inj hk
    subst hkz
    refine cx_n (v := some (.int y)) (csR := [wO g q3 fL]) (csF := [wO g q3 fL, wX g a a1 a2 a3 a4 a5 a6 a7 x, wB g a1 b]) (rest := [.int 0, .ref q3]) hx hb hml hown hts hK hE hA hl hP hD hS (c_X4_load g l hst a a1 a2 a3 a4 a5 a6 a7 x b p0 (.inl y) hF) [1, 2] [0] [0, 1, 2] ⟨rfl, rfl, rfl, rfl, rfl, rfl, rfl⟩ ⟨0, 8, _, _, rfl, rfl, rfl⟩ 1 (jb_giV (WT_in 890 (by decide +kernel) (by decide +kernel)) (WT_in 891 (by decide +kernel) (by decide +kernel)) (WT_in 892 (by decide +kernel) (by decide +kernel)) (WT_in 1 (by decide +kernel) (by decide +kernel)) (WT_in 893 (by decide +kernel) (by decide +kernel))) ⟨rfl, rfl⟩ (by decide +kernel) ⟨⟨(Nat.le_of_ble_eq_true rfl), (Nat.le_of_ble_eq_true rfl)⟩, (Nat.le_of_ble_eq_true rfl), (Nat.le_of_ble_eq_true rfl)⟩ ⟨rfl, rfl⟩ (Nat.le_of_ble_eq_true rfl) dL_load_4 (fun H locs hP hD hS => ?_)
    refine W.eq (g2 := F0 m 7 ls [.int y, .int 0, .ref q3]) rfl ?_
    refine lv_i2l (v := i2l y) hx hb dL_load_7 rfl ?_
    refine va_last hx hb hK hP hD hS 0 4 rfl rfl (show vp_in (0 : Int32) 1 by unfold vp_in; decide) dL_load_8 (fun H locs hP hD hS => ?_)
    refine lv_goto (tgt := 15) hx hb dL_load_9 (by decide) ?_
    refine lv_iconst (v := 0) hx hb dL_load_15 (by decide) ?_
    rw [hQ]
    exact jg_zret hx hb hr rfl hlocks () hP hD hS dL_load_16 rfl trivial (Nat.le_of_ble_eq_true rfl) (Nat.le_of_ble_eq_true rfl)
  · have hk : cd ["java/lang/IndexOutOfBoundsException"] 1 y = some kz := hk
    refine cx_x (E := y) (csR := [wO g q3 fL]) (csF := [wO g q3 fL, wX g a a1 a2 a3 a4 a5 a6 a7 x, wB g a1 b]) (rest := [.int 0, .ref q3]) hx hb hml hown hts hK hE hA hl hP hD hS (c_X4_load g l hst a a1 a2 a3 a4 a5 a6 a7 x b p0 (.inr y) hF) [1, 2] [0] [0, 1, 2] ⟨rfl, rfl, rfl, rfl, rfl, rfl, rfl⟩ ⟨0, 8, _, _, rfl, rfl, rfl⟩ 1 (jb_giV (WT_in 890 (by decide +kernel) (by decide +kernel)) (WT_in 891 (by decide +kernel) (by decide +kernel)) (WT_in 892 (by decide +kernel) (by decide +kernel)) (WT_in 1 (by decide +kernel) (by decide +kernel)) (WT_in 893 (by decide +kernel) (by decide +kernel))) ⟨rfl, rfl⟩ (by decide +kernel) ⟨⟨(Nat.le_of_ble_eq_true rfl), (Nat.le_of_ble_eq_true rfl)⟩, (Nat.le_of_ble_eq_true rfl), (Nat.le_of_ble_eq_true rfl)⟩ ⟨rfl, rfl⟩ (Nat.le_of_ble_eq_true rfl) dL_load_4 (fun H locs q9 ce hP hD hS h1 h2 h3 => ?_)
    have hN := hE.2.2.2.2.2.2
    obtain ⟨he, hz9⟩ := cd_1 hk
    rw [he] at h3
    subst hz9
    refine vx_catch (name := "java/lang/IndexOutOfBoundsException") hown [] ⟨0, 9, 12, 25⟩ [] (htab.trans rfl) (fun z9 hz9 => by cases hz9) rfl (by decide) (hts _ (WT_in 825 (by decide +kernel) (by decide +kernel))) (va_Nw.use rfl (hN.2.2.2.2.2.1 ("java/lang/IndexOutOfBoundsException", "java/lang/IndexOutOfBoundsException") (by decide +kernel))) h1 h2 h3 ?_
    refine lv_astore_n (lv' := [(3, .ref q9), (0, .ref (a 0)), (1, .int p0), (2, .ref q3)]) hx hb dL_load_12 rfl hl (by decide) rfl (fun ls hl => ?_)
    refine lv_iconst (v := 1) hx hb dL_load_13 (by decide) ?_
    rw [hQ]
    exact jg_zret hx hb hr rfl hlocks () hP hD hS dL_load_14 rfl trivial (Nat.le_of_ble_eq_true rfl) (Nat.le_of_ble_eq_true rfl)
set_option maxHeartbeats 4000000 in
set_option maxRecDepth 100000 in
theorem h_isStrained (g : GG) (l : Launch) (hst : l.stackTraces = false) (a a1 a2 a3 a4 a5 a6 a7 : Nat → Nat) (q3 : Nat) (fL : Nat → Int64) (x : Xv) (b : Bv) (p0 : Int32) (z : (Bool) ⊕ (String)) (hF : F_X4_isStrained x b p0 = some z) (kz : Int32) (hk : Sum.elim (fun _ => some 0) (fun y => cd ["java/lang/IndexOutOfBoundsException"] 1 y) z = some kz) : MW (G := Unit) g l yL_isStrained cL_isStrained 4 (some .int) [(0, 16, 19, 25)] ({ frames := 8, cells := 1, slots := 6, locals := 132 } : Room) [.ref (a 0), .int p0, .ref q3] [wO g q3 fL, wX g a a1 a2 a3 a4 a5 a6 a7 x, wB g a1 b] 1 6 (fun _ => some (.int kz)) (fun _ => Sum.elim (fun y => [wO g q3 (vp_updL fL (0 : Int32).toNatClampNeg (i2l (bi y))), wX g a a1 a2 a3 a4 a5 a6 a7 x, wB g a1 b]) (fun y => [wO g q3 fL, wX g a a1 a2 a3 a4 a5 a6 a7 x, wB g a1 b]) z) (fun _ => True) := by
  refine MW.bg (by decide) (Nat.le_of_ble_eq_true rfl) ?_
  intro p e s m below meth c A Q hQ hx hb hr hml hown hts hts2 hlocks htab hK hE hA hP hD hS ls hl
  have hl : lv_has ls 4 [(0, .ref (a 0)), (1, .int p0), (2, .ref q3)] := hl
  refine lv_aload_n hx hb dL_isStrained_0 rfl (lv_at hl 2 rfl) ?_
  refine lv_iconst (v := 0) hx hb dL_isStrained_1 (by decide) ?_
  refine lv_aload_n hx hb dL_isStrained_2 rfl (lv_at hl 0 rfl) ?_
  refine lv_iload_n hx hb dL_isStrained_3 rfl (lv_at hl 1 rfl) ?_
  rcases z with y | y
  · have hkz : (0 : Int32) = kz := Option.some.inj hk
    subst hkz
    refine cx_n (v := some (.int (bi y))) (csR := [wO g q3 fL]) (csF := [wO g q3 fL, wX g a a1 a2 a3 a4 a5 a6 a7 x, wB g a1 b]) (rest := [.int 0, .ref q3]) hx hb hml hown hts hK hE hA hl hP hD hS (c_X4_isStrained g l hst a a1 a2 a3 a4 a5 a6 a7 x b p0 (.inl y) hF) [1, 2] [0] [0, 1, 2] ⟨rfl, rfl, rfl, rfl, rfl, rfl, rfl⟩ ⟨0, 8, _, _, rfl, rfl, rfl⟩ 1 (jb_giV (WT_in 897 (by decide +kernel) (by decide +kernel)) (WT_in 898 (by decide +kernel) (by decide +kernel)) (WT_in 899 (by decide +kernel) (by decide +kernel)) (WT_in 1 (by decide +kernel) (by decide +kernel)) (WT_in 900 (by decide +kernel) (by decide +kernel))) ⟨rfl, rfl⟩ (by decide +kernel) ⟨⟨(Nat.le_of_ble_eq_true rfl), (Nat.le_of_ble_eq_true rfl)⟩, (Nat.le_of_ble_eq_true rfl), (Nat.le_of_ble_eq_true rfl)⟩ ⟨rfl, rfl⟩ (Nat.le_of_ble_eq_true rfl) dL_isStrained_4 (fun H locs hP hD hS => ?_)
    refine W.eq (g2 := F0 m 7 ls [.int (bi y), .int 0, .ref q3]) rfl ?_
    cases y
    · refine lv_if_eq (tgt := 14) hx hb dL_isStrained_7 (by decide) (fun _ => ?_) (fun c1 => absurd rfl c1)
      refine lv_lconst (v := 0) hx hb dL_isStrained_14 (by decide) ?_
      refine W.eq (g2 := F0 m 15 ls [.long (i2l (bi false)), .int 0, .ref q3]) (congrArg (fun z => F0 m 15 ls [.long z, .int 0, .ref q3]) (show (0 : Int64) = i2l (bi false) by decide)) ?_
      refine va_last hx hb hK hP hD hS 0 4 rfl rfl (show vp_in (0 : Int32) 1 by unfold vp_in; decide) dL_isStrained_15 (fun H locs hP hD hS => ?_)
      refine lv_goto (tgt := 22) hx hb dL_isStrained_16 (by decide) ?_
      refine lv_iconst (v := 0) hx hb dL_isStrained_22 (by decide) ?_
      rw [hQ]
      exact jg_zret hx hb hr rfl hlocks () hP hD hS dL_isStrained_23 rfl trivial (Nat.le_of_ble_eq_true rfl) (Nat.le_of_ble_eq_true rfl)
    · refine lv_if_eq (tgt := 14) hx hb dL_isStrained_7 (by decide) (fun c1 => absurd c1 (by decide)) (fun _ => ?_)
      refine lv_lconst (v := 1) hx hb dL_isStrained_10 (by decide) ?_
      refine lv_goto (tgt := 15) hx hb dL_isStrained_11 (by decide) ?_
      refine W.eq (g2 := F0 m 15 ls [.long (i2l (bi true)), .int 0, .ref q3]) (congrArg (fun z => F0 m 15 ls [.long z, .int 0, .ref q3]) (show (1 : Int64) = i2l (bi true) by decide)) ?_
      refine va_last hx hb hK hP hD hS 0 4 rfl rfl (show vp_in (0 : Int32) 1 by unfold vp_in; decide) dL_isStrained_15 (fun H locs hP hD hS => ?_)
      refine lv_goto (tgt := 22) hx hb dL_isStrained_16 (by decide) ?_
      refine lv_iconst (v := 0) hx hb dL_isStrained_22 (by decide) ?_
      rw [hQ]
      exact jg_zret hx hb hr rfl hlocks () hP hD hS dL_isStrained_23 rfl trivial (Nat.le_of_ble_eq_true rfl) (Nat.le_of_ble_eq_true rfl)
  · have hk : cd ["java/lang/IndexOutOfBoundsException"] 1 y = some kz := hk
    refine cx_x (E := y) (csR := [wO g q3 fL]) (csF := [wO g q3 fL, wX g a a1 a2 a3 a4 a5 a6 a7 x, wB g a1 b]) (rest := [.int 0, .ref q3]) hx hb hml hown hts hK hE hA hl hP hD hS (c_X4_isStrained g l hst a a1 a2 a3 a4 a5 a6 a7 x b p0 (.inr y) hF) [1, 2] [0] [0, 1, 2] ⟨rfl, rfl, rfl, rfl, rfl, rfl, rfl⟩ ⟨0, 8, _, _, rfl, rfl, rfl⟩ 1 (jb_giV (WT_in 897 (by decide +kernel) (by decide +kernel)) (WT_in 898 (by decide +kernel) (by decide +kernel)) (WT_in 899 (by decide +kernel) (by decide +kernel)) (WT_in 1 (by decide +kernel) (by decide +kernel)) (WT_in 900 (by decide +kernel) (by decide +kernel))) ⟨rfl, rfl⟩ (by decide +kernel) ⟨⟨(Nat.le_of_ble_eq_true rfl), (Nat.le_of_ble_eq_true rfl)⟩, (Nat.le_of_ble_eq_true rfl), (Nat.le_of_ble_eq_true rfl)⟩ ⟨rfl, rfl⟩ (Nat.le_of_ble_eq_true rfl) dL_isStrained_4 (fun H locs q9 ce hP hD hS h1 h2 h3 => ?_)
    have hN := hE.2.2.2.2.2.2
    obtain ⟨he, hz9⟩ := cd_1 hk
    rw [he] at h3
    subst hz9
    refine vx_catch (name := "java/lang/IndexOutOfBoundsException") hown [] ⟨0, 16, 19, 25⟩ [] (htab.trans rfl) (fun z9 hz9 => by cases hz9) rfl (by decide) (hts _ (WT_in 825 (by decide +kernel) (by decide +kernel))) (va_Nw.use rfl (hN.2.2.2.2.2.1 ("java/lang/IndexOutOfBoundsException", "java/lang/IndexOutOfBoundsException") (by decide +kernel))) h1 h2 h3 ?_
    refine lv_astore_n (lv' := [(3, .ref q9), (0, .ref (a 0)), (1, .int p0), (2, .ref q3)]) hx hb dL_isStrained_19 rfl hl (by decide) rfl (fun ls hl => ?_)
    refine lv_iconst (v := 1) hx hb dL_isStrained_20 (by decide) ?_
    rw [hQ]
    exact jg_zret hx hb hr rfl hlocks () hP hD hS dL_isStrained_21 rfl trivial (Nat.le_of_ble_eq_true rfl) (Nat.le_of_ble_eq_true rfl)
set_option maxHeartbeats 4000000 in
set_option maxRecDepth 100000 in
theorem h_hoursUntilBears (g : GG) (l : Launch) (hst : l.stackTraces = false) (a a1 a2 a3 a4 a5 a6 a7 : Nat → Nat) (q3 : Nat) (fL : Nat → Int64) (x : Xv) (b : Bv) (t : Bv) (p0 : Int32) (p1 : Int32) (z : (Int32 × Bv) ⊕ (String × Bv)) (hF : F_X4_hoursUntilBears x b t p0 p1 = some z) (kz : Int32) (hk : Sum.elim (fun _ => some 0) (fun y => cd ["java/lang/IndexOutOfBoundsException", "java/lang/IllegalArgumentException", "java/util/NoSuchElementException"] 1 y.1) z = some kz) : MW (G := Unit) g l yL_hoursUntilBears cL_hoursUntilBears 5 (some .int) [(0, 10, 13, 25), (0, 10, 17, 13), (0, 10, 21, 55)] ({ frames := 8, cells := 3, slots := 18, locals := 144 } : Room) [.ref (a 0), .int p0, .int p1, .ref q3] [wO g q3 fL, wX g a a1 a2 a3 a4 a5 a6 a7 x, wB g a1 b, wB g a2 t] 3 18 (fun _ => some (.int kz)) (fun _ => Sum.elim (fun y => [wO g q3 (vp_updL fL (0 : Int32).toNatClampNeg (i2l y.1)), wX g a a1 a2 a3 a4 a5 a6 a7 x, wB g a1 b, wB g a2 y.2]) (fun y => [wO g q3 fL, wX g a a1 a2 a3 a4 a5 a6 a7 x, wB g a1 b, wB g a2 y.2]) z) (fun _ => True) := by
  refine MW.bg (by decide) (Nat.le_of_ble_eq_true rfl) ?_
  intro p e s m below meth c A Q hQ hx hb hr hml hown hts hts2 hlocks htab hK hE hA hP hD hS ls hl
  have hl : lv_has ls 5 [(0, .ref (a 0)), (1, .int p0), (2, .int p1), (3, .ref q3)] := hl
  refine lv_aload_n hx hb dL_hoursUntilBears_0 rfl (lv_at hl 3 rfl) ?_
  refine lv_iconst (v := 0) hx hb dL_hoursUntilBears_1 (by decide) ?_
  refine lv_aload_n hx hb dL_hoursUntilBears_2 rfl (lv_at hl 0 rfl) ?_
  refine lv_iload_n hx hb dL_hoursUntilBears_3 rfl (lv_at hl 1 rfl) ?_
  refine lv_iload_n hx hb dL_hoursUntilBears_4 rfl (lv_at hl 2 rfl) ?_
  rcases z with y | y
  · have hkz : (0 : Int32) = kz := Option.some.inj hk
    subst hkz
    refine cx_n (v := some (.int y.1)) (csR := [wO g q3 fL]) (csF := [wO g q3 fL, wX g a a1 a2 a3 a4 a5 a6 a7 x, wB g a1 b, wB g a2 y.2]) (rest := [.int 0, .ref q3]) hx hb hml hown hts hK hE hA hl hP hD hS (c_X4_hoursUntilBears g l hst a a1 a2 a3 a4 a5 a6 a7 x b t p0 p1 (.inl y) hF) [1, 2, 3] [0] [0, 1, 2, 3] ⟨rfl, rfl, rfl, rfl, rfl, rfl, rfl⟩ ⟨0, 8, _, _, rfl, rfl, rfl⟩ 2 (jb_giV (WT_in 905 (by decide +kernel) (by decide +kernel)) (WT_in 906 (by decide +kernel) (by decide +kernel)) (WT_in 907 (by decide +kernel) (by decide +kernel)) (WT_in 1 (by decide +kernel) (by decide +kernel)) (WT_in 908 (by decide +kernel) (by decide +kernel))) ⟨rfl, rfl⟩ (by decide +kernel) ⟨⟨(Nat.le_of_ble_eq_true rfl), (Nat.le_of_ble_eq_true rfl)⟩, (Nat.le_of_ble_eq_true rfl), (Nat.le_of_ble_eq_true rfl)⟩ ⟨rfl, rfl⟩ (Nat.le_of_ble_eq_true rfl) dL_hoursUntilBears_5 (fun H locs hP hD hS => ?_)
    refine W.eq (g2 := F0 m 8 ls [.int y.1, .int 0, .ref q3]) rfl ?_
    refine lv_i2l (v := i2l y.1) hx hb dL_hoursUntilBears_8 rfl ?_
    refine va_last hx hb hK hP hD hS 0 4 rfl rfl (show vp_in (0 : Int32) 1 by unfold vp_in; decide) dL_hoursUntilBears_9 (fun H locs hP hD hS => ?_)
    refine lv_goto (tgt := 25) hx hb dL_hoursUntilBears_10 (by decide) ?_
    refine lv_iconst (v := 0) hx hb dL_hoursUntilBears_25 (by decide) ?_
    rw [hQ]
    exact jg_zret hx hb hr rfl hlocks () hP hD hS dL_hoursUntilBears_26 rfl trivial (Nat.le_of_ble_eq_true rfl) (Nat.le_of_ble_eq_true rfl)
  · have hk : cd ["java/lang/IndexOutOfBoundsException", "java/lang/IllegalArgumentException", "java/util/NoSuchElementException"] 1 y.1 = some kz := hk
    refine cx_x (E := y.1) (csR := [wO g q3 fL]) (csF := [wO g q3 fL, wX g a a1 a2 a3 a4 a5 a6 a7 x, wB g a1 b, wB g a2 y.2]) (rest := [.int 0, .ref q3]) hx hb hml hown hts hK hE hA hl hP hD hS (c_X4_hoursUntilBears g l hst a a1 a2 a3 a4 a5 a6 a7 x b t p0 p1 (.inr y) hF) [1, 2, 3] [0] [0, 1, 2, 3] ⟨rfl, rfl, rfl, rfl, rfl, rfl, rfl⟩ ⟨0, 8, _, _, rfl, rfl, rfl⟩ 2 (jb_giV (WT_in 905 (by decide +kernel) (by decide +kernel)) (WT_in 906 (by decide +kernel) (by decide +kernel)) (WT_in 907 (by decide +kernel) (by decide +kernel)) (WT_in 1 (by decide +kernel) (by decide +kernel)) (WT_in 908 (by decide +kernel) (by decide +kernel))) ⟨rfl, rfl⟩ (by decide +kernel) ⟨⟨(Nat.le_of_ble_eq_true rfl), (Nat.le_of_ble_eq_true rfl)⟩, (Nat.le_of_ble_eq_true rfl), (Nat.le_of_ble_eq_true rfl)⟩ ⟨rfl, rfl⟩ (Nat.le_of_ble_eq_true rfl) dL_hoursUntilBears_5 (fun H locs q9 ce hP hD hS h1 h2 h3 => ?_)
    have hN := hE.2.2.2.2.2.2
    rcases cd_3 hk with ⟨he, hz9⟩ | ⟨he, hz9⟩ | ⟨he, hz9⟩
    · rw [he] at h3
      subst hz9
      refine vx_catch (name := "java/lang/IndexOutOfBoundsException") hown [] ⟨0, 10, 13, 25⟩ [⟨0, 10, 17, 13⟩, ⟨0, 10, 21, 55⟩] (htab.trans rfl) (fun z9 hz9 => by cases hz9) rfl (by decide) (hts _ (WT_in 825 (by decide +kernel) (by decide +kernel))) (va_Nw.use rfl (hN.2.2.2.2.2.1 ("java/lang/IndexOutOfBoundsException", "java/lang/IndexOutOfBoundsException") (by decide +kernel))) h1 h2 h3 ?_
      refine lv_astore (lv' := [(4, .ref q9), (0, .ref (a 0)), (1, .int p0), (2, .int p1), (3, .ref q3)]) hx hb dL_hoursUntilBears_13 hl (by decide) rfl (fun ls hl => ?_)
      refine lv_iconst (v := 1) hx hb dL_hoursUntilBears_15 (by decide) ?_
      rw [hQ]
      exact jg_zret hx hb hr rfl hlocks () hP hD hS dL_hoursUntilBears_16 rfl trivial (Nat.le_of_ble_eq_true rfl) (Nat.le_of_ble_eq_true rfl)
    · rw [he] at h3
      subst hz9
      refine vx_catch (name := "java/lang/IllegalArgumentException") hown [⟨0, 10, 13, 25⟩] ⟨0, 10, 17, 13⟩ [⟨0, 10, 21, 55⟩] (htab.trans rfl) (fun z9 hz9 => by
        simp only [List.mem_cons, List.not_mem_nil, or_false] at hz9
        rcases hz9 with rfl
        · exact Or.inr ⟨by decide, "java/lang/IndexOutOfBoundsException", hts _ (WT_in 825 (by decide +kernel) (by decide +kernel)), hN.2.2.2.2.1 ("java/lang/IllegalArgumentException", "java/lang/IndexOutOfBoundsException") (by decide +kernel)⟩) rfl (by decide) (hts _ (WT_in 716 (by decide +kernel) (by decide +kernel))) (va_Nw.use rfl (hN.2.2.2.2.2.1 ("java/lang/IllegalArgumentException", "java/lang/IllegalArgumentException") (by decide +kernel))) h1 h2 h3 ?_
      refine lv_astore (lv' := [(4, .ref q9), (0, .ref (a 0)), (1, .int p0), (2, .int p1), (3, .ref q3)]) hx hb dL_hoursUntilBears_17 hl (by decide) rfl (fun ls hl => ?_)
      refine lv_iconst (v := 2) hx hb dL_hoursUntilBears_19 (by decide) ?_
      rw [hQ]
      exact jg_zret hx hb hr rfl hlocks () hP hD hS dL_hoursUntilBears_20 rfl trivial (Nat.le_of_ble_eq_true rfl) (Nat.le_of_ble_eq_true rfl)
    · rw [he] at h3
      subst hz9
      refine vx_catch (name := "java/util/NoSuchElementException") hown [⟨0, 10, 13, 25⟩, ⟨0, 10, 17, 13⟩] ⟨0, 10, 21, 55⟩ [] (htab.trans rfl) (fun z9 hz9 => by
        simp only [List.mem_cons, List.not_mem_nil, or_false] at hz9
        rcases hz9 with rfl | rfl
        · exact Or.inr ⟨by decide, "java/lang/IndexOutOfBoundsException", hts _ (WT_in 825 (by decide +kernel) (by decide +kernel)), hN.2.2.2.2.1 ("java/util/NoSuchElementException", "java/lang/IndexOutOfBoundsException") (by decide +kernel)⟩
        · exact Or.inr ⟨by decide, "java/lang/IllegalArgumentException", hts _ (WT_in 716 (by decide +kernel) (by decide +kernel)), hN.2.2.2.2.1 ("java/util/NoSuchElementException", "java/lang/IllegalArgumentException") (by decide +kernel)⟩) rfl (by decide) (hts _ (WT_in 904 (by decide +kernel) (by decide +kernel))) (va_Nw.use rfl (hN.2.2.2.2.2.1 ("java/util/NoSuchElementException", "java/util/NoSuchElementException") (by decide +kernel))) h1 h2 h3 ?_
      refine lv_astore (lv' := [(4, .ref q9), (0, .ref (a 0)), (1, .int p0), (2, .int p1), (3, .ref q3)]) hx hb dL_hoursUntilBears_21 hl (by decide) rfl (fun ls hl => ?_)
      refine lv_iconst (v := 3) hx hb dL_hoursUntilBears_23 (by decide) ?_
      rw [hQ]
      exact jg_zret hx hb hr rfl hlocks () hP hD hS dL_hoursUntilBears_24 rfl trivial (Nat.le_of_ble_eq_true rfl) (Nat.le_of_ble_eq_true rfl)
set_option maxHeartbeats 4000000 in
set_option maxRecDepth 100000 in
theorem h_hoursUntilBearsByDivision (g : GG) (l : Launch) (hst : l.stackTraces = false) (a a1 a2 a3 a4 a5 a6 a7 : Nat → Nat) (q3 : Nat) (fL : Nat → Int64) (x : Xv) (b : Bv) (p0 : Int32) (p1 : Int32) (z : (Int32) ⊕ (String)) (hF : F_X4_hoursUntilBearsByDivision x b p0 p1 = some z) (kz : Int32) (hk : Sum.elim (fun _ => some 0) (fun y => cd ["java/lang/IndexOutOfBoundsException", "java/lang/IllegalArgumentException", "java/util/NoSuchElementException"] 1 y) z = some kz) : MW (G := Unit) g l yL_hoursUntilBearsByDivision cL_hoursUntilBearsByDivision 5 (some .int) [(0, 10, 13, 25), (0, 10, 17, 13), (0, 10, 21, 55)] ({ frames := 8, cells := 3, slots := 18, locals := 137 } : Room) [.ref (a 0), .int p0, .int p1, .ref q3] [wO g q3 fL, wX g a a1 a2 a3 a4 a5 a6 a7 x, wB g a1 b] 3 18 (fun _ => some (.int kz)) (fun _ => Sum.elim (fun y => [wO g q3 (vp_updL fL (0 : Int32).toNatClampNeg (i2l y)), wX g a a1 a2 a3 a4 a5 a6 a7 x, wB g a1 b]) (fun y => [wO g q3 fL, wX g a a1 a2 a3 a4 a5 a6 a7 x, wB g a1 b]) z) (fun _ => True) := by
  refine MW.bg (by decide) (Nat.le_of_ble_eq_true rfl) ?_
  intro p e s m below meth c A Q hQ hx hb hr hml hown hts hts2 hlocks htab hK hE hA hP hD hS ls hl
  have hl : lv_has ls 5 [(0, .ref (a 0)), (1, .int p0), (2, .int p1), (3, .ref q3)] := hl
  refine lv_aload_n hx hb dL_hoursUntilBearsByDivision_0 rfl (lv_at hl 3 rfl) ?_
  refine lv_iconst (v := 0) hx hb dL_hoursUntilBearsByDivision_1 (by decide) ?_
  refine lv_aload_n hx hb dL_hoursUntilBearsByDivision_2 rfl (lv_at hl 0 rfl) ?_
  refine lv_iload_n hx hb dL_hoursUntilBearsByDivision_3 rfl (lv_at hl 1 rfl) ?_
  refine lv_iload_n hx hb dL_hoursUntilBearsByDivision_4 rfl (lv_at hl 2 rfl) ?_
  rcases z with y | y
  · have hkz : (0 : Int32) = kz := Option.some.inj hk
    subst hkz
    refine cx_n (v := some (.int y)) (csR := [wO g q3 fL]) (csF := [wO g q3 fL, wX g a a1 a2 a3 a4 a5 a6 a7 x, wB g a1 b]) (rest := [.int 0, .ref q3]) hx hb hml hown hts hK hE hA hl hP hD hS (c_X4_hoursUntilBearsByDivision g l hst a a1 a2 a3 a4 a5 a6 a7 x b p0 p1 (.inl y) hF) [1, 2] [0] [0, 1, 2] ⟨rfl, rfl, rfl, rfl, rfl, rfl, rfl⟩ ⟨0, 8, _, _, rfl, rfl, rfl⟩ 2 (jb_giV (WT_in 933 (by decide +kernel) (by decide +kernel)) (WT_in 934 (by decide +kernel) (by decide +kernel)) (WT_in 935 (by decide +kernel) (by decide +kernel)) (WT_in 1 (by decide +kernel) (by decide +kernel)) (WT_in 936 (by decide +kernel) (by decide +kernel))) ⟨rfl, rfl⟩ (by decide +kernel) ⟨⟨(Nat.le_of_ble_eq_true rfl), (Nat.le_of_ble_eq_true rfl)⟩, (Nat.le_of_ble_eq_true rfl), (Nat.le_of_ble_eq_true rfl)⟩ ⟨rfl, rfl⟩ (Nat.le_of_ble_eq_true rfl) dL_hoursUntilBearsByDivision_5 (fun H locs hP hD hS => ?_)
    refine W.eq (g2 := F0 m 8 ls [.int y, .int 0, .ref q3]) rfl ?_
    refine lv_i2l (v := i2l y) hx hb dL_hoursUntilBearsByDivision_8 rfl ?_
    refine va_last hx hb hK hP hD hS 0 4 rfl rfl (show vp_in (0 : Int32) 1 by unfold vp_in; decide) dL_hoursUntilBearsByDivision_9 (fun H locs hP hD hS => ?_)
    refine lv_goto (tgt := 25) hx hb dL_hoursUntilBearsByDivision_10 (by decide) ?_
    refine lv_iconst (v := 0) hx hb dL_hoursUntilBearsByDivision_25 (by decide) ?_
    rw [hQ]
    exact jg_zret hx hb hr rfl hlocks () hP hD hS dL_hoursUntilBearsByDivision_26 rfl trivial (Nat.le_of_ble_eq_true rfl) (Nat.le_of_ble_eq_true rfl)
  · have hk : cd ["java/lang/IndexOutOfBoundsException", "java/lang/IllegalArgumentException", "java/util/NoSuchElementException"] 1 y = some kz := hk
    refine cx_x (E := y) (csR := [wO g q3 fL]) (csF := [wO g q3 fL, wX g a a1 a2 a3 a4 a5 a6 a7 x, wB g a1 b]) (rest := [.int 0, .ref q3]) hx hb hml hown hts hK hE hA hl hP hD hS (c_X4_hoursUntilBearsByDivision g l hst a a1 a2 a3 a4 a5 a6 a7 x b p0 p1 (.inr y) hF) [1, 2] [0] [0, 1, 2] ⟨rfl, rfl, rfl, rfl, rfl, rfl, rfl⟩ ⟨0, 8, _, _, rfl, rfl, rfl⟩ 2 (jb_giV (WT_in 933 (by decide +kernel) (by decide +kernel)) (WT_in 934 (by decide +kernel) (by decide +kernel)) (WT_in 935 (by decide +kernel) (by decide +kernel)) (WT_in 1 (by decide +kernel) (by decide +kernel)) (WT_in 936 (by decide +kernel) (by decide +kernel))) ⟨rfl, rfl⟩ (by decide +kernel) ⟨⟨(Nat.le_of_ble_eq_true rfl), (Nat.le_of_ble_eq_true rfl)⟩, (Nat.le_of_ble_eq_true rfl), (Nat.le_of_ble_eq_true rfl)⟩ ⟨rfl, rfl⟩ (Nat.le_of_ble_eq_true rfl) dL_hoursUntilBearsByDivision_5 (fun H locs q9 ce hP hD hS h1 h2 h3 => ?_)
    have hN := hE.2.2.2.2.2.2
    rcases cd_3 hk with ⟨he, hz9⟩ | ⟨he, hz9⟩ | ⟨he, hz9⟩
    · rw [he] at h3
      subst hz9
      refine vx_catch (name := "java/lang/IndexOutOfBoundsException") hown [] ⟨0, 10, 13, 25⟩ [⟨0, 10, 17, 13⟩, ⟨0, 10, 21, 55⟩] (htab.trans rfl) (fun z9 hz9 => by cases hz9) rfl (by decide) (hts _ (WT_in 825 (by decide +kernel) (by decide +kernel))) (va_Nw.use rfl (hN.2.2.2.2.2.1 ("java/lang/IndexOutOfBoundsException", "java/lang/IndexOutOfBoundsException") (by decide +kernel))) h1 h2 h3 ?_
      refine lv_astore (lv' := [(4, .ref q9), (0, .ref (a 0)), (1, .int p0), (2, .int p1), (3, .ref q3)]) hx hb dL_hoursUntilBearsByDivision_13 hl (by decide) rfl (fun ls hl => ?_)
      refine lv_iconst (v := 1) hx hb dL_hoursUntilBearsByDivision_15 (by decide) ?_
      rw [hQ]
      exact jg_zret hx hb hr rfl hlocks () hP hD hS dL_hoursUntilBearsByDivision_16 rfl trivial (Nat.le_of_ble_eq_true rfl) (Nat.le_of_ble_eq_true rfl)
    · rw [he] at h3
      subst hz9
      refine vx_catch (name := "java/lang/IllegalArgumentException") hown [⟨0, 10, 13, 25⟩] ⟨0, 10, 17, 13⟩ [⟨0, 10, 21, 55⟩] (htab.trans rfl) (fun z9 hz9 => by
        simp only [List.mem_cons, List.not_mem_nil, or_false] at hz9
        rcases hz9 with rfl
        · exact Or.inr ⟨by decide, "java/lang/IndexOutOfBoundsException", hts _ (WT_in 825 (by decide +kernel) (by decide +kernel)), hN.2.2.2.2.1 ("java/lang/IllegalArgumentException", "java/lang/IndexOutOfBoundsException") (by decide +kernel)⟩) rfl (by decide) (hts _ (WT_in 716 (by decide +kernel) (by decide +kernel))) (va_Nw.use rfl (hN.2.2.2.2.2.1 ("java/lang/IllegalArgumentException", "java/lang/IllegalArgumentException") (by decide +kernel))) h1 h2 h3 ?_
      refine lv_astore (lv' := [(4, .ref q9), (0, .ref (a 0)), (1, .int p0), (2, .int p1), (3, .ref q3)]) hx hb dL_hoursUntilBearsByDivision_17 hl (by decide) rfl (fun ls hl => ?_)
      refine lv_iconst (v := 2) hx hb dL_hoursUntilBearsByDivision_19 (by decide) ?_
      rw [hQ]
      exact jg_zret hx hb hr rfl hlocks () hP hD hS dL_hoursUntilBearsByDivision_20 rfl trivial (Nat.le_of_ble_eq_true rfl) (Nat.le_of_ble_eq_true rfl)
    · rw [he] at h3
      subst hz9
      refine vx_catch (name := "java/util/NoSuchElementException") hown [⟨0, 10, 13, 25⟩, ⟨0, 10, 17, 13⟩] ⟨0, 10, 21, 55⟩ [] (htab.trans rfl) (fun z9 hz9 => by
        simp only [List.mem_cons, List.not_mem_nil, or_false] at hz9
        rcases hz9 with rfl | rfl
        · exact Or.inr ⟨by decide, "java/lang/IndexOutOfBoundsException", hts _ (WT_in 825 (by decide +kernel) (by decide +kernel)), hN.2.2.2.2.1 ("java/util/NoSuchElementException", "java/lang/IndexOutOfBoundsException") (by decide +kernel)⟩
        · exact Or.inr ⟨by decide, "java/lang/IllegalArgumentException", hts _ (WT_in 716 (by decide +kernel) (by decide +kernel)), hN.2.2.2.2.1 ("java/util/NoSuchElementException", "java/lang/IllegalArgumentException") (by decide +kernel)⟩) rfl (by decide) (hts _ (WT_in 904 (by decide +kernel) (by decide +kernel))) (va_Nw.use rfl (hN.2.2.2.2.2.1 ("java/util/NoSuchElementException", "java/util/NoSuchElementException") (by decide +kernel))) h1 h2 h3 ?_
      refine lv_astore (lv' := [(4, .ref q9), (0, .ref (a 0)), (1, .int p0), (2, .int p1), (3, .ref q3)]) hx hb dL_hoursUntilBearsByDivision_21 hl (by decide) rfl (fun ls hl => ?_)
      refine lv_iconst (v := 3) hx hb dL_hoursUntilBearsByDivision_23 (by decide) ?_
      rw [hQ]
      exact jg_zret hx hb hr rfl hlocks () hP hD hS dL_hoursUntilBearsByDivision_24 rfl trivial (Nat.le_of_ble_eq_true rfl) (Nat.le_of_ble_eq_true rfl)
set_option maxHeartbeats 4000000 in
set_option maxRecDepth 100000 in
theorem h_spanByStrength (g : GG) (l : Launch) (hst : l.stackTraces = false) (a a1 a2 a3 a4 a5 a6 a7 : Nat → Nat) (q3 : Nat) (fL : Nat → Int64) (x : Xv) (b : Bv) (p0 : Int32) (z : (Int32) ⊕ (String)) (hF : F_X4_spanByStrength x b p0 = some z) (kz : Int32) (hk : Sum.elim (fun _ => some 0) (fun y => cd ["java/util/NoSuchElementException"] 1 y) z = some kz) : MW (G := Unit) g l yL_spanByStrength cL_spanByStrength 4 (some .int) [(0, 9, 12, 55)] ({ frames := 7, cells := 1, slots := 6, locals := 112 } : Room) [.ref (a 0), .int p0, .ref q3] [wO g q3 fL, wX g a a1 a2 a3 a4 a5 a6 a7 x, wB g a1 b] 1 6 (fun _ => some (.int kz)) (fun _ => Sum.elim (fun y => [wO g q3 (vp_updL fL (0 : Int32).toNatClampNeg (i2l y)), wX g a a1 a2 a3 a4 a5 a6 a7 x, wB g a1 b]) (fun y => [wO g q3 fL, wX g a a1 a2 a3 a4 a5 a6 a7 x, wB g a1 b]) z) (fun _ => True) := by
  refine MW.bg (by decide) (Nat.le_of_ble_eq_true rfl) ?_
  intro p e s m below meth c A Q hQ hx hb hr hml hown hts hts2 hlocks htab hK hE hA hP hD hS ls hl
  have hl : lv_has ls 4 [(0, .ref (a 0)), (1, .int p0), (2, .ref q3)] := hl
  refine lv_aload_n hx hb dL_spanByStrength_0 rfl (lv_at hl 2 rfl) ?_
  refine lv_iconst (v := 0) hx hb dL_spanByStrength_1 (by decide) ?_
  refine lv_aload_n hx hb dL_spanByStrength_2 rfl (lv_at hl 0 rfl) ?_
  refine lv_iload_n hx hb dL_spanByStrength_3 rfl (lv_at hl 1 rfl) ?_
  rcases z with y | y
  · have hkz : (0 : Int32) = kz := Option.some.inj hk
    subst hkz
    refine cx_n (v := some (.int y)) (csR := [wO g q3 fL]) (csF := [wO g q3 fL, wX g a a1 a2 a3 a4 a5 a6 a7 x, wB g a1 b]) (rest := [.int 0, .ref q3]) hx hb hml hown hts hK hE hA hl hP hD hS (c_X4_spanByStrength g l hst a a1 a2 a3 a4 a5 a6 a7 x b p0 (.inl y) hF) [1, 2] [0] [0, 1, 2] ⟨rfl, rfl, rfl, rfl, rfl, rfl, rfl⟩ ⟨0, 8, _, _, rfl, rfl, rfl⟩ 1 (jb_giV (WT_in 941 (by decide +kernel) (by decide +kernel)) (WT_in 942 (by decide +kernel) (by decide +kernel)) (WT_in 943 (by decide +kernel) (by decide +kernel)) (WT_in 1 (by decide +kernel) (by decide +kernel)) (WT_in 944 (by decide +kernel) (by decide +kernel))) ⟨rfl, rfl⟩ (by decide +kernel) ⟨⟨(Nat.le_of_ble_eq_true rfl), (Nat.le_of_ble_eq_true rfl)⟩, (Nat.le_of_ble_eq_true rfl), (Nat.le_of_ble_eq_true rfl)⟩ ⟨rfl, rfl⟩ (Nat.le_of_ble_eq_true rfl) dL_spanByStrength_4 (fun H locs hP hD hS => ?_)
    refine W.eq (g2 := F0 m 7 ls [.int y, .int 0, .ref q3]) rfl ?_
    refine lv_i2l (v := i2l y) hx hb dL_spanByStrength_7 rfl ?_
    refine va_last hx hb hK hP hD hS 0 4 rfl rfl (show vp_in (0 : Int32) 1 by unfold vp_in; decide) dL_spanByStrength_8 (fun H locs hP hD hS => ?_)
    refine lv_goto (tgt := 15) hx hb dL_spanByStrength_9 (by decide) ?_
    refine lv_iconst (v := 0) hx hb dL_spanByStrength_15 (by decide) ?_
    rw [hQ]
    exact jg_zret hx hb hr rfl hlocks () hP hD hS dL_spanByStrength_16 rfl trivial (Nat.le_of_ble_eq_true rfl) (Nat.le_of_ble_eq_true rfl)
  · have hk : cd ["java/util/NoSuchElementException"] 1 y = some kz := hk
    refine cx_x (E := y) (csR := [wO g q3 fL]) (csF := [wO g q3 fL, wX g a a1 a2 a3 a4 a5 a6 a7 x, wB g a1 b]) (rest := [.int 0, .ref q3]) hx hb hml hown hts hK hE hA hl hP hD hS (c_X4_spanByStrength g l hst a a1 a2 a3 a4 a5 a6 a7 x b p0 (.inr y) hF) [1, 2] [0] [0, 1, 2] ⟨rfl, rfl, rfl, rfl, rfl, rfl, rfl⟩ ⟨0, 8, _, _, rfl, rfl, rfl⟩ 1 (jb_giV (WT_in 941 (by decide +kernel) (by decide +kernel)) (WT_in 942 (by decide +kernel) (by decide +kernel)) (WT_in 943 (by decide +kernel) (by decide +kernel)) (WT_in 1 (by decide +kernel) (by decide +kernel)) (WT_in 944 (by decide +kernel) (by decide +kernel))) ⟨rfl, rfl⟩ (by decide +kernel) ⟨⟨(Nat.le_of_ble_eq_true rfl), (Nat.le_of_ble_eq_true rfl)⟩, (Nat.le_of_ble_eq_true rfl), (Nat.le_of_ble_eq_true rfl)⟩ ⟨rfl, rfl⟩ (Nat.le_of_ble_eq_true rfl) dL_spanByStrength_4 (fun H locs q9 ce hP hD hS h1 h2 h3 => ?_)
    have hN := hE.2.2.2.2.2.2
    obtain ⟨he, hz9⟩ := cd_1 hk
    rw [he] at h3
    subst hz9
    refine vx_catch (name := "java/util/NoSuchElementException") hown [] ⟨0, 9, 12, 55⟩ [] (htab.trans rfl) (fun z9 hz9 => by cases hz9) rfl (by decide) (hts _ (WT_in 904 (by decide +kernel) (by decide +kernel))) (va_Nw.use rfl (hN.2.2.2.2.2.1 ("java/util/NoSuchElementException", "java/util/NoSuchElementException") (by decide +kernel))) h1 h2 h3 ?_
    refine lv_astore_n (lv' := [(3, .ref q9), (0, .ref (a 0)), (1, .int p0), (2, .ref q3)]) hx hb dL_spanByStrength_12 rfl hl (by decide) rfl (fun ls hl => ?_)
    refine lv_iconst (v := 1) hx hb dL_spanByStrength_13 (by decide) ?_
    rw [hQ]
    exact jg_zret hx hb hr rfl hlocks () hP hD hS dL_spanByStrength_14 rfl trivial (Nat.le_of_ble_eq_true rfl) (Nat.le_of_ble_eq_true rfl)
set_option maxHeartbeats 4000000 in
set_option maxRecDepth 100000 in
theorem h_enter (g : GG) (l : Launch) (hst : l.stackTraces = false) (a a1 a2 a3 a4 a5 a6 a7 : Nat → Nat) (q3 : Nat) (fL : Nat → Int64) (x : Xv) (b : Bv) (h : Hv) (j : Jv) (p0 : Int32) (z : (Int32 × Xv × Bv × Hv × Jv) ⊕ (String × Xv × Bv × Hv × Jv)) (hF : F_X4_enter x b h j p0 = some z) (kz : Int32) (hk : Sum.elim (fun _ => some 0) (fun y => cd ["java/lang/IllegalArgumentException", "java/lang/UnsupportedOperationException"] 1 y.1) z = some kz) : MW (G := Unit) g l yL_enter cL_enter 4 (some .int) [(0, 9, 12, 13), (0, 9, 15, 15)] ({ frames := 8, cells := 1, slots := 6, locals := 187 } : Room) [.ref (a 0), .int p0, .ref q3] [wO g q3 fL, wX g a a1 a2 a3 a4 a5 a6 a7 x, wB g a1 b, wH g a4 h, wJ g a5 j] 1 6 (fun _ => some (.int kz)) (fun _ => Sum.elim (fun y => [wO g q3 (vp_updL fL (0 : Int32).toNatClampNeg (i2l y.1)), wX g a a1 a2 a3 a4 a5 a6 a7 y.2.1, wB g a1 y.2.2.1, wH g a4 y.2.2.2.1, wJ g a5 y.2.2.2.2]) (fun y => [wO g q3 fL, wX g a a1 a2 a3 a4 a5 a6 a7 y.2.1, wB g a1 y.2.2.1, wH g a4 y.2.2.2.1, wJ g a5 y.2.2.2.2]) z) (fun _ => True) := by
  refine MW.bg (by decide) (Nat.le_of_ble_eq_true rfl) ?_
  intro p e s m below meth c A Q hQ hx hb hr hml hown hts hts2 hlocks htab hK hE hA hP hD hS ls hl
  have hl : lv_has ls 4 [(0, .ref (a 0)), (1, .int p0), (2, .ref q3)] := hl
  refine lv_aload_n hx hb dL_enter_0 rfl (lv_at hl 2 rfl) ?_
  refine lv_iconst (v := 0) hx hb dL_enter_1 (by decide) ?_
  refine lv_aload_n hx hb dL_enter_2 rfl (lv_at hl 0 rfl) ?_
  refine lv_iload_n hx hb dL_enter_3 rfl (lv_at hl 1 rfl) ?_
  rcases z with y | y
  · have hkz : (0 : Int32) = kz := Option.some.inj hk
    subst hkz
    refine cx_n (v := some (.int y.1)) (csR := [wO g q3 fL]) (csF := [wO g q3 fL, wX g a a1 a2 a3 a4 a5 a6 a7 y.2.1, wB g a1 y.2.2.1, wH g a4 y.2.2.2.1, wJ g a5 y.2.2.2.2]) (rest := [.int 0, .ref q3]) hx hb hml hown hts hK hE hA hl hP hD hS (c_X4_enter g l hst a a1 a2 a3 a4 a5 a6 a7 x b h j p0 (.inl y) hF) [1, 2, 3, 4] [0] [0, 1, 2, 3, 4] ⟨rfl, rfl, rfl, rfl, rfl, rfl, rfl⟩ ⟨0, 8, _, _, rfl, rfl, rfl⟩ 1 (jb_giV (WT_in 957 (by decide +kernel) (by decide +kernel)) (WT_in 958 (by decide +kernel) (by decide +kernel)) (WT_in 959 (by decide +kernel) (by decide +kernel)) (WT_in 1 (by decide +kernel) (by decide +kernel)) (WT_in 960 (by decide +kernel) (by decide +kernel))) ⟨rfl, rfl⟩ (by decide +kernel) ⟨⟨(Nat.le_of_ble_eq_true rfl), (Nat.le_of_ble_eq_true rfl)⟩, (Nat.le_of_ble_eq_true rfl), (Nat.le_of_ble_eq_true rfl)⟩ ⟨rfl, rfl⟩ (Nat.le_of_ble_eq_true rfl) dL_enter_4 (fun H locs hP hD hS => ?_)
    refine W.eq (g2 := F0 m 7 ls [.int y.1, .int 0, .ref q3]) rfl ?_
    refine lv_i2l (v := i2l y.1) hx hb dL_enter_7 rfl ?_
    refine va_last hx hb hK hP hD hS 0 4 rfl rfl (show vp_in (0 : Int32) 1 by unfold vp_in; decide) dL_enter_8 (fun H locs hP hD hS => ?_)
    refine lv_goto (tgt := 18) hx hb dL_enter_9 (by decide) ?_
    refine lv_iconst (v := 0) hx hb dL_enter_18 (by decide) ?_
    rw [hQ]
    exact jg_zret hx hb hr rfl hlocks () hP hD hS dL_enter_19 rfl trivial (Nat.le_of_ble_eq_true rfl) (Nat.le_of_ble_eq_true rfl)
  · have hk : cd ["java/lang/IllegalArgumentException", "java/lang/UnsupportedOperationException"] 1 y.1 = some kz := hk
    refine cx_x (E := y.1) (csR := [wO g q3 fL]) (csF := [wO g q3 fL, wX g a a1 a2 a3 a4 a5 a6 a7 y.2.1, wB g a1 y.2.2.1, wH g a4 y.2.2.2.1, wJ g a5 y.2.2.2.2]) (rest := [.int 0, .ref q3]) hx hb hml hown hts hK hE hA hl hP hD hS (c_X4_enter g l hst a a1 a2 a3 a4 a5 a6 a7 x b h j p0 (.inr y) hF) [1, 2, 3, 4] [0] [0, 1, 2, 3, 4] ⟨rfl, rfl, rfl, rfl, rfl, rfl, rfl⟩ ⟨0, 8, _, _, rfl, rfl, rfl⟩ 1 (jb_giV (WT_in 957 (by decide +kernel) (by decide +kernel)) (WT_in 958 (by decide +kernel) (by decide +kernel)) (WT_in 959 (by decide +kernel) (by decide +kernel)) (WT_in 1 (by decide +kernel) (by decide +kernel)) (WT_in 960 (by decide +kernel) (by decide +kernel))) ⟨rfl, rfl⟩ (by decide +kernel) ⟨⟨(Nat.le_of_ble_eq_true rfl), (Nat.le_of_ble_eq_true rfl)⟩, (Nat.le_of_ble_eq_true rfl), (Nat.le_of_ble_eq_true rfl)⟩ ⟨rfl, rfl⟩ (Nat.le_of_ble_eq_true rfl) dL_enter_4 (fun H locs q9 ce hP hD hS h1 h2 h3 => ?_)
    have hN := hE.2.2.2.2.2.2
    rcases cd_2 hk with ⟨he, hz9⟩ | ⟨he, hz9⟩
    · rw [he] at h3
      subst hz9
      refine vx_catch (name := "java/lang/IllegalArgumentException") hown [] ⟨0, 9, 12, 13⟩ [⟨0, 9, 15, 15⟩] (htab.trans rfl) (fun z9 hz9 => by cases hz9) rfl (by decide) (hts _ (WT_in 716 (by decide +kernel) (by decide +kernel))) (va_Nw.use rfl (hN.2.2.2.2.2.1 ("java/lang/IllegalArgumentException", "java/lang/IllegalArgumentException") (by decide +kernel))) h1 h2 h3 ?_
      refine lv_astore_n (lv' := [(3, .ref q9), (0, .ref (a 0)), (1, .int p0), (2, .ref q3)]) hx hb dL_enter_12 rfl hl (by decide) rfl (fun ls hl => ?_)
      refine lv_iconst (v := 1) hx hb dL_enter_13 (by decide) ?_
      rw [hQ]
      exact jg_zret hx hb hr rfl hlocks () hP hD hS dL_enter_14 rfl trivial (Nat.le_of_ble_eq_true rfl) (Nat.le_of_ble_eq_true rfl)
    · rw [he] at h3
      subst hz9
      refine vx_catch (name := "java/lang/UnsupportedOperationException") hown [⟨0, 9, 12, 13⟩] ⟨0, 9, 15, 15⟩ [] (htab.trans rfl) (fun z9 hz9 => by
        simp only [List.mem_cons, List.not_mem_nil, or_false] at hz9
        rcases hz9 with rfl
        · exact Or.inr ⟨by decide, "java/lang/IllegalArgumentException", hts _ (WT_in 716 (by decide +kernel) (by decide +kernel)), hN.2.2.2.2.1 ("java/lang/UnsupportedOperationException", "java/lang/IllegalArgumentException") (by decide +kernel)⟩) rfl (by decide) (hts _ (WT_in 717 (by decide +kernel) (by decide +kernel))) (va_Nw.use rfl (hN.2.2.2.2.2.1 ("java/lang/UnsupportedOperationException", "java/lang/UnsupportedOperationException") (by decide +kernel))) h1 h2 h3 ?_
      refine lv_astore_n (lv' := [(3, .ref q9), (0, .ref (a 0)), (1, .int p0), (2, .ref q3)]) hx hb dL_enter_15 rfl hl (by decide) rfl (fun ls hl => ?_)
      refine lv_iconst (v := 2) hx hb dL_enter_16 (by decide) ?_
      rw [hQ]
      exact jg_zret hx hb hr rfl hlocks () hP hD hS dL_enter_17 rfl trivial (Nat.le_of_ble_eq_true rfl) (Nat.le_of_ble_eq_true rfl)
set_option maxHeartbeats 4000000 in
set_option maxRecDepth 100000 in
theorem h_pass (g : GG) (l : Launch) (hst : l.stackTraces = false) (a a1 a2 a3 a4 a5 a6 a7 : Nat → Nat) (q3 : Nat) (fL : Nat → Int64) (x : Xv) (b : Bv) (h : Hv) (j : Jv) (p0 : Int32) (z : (Int32 × Xv × Bv × Hv × Jv) ⊕ (String × Xv × Bv × Hv × Jv)) (hF : F_X4_pass x b h j p0 = some z) (kz : Int32) (hk : Sum.elim (fun _ => some 0) (fun y => cd ["java/lang/IllegalArgumentException"] 1 y.1) z = some kz) : MW (G := Unit) g l yL_pass cL_pass 4 (some .int) [(0, 9, 12, 13)] ({ frames := 8, cells := 1, slots := 6, locals := 187 } : Room) [.ref (a 0), .int p0, .ref q3] [wO g q3 fL, wX g a a1 a2 a3 a4 a5 a6 a7 x, wB g a1 b, wH g a4 h, wJ g a5 j] 1 6 (fun _ => some (.int kz)) (fun _ => Sum.elim (fun y => [wO g q3 (vp_updL fL (0 : Int32).toNatClampNeg (i2l y.1)), wX g a a1 a2 a3 a4 a5 a6 a7 y.2.1, wB g a1 y.2.2.1, wH g a4 y.2.2.2.1, wJ g a5 y.2.2.2.2]) (fun y => [wO g q3 fL, wX g a a1 a2 a3 a4 a5 a6 a7 y.2.1, wB g a1 y.2.2.1, wH g a4 y.2.2.2.1, wJ g a5 y.2.2.2.2]) z) (fun _ => True) := by
  refine MW.bg (by decide) (Nat.le_of_ble_eq_true rfl) ?_
  intro p e s m below meth c A Q hQ hx hb hr hml hown hts hts2 hlocks htab hK hE hA hP hD hS ls hl
  have hl : lv_has ls 4 [(0, .ref (a 0)), (1, .int p0), (2, .ref q3)] := hl
  refine lv_aload_n hx hb dL_pass_0 rfl (lv_at hl 2 rfl) ?_
  refine lv_iconst (v := 0) hx hb dL_pass_1 (by decide) ?_
  refine lv_aload_n hx hb dL_pass_2 rfl (lv_at hl 0 rfl) ?_
  refine lv_iload_n hx hb dL_pass_3 rfl (lv_at hl 1 rfl) ?_
  rcases z with y | y
  · have hkz : (0 : Int32) = kz := Option.some.inj hk
    subst hkz
    refine cx_n (v := some (.int y.1)) (csR := [wO g q3 fL]) (csF := [wO g q3 fL, wX g a a1 a2 a3 a4 a5 a6 a7 y.2.1, wB g a1 y.2.2.1, wH g a4 y.2.2.2.1, wJ g a5 y.2.2.2.2]) (rest := [.int 0, .ref q3]) hx hb hml hown hts hK hE hA hl hP hD hS (c_X4_pass g l hst a a1 a2 a3 a4 a5 a6 a7 x b h j p0 (.inl y) hF) [1, 2, 3, 4] [0] [0, 1, 2, 3, 4] ⟨rfl, rfl, rfl, rfl, rfl, rfl, rfl⟩ ⟨0, 8, _, _, rfl, rfl, rfl⟩ 1 (jb_giV (WT_in 968 (by decide +kernel) (by decide +kernel)) (WT_in 969 (by decide +kernel) (by decide +kernel)) (WT_in 970 (by decide +kernel) (by decide +kernel)) (WT_in 1 (by decide +kernel) (by decide +kernel)) (WT_in 971 (by decide +kernel) (by decide +kernel))) ⟨rfl, rfl⟩ (by decide +kernel) ⟨⟨(Nat.le_of_ble_eq_true rfl), (Nat.le_of_ble_eq_true rfl)⟩, (Nat.le_of_ble_eq_true rfl), (Nat.le_of_ble_eq_true rfl)⟩ ⟨rfl, rfl⟩ (Nat.le_of_ble_eq_true rfl) dL_pass_4 (fun H locs hP hD hS => ?_)
    refine W.eq (g2 := F0 m 7 ls [.int y.1, .int 0, .ref q3]) rfl ?_
    refine lv_i2l (v := i2l y.1) hx hb dL_pass_7 rfl ?_
    refine va_last hx hb hK hP hD hS 0 4 rfl rfl (show vp_in (0 : Int32) 1 by unfold vp_in; decide) dL_pass_8 (fun H locs hP hD hS => ?_)
    refine lv_goto (tgt := 15) hx hb dL_pass_9 (by decide) ?_
    refine lv_iconst (v := 0) hx hb dL_pass_15 (by decide) ?_
    rw [hQ]
    exact jg_zret hx hb hr rfl hlocks () hP hD hS dL_pass_16 rfl trivial (Nat.le_of_ble_eq_true rfl) (Nat.le_of_ble_eq_true rfl)
  · have hk : cd ["java/lang/IllegalArgumentException"] 1 y.1 = some kz := hk
    refine cx_x (E := y.1) (csR := [wO g q3 fL]) (csF := [wO g q3 fL, wX g a a1 a2 a3 a4 a5 a6 a7 y.2.1, wB g a1 y.2.2.1, wH g a4 y.2.2.2.1, wJ g a5 y.2.2.2.2]) (rest := [.int 0, .ref q3]) hx hb hml hown hts hK hE hA hl hP hD hS (c_X4_pass g l hst a a1 a2 a3 a4 a5 a6 a7 x b h j p0 (.inr y) hF) [1, 2, 3, 4] [0] [0, 1, 2, 3, 4] ⟨rfl, rfl, rfl, rfl, rfl, rfl, rfl⟩ ⟨0, 8, _, _, rfl, rfl, rfl⟩ 1 (jb_giV (WT_in 968 (by decide +kernel) (by decide +kernel)) (WT_in 969 (by decide +kernel) (by decide +kernel)) (WT_in 970 (by decide +kernel) (by decide +kernel)) (WT_in 1 (by decide +kernel) (by decide +kernel)) (WT_in 971 (by decide +kernel) (by decide +kernel))) ⟨rfl, rfl⟩ (by decide +kernel) ⟨⟨(Nat.le_of_ble_eq_true rfl), (Nat.le_of_ble_eq_true rfl)⟩, (Nat.le_of_ble_eq_true rfl), (Nat.le_of_ble_eq_true rfl)⟩ ⟨rfl, rfl⟩ (Nat.le_of_ble_eq_true rfl) dL_pass_4 (fun H locs q9 ce hP hD hS h1 h2 h3 => ?_)
    have hN := hE.2.2.2.2.2.2
    obtain ⟨he, hz9⟩ := cd_1 hk
    rw [he] at h3
    subst hz9
    refine vx_catch (name := "java/lang/IllegalArgumentException") hown [] ⟨0, 9, 12, 13⟩ [] (htab.trans rfl) (fun z9 hz9 => by cases hz9) rfl (by decide) (hts _ (WT_in 716 (by decide +kernel) (by decide +kernel))) (va_Nw.use rfl (hN.2.2.2.2.2.1 ("java/lang/IllegalArgumentException", "java/lang/IllegalArgumentException") (by decide +kernel))) h1 h2 h3 ?_
    refine lv_astore_n (lv' := [(3, .ref q9), (0, .ref (a 0)), (1, .int p0), (2, .ref q3)]) hx hb dL_pass_12 rfl hl (by decide) rfl (fun ls hl => ?_)
    refine lv_iconst (v := 1) hx hb dL_pass_13 (by decide) ?_
    rw [hQ]
    exact jg_zret hx hb hr rfl hlocks () hP hD hS dL_pass_14 rfl trivial (Nat.le_of_ble_eq_true rfl) (Nat.le_of_ble_eq_true rfl)
set_option maxHeartbeats 4000000 in
set_option maxRecDepth 100000 in
theorem h_setRate (g : GG) (l : Launch) (hst : l.stackTraces = false) (a a1 a2 a3 a4 a5 a6 a7 : Nat → Nat) (q3 : Nat) (fL : Nat → Int64) (x : Xv) (b : Bv) (h : Hv) (j : Jv) (p0 : Int32) (z : (Int32 × Xv × Bv × Hv × Jv) ⊕ (String × Xv × Bv × Hv × Jv)) (hF : F_X4_setRate x b h j p0 = some z) (kz : Int32) (hk : Sum.elim (fun _ => some 0) (fun y => cd ["java/lang/IllegalArgumentException", "java/lang/UnsupportedOperationException"] 1 y.1) z = some kz) : MW (G := Unit) g l yL_setRate cL_setRate 4 (some .int) [(0, 9, 12, 13), (0, 9, 15, 15)] ({ frames := 8, cells := 1, slots := 6, locals := 187 } : Room) [.ref (a 0), .int p0, .ref q3] [wO g q3 fL, wX g a a1 a2 a3 a4 a5 a6 a7 x, wB g a1 b, wH g a4 h, wJ g a5 j] 1 6 (fun _ => some (.int kz)) (fun _ => Sum.elim (fun y => [wO g q3 (vp_updL fL (0 : Int32).toNatClampNeg (i2l y.1)), wX g a a1 a2 a3 a4 a5 a6 a7 y.2.1, wB g a1 y.2.2.1, wH g a4 y.2.2.2.1, wJ g a5 y.2.2.2.2]) (fun y => [wO g q3 fL, wX g a a1 a2 a3 a4 a5 a6 a7 y.2.1, wB g a1 y.2.2.1, wH g a4 y.2.2.2.1, wJ g a5 y.2.2.2.2]) z) (fun _ => True) := by
  refine MW.bg (by decide) (Nat.le_of_ble_eq_true rfl) ?_
  intro p e s m below meth c A Q hQ hx hb hr hml hown hts hts2 hlocks htab hK hE hA hP hD hS ls hl
  have hl : lv_has ls 4 [(0, .ref (a 0)), (1, .int p0), (2, .ref q3)] := hl
  refine lv_aload_n hx hb dL_setRate_0 rfl (lv_at hl 2 rfl) ?_
  refine lv_iconst (v := 0) hx hb dL_setRate_1 (by decide) ?_
  refine lv_aload_n hx hb dL_setRate_2 rfl (lv_at hl 0 rfl) ?_
  refine lv_iload_n hx hb dL_setRate_3 rfl (lv_at hl 1 rfl) ?_
  rcases z with y | y
  · have hkz : (0 : Int32) = kz := Option.some.inj hk
    subst hkz
    refine cx_n (v := some (.int y.1)) (csR := [wO g q3 fL]) (csF := [wO g q3 fL, wX g a a1 a2 a3 a4 a5 a6 a7 y.2.1, wB g a1 y.2.2.1, wH g a4 y.2.2.2.1, wJ g a5 y.2.2.2.2]) (rest := [.int 0, .ref q3]) hx hb hml hown hts hK hE hA hl hP hD hS (c_X4_setRate g l hst a a1 a2 a3 a4 a5 a6 a7 x b h j p0 (.inl y) hF) [1, 2, 3, 4] [0] [0, 1, 2, 3, 4] ⟨rfl, rfl, rfl, rfl, rfl, rfl, rfl⟩ ⟨0, 8, _, _, rfl, rfl, rfl⟩ 1 (jb_giV (WT_in 1029 (by decide +kernel) (by decide +kernel)) (WT_in 1030 (by decide +kernel) (by decide +kernel)) (WT_in 1031 (by decide +kernel) (by decide +kernel)) (WT_in 1 (by decide +kernel) (by decide +kernel)) (WT_in 1032 (by decide +kernel) (by decide +kernel))) ⟨rfl, rfl⟩ (by decide +kernel) ⟨⟨(Nat.le_of_ble_eq_true rfl), (Nat.le_of_ble_eq_true rfl)⟩, (Nat.le_of_ble_eq_true rfl), (Nat.le_of_ble_eq_true rfl)⟩ ⟨rfl, rfl⟩ (Nat.le_of_ble_eq_true rfl) dL_setRate_4 (fun H locs hP hD hS => ?_)
    refine W.eq (g2 := F0 m 7 ls [.int y.1, .int 0, .ref q3]) rfl ?_
    refine lv_i2l (v := i2l y.1) hx hb dL_setRate_7 rfl ?_
    refine va_last hx hb hK hP hD hS 0 4 rfl rfl (show vp_in (0 : Int32) 1 by unfold vp_in; decide) dL_setRate_8 (fun H locs hP hD hS => ?_)
    refine lv_goto (tgt := 18) hx hb dL_setRate_9 (by decide) ?_
    refine lv_iconst (v := 0) hx hb dL_setRate_18 (by decide) ?_
    rw [hQ]
    exact jg_zret hx hb hr rfl hlocks () hP hD hS dL_setRate_19 rfl trivial (Nat.le_of_ble_eq_true rfl) (Nat.le_of_ble_eq_true rfl)
  · have hk : cd ["java/lang/IllegalArgumentException", "java/lang/UnsupportedOperationException"] 1 y.1 = some kz := hk
    refine cx_x (E := y.1) (csR := [wO g q3 fL]) (csF := [wO g q3 fL, wX g a a1 a2 a3 a4 a5 a6 a7 y.2.1, wB g a1 y.2.2.1, wH g a4 y.2.2.2.1, wJ g a5 y.2.2.2.2]) (rest := [.int 0, .ref q3]) hx hb hml hown hts hK hE hA hl hP hD hS (c_X4_setRate g l hst a a1 a2 a3 a4 a5 a6 a7 x b h j p0 (.inr y) hF) [1, 2, 3, 4] [0] [0, 1, 2, 3, 4] ⟨rfl, rfl, rfl, rfl, rfl, rfl, rfl⟩ ⟨0, 8, _, _, rfl, rfl, rfl⟩ 1 (jb_giV (WT_in 1029 (by decide +kernel) (by decide +kernel)) (WT_in 1030 (by decide +kernel) (by decide +kernel)) (WT_in 1031 (by decide +kernel) (by decide +kernel)) (WT_in 1 (by decide +kernel) (by decide +kernel)) (WT_in 1032 (by decide +kernel) (by decide +kernel))) ⟨rfl, rfl⟩ (by decide +kernel) ⟨⟨(Nat.le_of_ble_eq_true rfl), (Nat.le_of_ble_eq_true rfl)⟩, (Nat.le_of_ble_eq_true rfl), (Nat.le_of_ble_eq_true rfl)⟩ ⟨rfl, rfl⟩ (Nat.le_of_ble_eq_true rfl) dL_setRate_4 (fun H locs q9 ce hP hD hS h1 h2 h3 => ?_)
    have hN := hE.2.2.2.2.2.2
    rcases cd_2 hk with ⟨he, hz9⟩ | ⟨he, hz9⟩
    · rw [he] at h3
      subst hz9
      refine vx_catch (name := "java/lang/IllegalArgumentException") hown [] ⟨0, 9, 12, 13⟩ [⟨0, 9, 15, 15⟩] (htab.trans rfl) (fun z9 hz9 => by cases hz9) rfl (by decide) (hts _ (WT_in 716 (by decide +kernel) (by decide +kernel))) (va_Nw.use rfl (hN.2.2.2.2.2.1 ("java/lang/IllegalArgumentException", "java/lang/IllegalArgumentException") (by decide +kernel))) h1 h2 h3 ?_
      refine lv_astore_n (lv' := [(3, .ref q9), (0, .ref (a 0)), (1, .int p0), (2, .ref q3)]) hx hb dL_setRate_12 rfl hl (by decide) rfl (fun ls hl => ?_)
      refine lv_iconst (v := 1) hx hb dL_setRate_13 (by decide) ?_
      rw [hQ]
      exact jg_zret hx hb hr rfl hlocks () hP hD hS dL_setRate_14 rfl trivial (Nat.le_of_ble_eq_true rfl) (Nat.le_of_ble_eq_true rfl)
    · rw [he] at h3
      subst hz9
      refine vx_catch (name := "java/lang/UnsupportedOperationException") hown [⟨0, 9, 12, 13⟩] ⟨0, 9, 15, 15⟩ [] (htab.trans rfl) (fun z9 hz9 => by
        simp only [List.mem_cons, List.not_mem_nil, or_false] at hz9
        rcases hz9 with rfl
        · exact Or.inr ⟨by decide, "java/lang/IllegalArgumentException", hts _ (WT_in 716 (by decide +kernel) (by decide +kernel)), hN.2.2.2.2.1 ("java/lang/UnsupportedOperationException", "java/lang/IllegalArgumentException") (by decide +kernel)⟩) rfl (by decide) (hts _ (WT_in 717 (by decide +kernel) (by decide +kernel))) (va_Nw.use rfl (hN.2.2.2.2.2.1 ("java/lang/UnsupportedOperationException", "java/lang/UnsupportedOperationException") (by decide +kernel))) h1 h2 h3 ?_
      refine lv_astore_n (lv' := [(3, .ref q9), (0, .ref (a 0)), (1, .int p0), (2, .ref q3)]) hx hb dL_setRate_15 rfl hl (by decide) rfl (fun ls hl => ?_)
      refine lv_iconst (v := 2) hx hb dL_setRate_16 (by decide) ?_
      rw [hQ]
      exact jg_zret hx hb hr rfl hlocks () hP hD hS dL_setRate_17 rfl trivial (Nat.le_of_ble_eq_true rfl) (Nat.le_of_ble_eq_true rfl)
set_option maxHeartbeats 4000000 in
set_option maxRecDepth 100000 in
theorem h_vehicleAt (g : GG) (l : Launch) (hst : l.stackTraces = false) (a a1 a2 a3 a4 a5 a6 a7 : Nat → Nat) (q3 : Nat) (fL : Nat → Int64) (x : Xv) (b : Bv) (p0 : Int32) (z : (Int32) ⊕ (String)) (hF : F_X4_vehicleAt x b p0 = some z) (kz : Int32) (hk : Sum.elim (fun _ => some 0) (fun y => cd ["java/lang/IndexOutOfBoundsException"] 1 y) z = some kz) : MW (G := Unit) g l yL_vehicleAt cL_vehicleAt 4 (some .int) [(0, 9, 12, 25)] ({ frames := 7, cells := 1, slots := 6, locals := 111 } : Room) [.ref (a 0), .int p0, .ref q3] [wO g q3 fL, wX g a a1 a2 a3 a4 a5 a6 a7 x, wB g a1 b] 1 6 (fun _ => some (.int kz)) (fun _ => Sum.elim (fun y => [wO g q3 (vp_updL fL (0 : Int32).toNatClampNeg (i2l y)), wX g a a1 a2 a3 a4 a5 a6 a7 x, wB g a1 b]) (fun y => [wO g q3 fL, wX g a a1 a2 a3 a4 a5 a6 a7 x, wB g a1 b]) z) (fun _ => True) := by
  refine MW.bg (by decide) (Nat.le_of_ble_eq_true rfl) ?_
  intro p e s m below meth c A Q hQ hx hb hr hml hown hts hts2 hlocks htab hK hE hA hP hD hS ls hl
  have hl : lv_has ls 4 [(0, .ref (a 0)), (1, .int p0), (2, .ref q3)] := hl
  refine lv_aload_n hx hb dL_vehicleAt_0 rfl (lv_at hl 2 rfl) ?_
  refine lv_iconst (v := 0) hx hb dL_vehicleAt_1 (by decide) ?_
  refine lv_aload_n hx hb dL_vehicleAt_2 rfl (lv_at hl 0 rfl) ?_
  refine lv_iload_n hx hb dL_vehicleAt_3 rfl (lv_at hl 1 rfl) ?_
  rcases z with y | y
  · have hkz : (0 : Int32) = kz := Option.some.inj hk
    subst hkz
    refine cx_n (v := some (.int y)) (csR := [wO g q3 fL]) (csF := [wO g q3 fL, wX g a a1 a2 a3 a4 a5 a6 a7 x, wB g a1 b]) (rest := [.int 0, .ref q3]) hx hb hml hown hts hK hE hA hl hP hD hS (c_X4_vehicleAt g l hst a a1 a2 a3 a4 a5 a6 a7 x b p0 (.inl y) hF) [1, 2] [0] [0, 1, 2] ⟨rfl, rfl, rfl, rfl, rfl, rfl, rfl⟩ ⟨0, 8, _, _, rfl, rfl, rfl⟩ 1 (jb_giV (WT_in 1040 (by decide +kernel) (by decide +kernel)) (WT_in 1041 (by decide +kernel) (by decide +kernel)) (WT_in 1042 (by decide +kernel) (by decide +kernel)) (WT_in 1 (by decide +kernel) (by decide +kernel)) (WT_in 1043 (by decide +kernel) (by decide +kernel))) ⟨rfl, rfl⟩ (by decide +kernel) ⟨⟨(Nat.le_of_ble_eq_true rfl), (Nat.le_of_ble_eq_true rfl)⟩, (Nat.le_of_ble_eq_true rfl), (Nat.le_of_ble_eq_true rfl)⟩ ⟨rfl, rfl⟩ (Nat.le_of_ble_eq_true rfl) dL_vehicleAt_4 (fun H locs hP hD hS => ?_)
    refine W.eq (g2 := F0 m 7 ls [.int y, .int 0, .ref q3]) rfl ?_
    refine lv_i2l (v := i2l y) hx hb dL_vehicleAt_7 rfl ?_
    refine va_last hx hb hK hP hD hS 0 4 rfl rfl (show vp_in (0 : Int32) 1 by unfold vp_in; decide) dL_vehicleAt_8 (fun H locs hP hD hS => ?_)
    refine lv_goto (tgt := 15) hx hb dL_vehicleAt_9 (by decide) ?_
    refine lv_iconst (v := 0) hx hb dL_vehicleAt_15 (by decide) ?_
    rw [hQ]
    exact jg_zret hx hb hr rfl hlocks () hP hD hS dL_vehicleAt_16 rfl trivial (Nat.le_of_ble_eq_true rfl) (Nat.le_of_ble_eq_true rfl)
  · have hk : cd ["java/lang/IndexOutOfBoundsException"] 1 y = some kz := hk
    refine cx_x (E := y) (csR := [wO g q3 fL]) (csF := [wO g q3 fL, wX g a a1 a2 a3 a4 a5 a6 a7 x, wB g a1 b]) (rest := [.int 0, .ref q3]) hx hb hml hown hts hK hE hA hl hP hD hS (c_X4_vehicleAt g l hst a a1 a2 a3 a4 a5 a6 a7 x b p0 (.inr y) hF) [1, 2] [0] [0, 1, 2] ⟨rfl, rfl, rfl, rfl, rfl, rfl, rfl⟩ ⟨0, 8, _, _, rfl, rfl, rfl⟩ 1 (jb_giV (WT_in 1040 (by decide +kernel) (by decide +kernel)) (WT_in 1041 (by decide +kernel) (by decide +kernel)) (WT_in 1042 (by decide +kernel) (by decide +kernel)) (WT_in 1 (by decide +kernel) (by decide +kernel)) (WT_in 1043 (by decide +kernel) (by decide +kernel))) ⟨rfl, rfl⟩ (by decide +kernel) ⟨⟨(Nat.le_of_ble_eq_true rfl), (Nat.le_of_ble_eq_true rfl)⟩, (Nat.le_of_ble_eq_true rfl), (Nat.le_of_ble_eq_true rfl)⟩ ⟨rfl, rfl⟩ (Nat.le_of_ble_eq_true rfl) dL_vehicleAt_4 (fun H locs q9 ce hP hD hS h1 h2 h3 => ?_)
    have hN := hE.2.2.2.2.2.2
    obtain ⟨he, hz9⟩ := cd_1 hk
    rw [he] at h3
    subst hz9
    refine vx_catch (name := "java/lang/IndexOutOfBoundsException") hown [] ⟨0, 9, 12, 25⟩ [] (htab.trans rfl) (fun z9 hz9 => by cases hz9) rfl (by decide) (hts _ (WT_in 825 (by decide +kernel) (by decide +kernel))) (va_Nw.use rfl (hN.2.2.2.2.2.1 ("java/lang/IndexOutOfBoundsException", "java/lang/IndexOutOfBoundsException") (by decide +kernel))) h1 h2 h3 ?_
    refine lv_astore_n (lv' := [(3, .ref q9), (0, .ref (a 0)), (1, .int p0), (2, .ref q3)]) hx hb dL_vehicleAt_12 rfl hl (by decide) rfl (fun ls hl => ?_)
    refine lv_iconst (v := 1) hx hb dL_vehicleAt_13 (by decide) ?_
    rw [hQ]
    exact jg_zret hx hb hr rfl hlocks () hP hD hS dL_vehicleAt_14 rfl trivial (Nat.le_of_ble_eq_true rfl) (Nat.le_of_ble_eq_true rfl)
set_option maxHeartbeats 4000000 in
set_option maxRecDepth 100000 in
theorem h_weightOf (g : GG) (l : Launch) (hst : l.stackTraces = false) (a a1 a2 a3 a4 a5 a6 a7 : Nat → Nat) (q3 : Nat) (fL : Nat → Int64) (x : Xv) (b : Bv) (p0 : Int32) (z : (Int32) ⊕ (String)) (hF : F_X4_weightOf x b p0 = some z) (kz : Int32) (hk : Sum.elim (fun _ => some 0) (fun y => cd ["java/util/NoSuchElementException"] 1 y) z = some kz) : MW (G := Unit) g l yL_weightOf cL_weightOf 4 (some .int) [(0, 9, 12, 55)] ({ frames := 8, cells := 1, slots := 6, locals := 133 } : Room) [.ref (a 0), .int p0, .ref q3] [wO g q3 fL, wX g a a1 a2 a3 a4 a5 a6 a7 x, wB g a1 b] 1 6 (fun _ => some (.int kz)) (fun _ => Sum.elim (fun y => [wO g q3 (vp_updL fL (0 : Int32).toNatClampNeg (i2l y)), wX g a a1 a2 a3 a4 a5 a6 a7 x, wB g a1 b]) (fun y => [wO g q3 fL, wX g a a1 a2 a3 a4 a5 a6 a7 x, wB g a1 b]) z) (fun _ => True) := by
  refine MW.bg (by decide) (Nat.le_of_ble_eq_true rfl) ?_
  intro p e s m below meth c A Q hQ hx hb hr hml hown hts hts2 hlocks htab hK hE hA hP hD hS ls hl
  have hl : lv_has ls 4 [(0, .ref (a 0)), (1, .int p0), (2, .ref q3)] := hl
  refine lv_aload_n hx hb dL_weightOf_0 rfl (lv_at hl 2 rfl) ?_
  refine lv_iconst (v := 0) hx hb dL_weightOf_1 (by decide) ?_
  refine lv_aload_n hx hb dL_weightOf_2 rfl (lv_at hl 0 rfl) ?_
  refine lv_iload_n hx hb dL_weightOf_3 rfl (lv_at hl 1 rfl) ?_
  rcases z with y | y
  · have hkz : (0 : Int32) = kz := Option.some.inj hk
    subst hkz
    refine cx_n (v := some (.int y)) (csR := [wO g q3 fL]) (csF := [wO g q3 fL, wX g a a1 a2 a3 a4 a5 a6 a7 x, wB g a1 b]) (rest := [.int 0, .ref q3]) hx hb hml hown hts hK hE hA hl hP hD hS (c_X4_weightOf g l hst a a1 a2 a3 a4 a5 a6 a7 x b p0 (.inl y) hF) [1, 2] [0] [0, 1, 2] ⟨rfl, rfl, rfl, rfl, rfl, rfl, rfl⟩ ⟨0, 8, _, _, rfl, rfl, rfl⟩ 1 (jb_giV (WT_in 1048 (by decide +kernel) (by decide +kernel)) (WT_in 1049 (by decide +kernel) (by decide +kernel)) (WT_in 1050 (by decide +kernel) (by decide +kernel)) (WT_in 1 (by decide +kernel) (by decide +kernel)) (WT_in 1051 (by decide +kernel) (by decide +kernel))) ⟨rfl, rfl⟩ (by decide +kernel) ⟨⟨(Nat.le_of_ble_eq_true rfl), (Nat.le_of_ble_eq_true rfl)⟩, (Nat.le_of_ble_eq_true rfl), (Nat.le_of_ble_eq_true rfl)⟩ ⟨rfl, rfl⟩ (Nat.le_of_ble_eq_true rfl) dL_weightOf_4 (fun H locs hP hD hS => ?_)
    refine W.eq (g2 := F0 m 7 ls [.int y, .int 0, .ref q3]) rfl ?_
    refine lv_i2l (v := i2l y) hx hb dL_weightOf_7 rfl ?_
    refine va_last hx hb hK hP hD hS 0 4 rfl rfl (show vp_in (0 : Int32) 1 by unfold vp_in; decide) dL_weightOf_8 (fun H locs hP hD hS => ?_)
    refine lv_goto (tgt := 15) hx hb dL_weightOf_9 (by decide) ?_
    refine lv_iconst (v := 0) hx hb dL_weightOf_15 (by decide) ?_
    rw [hQ]
    exact jg_zret hx hb hr rfl hlocks () hP hD hS dL_weightOf_16 rfl trivial (Nat.le_of_ble_eq_true rfl) (Nat.le_of_ble_eq_true rfl)
  · have hk : cd ["java/util/NoSuchElementException"] 1 y = some kz := hk
    refine cx_x (E := y) (csR := [wO g q3 fL]) (csF := [wO g q3 fL, wX g a a1 a2 a3 a4 a5 a6 a7 x, wB g a1 b]) (rest := [.int 0, .ref q3]) hx hb hml hown hts hK hE hA hl hP hD hS (c_X4_weightOf g l hst a a1 a2 a3 a4 a5 a6 a7 x b p0 (.inr y) hF) [1, 2] [0] [0, 1, 2] ⟨rfl, rfl, rfl, rfl, rfl, rfl, rfl⟩ ⟨0, 8, _, _, rfl, rfl, rfl⟩ 1 (jb_giV (WT_in 1048 (by decide +kernel) (by decide +kernel)) (WT_in 1049 (by decide +kernel) (by decide +kernel)) (WT_in 1050 (by decide +kernel) (by decide +kernel)) (WT_in 1 (by decide +kernel) (by decide +kernel)) (WT_in 1051 (by decide +kernel) (by decide +kernel))) ⟨rfl, rfl⟩ (by decide +kernel) ⟨⟨(Nat.le_of_ble_eq_true rfl), (Nat.le_of_ble_eq_true rfl)⟩, (Nat.le_of_ble_eq_true rfl), (Nat.le_of_ble_eq_true rfl)⟩ ⟨rfl, rfl⟩ (Nat.le_of_ble_eq_true rfl) dL_weightOf_4 (fun H locs q9 ce hP hD hS h1 h2 h3 => ?_)
    have hN := hE.2.2.2.2.2.2
    obtain ⟨he, hz9⟩ := cd_1 hk
    rw [he] at h3
    subst hz9
    refine vx_catch (name := "java/util/NoSuchElementException") hown [] ⟨0, 9, 12, 55⟩ [] (htab.trans rfl) (fun z9 hz9 => by cases hz9) rfl (by decide) (hts _ (WT_in 904 (by decide +kernel) (by decide +kernel))) (va_Nw.use rfl (hN.2.2.2.2.2.1 ("java/util/NoSuchElementException", "java/util/NoSuchElementException") (by decide +kernel))) h1 h2 h3 ?_
    refine lv_astore_n (lv' := [(3, .ref q9), (0, .ref (a 0)), (1, .int p0), (2, .ref q3)]) hx hb dL_weightOf_12 rfl hl (by decide) rfl (fun ls hl => ?_)
    refine lv_iconst (v := 1) hx hb dL_weightOf_13 (by decide) ?_
    rw [hQ]
    exact jg_zret hx hb hr rfl hlocks () hP hD hS dL_weightOf_14 rfl trivial (Nat.le_of_ble_eq_true rfl) (Nat.le_of_ble_eq_true rfl)
set_option maxHeartbeats 4000000 in
set_option maxRecDepth 100000 in
theorem h_spanOf (g : GG) (l : Launch) (hst : l.stackTraces = false) (a a1 a2 a3 a4 a5 a6 a7 : Nat → Nat) (q3 : Nat) (fL : Nat → Int64) (x : Xv) (b : Bv) (p0 : Int32) (z : (Int32) ⊕ (String)) (hF : F_X4_spanOf x b p0 = some z) (kz : Int32) (hk : Sum.elim (fun _ => some 0) (fun y => cd ["java/util/NoSuchElementException"] 1 y) z = some kz) : MW (G := Unit) g l yL_spanOf cL_spanOf 4 (some .int) [(0, 9, 12, 55)] ({ frames := 8, cells := 1, slots := 6, locals := 133 } : Room) [.ref (a 0), .int p0, .ref q3] [wO g q3 fL, wX g a a1 a2 a3 a4 a5 a6 a7 x, wB g a1 b] 1 6 (fun _ => some (.int kz)) (fun _ => Sum.elim (fun y => [wO g q3 (vp_updL fL (0 : Int32).toNatClampNeg (i2l y)), wX g a a1 a2 a3 a4 a5 a6 a7 x, wB g a1 b]) (fun y => [wO g q3 fL, wX g a a1 a2 a3 a4 a5 a6 a7 x, wB g a1 b]) z) (fun _ => True) := by
  refine MW.bg (by decide) (Nat.le_of_ble_eq_true rfl) ?_
  intro p e s m below meth c A Q hQ hx hb hr hml hown hts hts2 hlocks htab hK hE hA hP hD hS ls hl
  have hl : lv_has ls 4 [(0, .ref (a 0)), (1, .int p0), (2, .ref q3)] := hl
  refine lv_aload_n hx hb dL_spanOf_0 rfl (lv_at hl 2 rfl) ?_
  refine lv_iconst (v := 0) hx hb dL_spanOf_1 (by decide) ?_
  refine lv_aload_n hx hb dL_spanOf_2 rfl (lv_at hl 0 rfl) ?_
  refine lv_iload_n hx hb dL_spanOf_3 rfl (lv_at hl 1 rfl) ?_
  rcases z with y | y
  · have hkz : (0 : Int32) = kz := Option.some.inj hk
    subst hkz
    refine cx_n (v := some (.int y)) (csR := [wO g q3 fL]) (csF := [wO g q3 fL, wX g a a1 a2 a3 a4 a5 a6 a7 x, wB g a1 b]) (rest := [.int 0, .ref q3]) hx hb hml hown hts hK hE hA hl hP hD hS (c_X4_spanOf g l hst a a1 a2 a3 a4 a5 a6 a7 x b p0 (.inl y) hF) [1, 2] [0] [0, 1, 2] ⟨rfl, rfl, rfl, rfl, rfl, rfl, rfl⟩ ⟨0, 8, _, _, rfl, rfl, rfl⟩ 1 (jb_giV (WT_in 1064 (by decide +kernel) (by decide +kernel)) (WT_in 1065 (by decide +kernel) (by decide +kernel)) (WT_in 1066 (by decide +kernel) (by decide +kernel)) (WT_in 1 (by decide +kernel) (by decide +kernel)) (WT_in 1067 (by decide +kernel) (by decide +kernel))) ⟨rfl, rfl⟩ (by decide +kernel) ⟨⟨(Nat.le_of_ble_eq_true rfl), (Nat.le_of_ble_eq_true rfl)⟩, (Nat.le_of_ble_eq_true rfl), (Nat.le_of_ble_eq_true rfl)⟩ ⟨rfl, rfl⟩ (Nat.le_of_ble_eq_true rfl) dL_spanOf_4 (fun H locs hP hD hS => ?_)
    refine W.eq (g2 := F0 m 7 ls [.int y, .int 0, .ref q3]) rfl ?_
    refine lv_i2l (v := i2l y) hx hb dL_spanOf_7 rfl ?_
    refine va_last hx hb hK hP hD hS 0 4 rfl rfl (show vp_in (0 : Int32) 1 by unfold vp_in; decide) dL_spanOf_8 (fun H locs hP hD hS => ?_)
    refine lv_goto (tgt := 15) hx hb dL_spanOf_9 (by decide) ?_
    refine lv_iconst (v := 0) hx hb dL_spanOf_15 (by decide) ?_
    rw [hQ]
    exact jg_zret hx hb hr rfl hlocks () hP hD hS dL_spanOf_16 rfl trivial (Nat.le_of_ble_eq_true rfl) (Nat.le_of_ble_eq_true rfl)
  · have hk : cd ["java/util/NoSuchElementException"] 1 y = some kz := hk
    refine cx_x (E := y) (csR := [wO g q3 fL]) (csF := [wO g q3 fL, wX g a a1 a2 a3 a4 a5 a6 a7 x, wB g a1 b]) (rest := [.int 0, .ref q3]) hx hb hml hown hts hK hE hA hl hP hD hS (c_X4_spanOf g l hst a a1 a2 a3 a4 a5 a6 a7 x b p0 (.inr y) hF) [1, 2] [0] [0, 1, 2] ⟨rfl, rfl, rfl, rfl, rfl, rfl, rfl⟩ ⟨0, 8, _, _, rfl, rfl, rfl⟩ 1 (jb_giV (WT_in 1064 (by decide +kernel) (by decide +kernel)) (WT_in 1065 (by decide +kernel) (by decide +kernel)) (WT_in 1066 (by decide +kernel) (by decide +kernel)) (WT_in 1 (by decide +kernel) (by decide +kernel)) (WT_in 1067 (by decide +kernel) (by decide +kernel))) ⟨rfl, rfl⟩ (by decide +kernel) ⟨⟨(Nat.le_of_ble_eq_true rfl), (Nat.le_of_ble_eq_true rfl)⟩, (Nat.le_of_ble_eq_true rfl), (Nat.le_of_ble_eq_true rfl)⟩ ⟨rfl, rfl⟩ (Nat.le_of_ble_eq_true rfl) dL_spanOf_4 (fun H locs q9 ce hP hD hS h1 h2 h3 => ?_)
    have hN := hE.2.2.2.2.2.2
    obtain ⟨he, hz9⟩ := cd_1 hk
    rw [he] at h3
    subst hz9
    refine vx_catch (name := "java/util/NoSuchElementException") hown [] ⟨0, 9, 12, 55⟩ [] (htab.trans rfl) (fun z9 hz9 => by cases hz9) rfl (by decide) (hts _ (WT_in 904 (by decide +kernel) (by decide +kernel))) (va_Nw.use rfl (hN.2.2.2.2.2.1 ("java/util/NoSuchElementException", "java/util/NoSuchElementException") (by decide +kernel))) h1 h2 h3 ?_
    refine lv_astore_n (lv' := [(3, .ref q9), (0, .ref (a 0)), (1, .int p0), (2, .ref q3)]) hx hb dL_spanOf_12 rfl hl (by decide) rfl (fun ls hl => ?_)
    refine lv_iconst (v := 1) hx hb dL_spanOf_13 (by decide) ?_
    rw [hQ]
    exact jg_zret hx hb hr rfl hlocks () hP hD hS dL_spanOf_14 rfl trivial (Nat.le_of_ble_eq_true rfl) (Nat.le_of_ble_eq_true rfl)
set_option maxHeartbeats 4000000 in
set_option maxRecDepth 100000 in
theorem h_tollOf (g : GG) (l : Launch) (hst : l.stackTraces = false) (a a1 a2 a3 a4 a5 a6 a7 : Nat → Nat) (q3 : Nat) (fL : Nat → Int64) (x : Xv) (b : Bv) (p0 : Int32) (z : (Int32) ⊕ (String)) (hF : F_X4_tollOf x b p0 = some z) (kz : Int32) (hk : Sum.elim (fun _ => some 0) (fun y => cd ["java/util/NoSuchElementException"] 1 y) z = some kz) : MW (G := Unit) g l yL_tollOf cL_tollOf 4 (some .int) [(0, 9, 12, 55)] ({ frames := 8, cells := 1, slots := 6, locals := 133 } : Room) [.ref (a 0), .int p0, .ref q3] [wO g q3 fL, wX g a a1 a2 a3 a4 a5 a6 a7 x, wB g a1 b] 1 6 (fun _ => some (.int kz)) (fun _ => Sum.elim (fun y => [wO g q3 (vp_updL fL (0 : Int32).toNatClampNeg (i2l y)), wX g a a1 a2 a3 a4 a5 a6 a7 x, wB g a1 b]) (fun y => [wO g q3 fL, wX g a a1 a2 a3 a4 a5 a6 a7 x, wB g a1 b]) z) (fun _ => True) := by
  refine MW.bg (by decide) (Nat.le_of_ble_eq_true rfl) ?_
  intro p e s m below meth c A Q hQ hx hb hr hml hown hts hts2 hlocks htab hK hE hA hP hD hS ls hl
  have hl : lv_has ls 4 [(0, .ref (a 0)), (1, .int p0), (2, .ref q3)] := hl
  refine lv_aload_n hx hb dL_tollOf_0 rfl (lv_at hl 2 rfl) ?_
  refine lv_iconst (v := 0) hx hb dL_tollOf_1 (by decide) ?_
  refine lv_aload_n hx hb dL_tollOf_2 rfl (lv_at hl 0 rfl) ?_
  refine lv_iload_n hx hb dL_tollOf_3 rfl (lv_at hl 1 rfl) ?_
  rcases z with y | y
  · have hkz : (0 : Int32) = kz := Option.some.inj hk
    subst hkz
    refine cx_n (v := some (.int y)) (csR := [wO g q3 fL]) (csF := [wO g q3 fL, wX g a a1 a2 a3 a4 a5 a6 a7 x, wB g a1 b]) (rest := [.int 0, .ref q3]) hx hb hml hown hts hK hE hA hl hP hD hS (c_X4_tollOf g l hst a a1 a2 a3 a4 a5 a6 a7 x b p0 (.inl y) hF) [1, 2] [0] [0, 1, 2] ⟨rfl, rfl, rfl, rfl, rfl, rfl, rfl⟩ ⟨0, 8, _, _, rfl, rfl, rfl⟩ 1 (jb_giV (WT_in 1071 (by decide +kernel) (by decide +kernel)) (WT_in 1072 (by decide +kernel) (by decide +kernel)) (WT_in 1073 (by decide +kernel) (by decide +kernel)) (WT_in 1 (by decide +kernel) (by decide +kernel)) (WT_in 1074 (by decide +kernel) (by decide +kernel))) ⟨rfl, rfl⟩ (by decide +kernel) ⟨⟨(Nat.le_of_ble_eq_true rfl), (Nat.le_of_ble_eq_true rfl)⟩, (Nat.le_of_ble_eq_true rfl), (Nat.le_of_ble_eq_true rfl)⟩ ⟨rfl, rfl⟩ (Nat.le_of_ble_eq_true rfl) dL_tollOf_4 (fun H locs hP hD hS => ?_)
    refine W.eq (g2 := F0 m 7 ls [.int y, .int 0, .ref q3]) rfl ?_
    refine lv_i2l (v := i2l y) hx hb dL_tollOf_7 rfl ?_
    refine va_last hx hb hK hP hD hS 0 4 rfl rfl (show vp_in (0 : Int32) 1 by unfold vp_in; decide) dL_tollOf_8 (fun H locs hP hD hS => ?_)
    refine lv_goto (tgt := 15) hx hb dL_tollOf_9 (by decide) ?_
    refine lv_iconst (v := 0) hx hb dL_tollOf_15 (by decide) ?_
    rw [hQ]
    exact jg_zret hx hb hr rfl hlocks () hP hD hS dL_tollOf_16 rfl trivial (Nat.le_of_ble_eq_true rfl) (Nat.le_of_ble_eq_true rfl)
  · have hk : cd ["java/util/NoSuchElementException"] 1 y = some kz := hk
    refine cx_x (E := y) (csR := [wO g q3 fL]) (csF := [wO g q3 fL, wX g a a1 a2 a3 a4 a5 a6 a7 x, wB g a1 b]) (rest := [.int 0, .ref q3]) hx hb hml hown hts hK hE hA hl hP hD hS (c_X4_tollOf g l hst a a1 a2 a3 a4 a5 a6 a7 x b p0 (.inr y) hF) [1, 2] [0] [0, 1, 2] ⟨rfl, rfl, rfl, rfl, rfl, rfl, rfl⟩ ⟨0, 8, _, _, rfl, rfl, rfl⟩ 1 (jb_giV (WT_in 1071 (by decide +kernel) (by decide +kernel)) (WT_in 1072 (by decide +kernel) (by decide +kernel)) (WT_in 1073 (by decide +kernel) (by decide +kernel)) (WT_in 1 (by decide +kernel) (by decide +kernel)) (WT_in 1074 (by decide +kernel) (by decide +kernel))) ⟨rfl, rfl⟩ (by decide +kernel) ⟨⟨(Nat.le_of_ble_eq_true rfl), (Nat.le_of_ble_eq_true rfl)⟩, (Nat.le_of_ble_eq_true rfl), (Nat.le_of_ble_eq_true rfl)⟩ ⟨rfl, rfl⟩ (Nat.le_of_ble_eq_true rfl) dL_tollOf_4 (fun H locs q9 ce hP hD hS h1 h2 h3 => ?_)
    have hN := hE.2.2.2.2.2.2
    obtain ⟨he, hz9⟩ := cd_1 hk
    rw [he] at h3
    subst hz9
    refine vx_catch (name := "java/util/NoSuchElementException") hown [] ⟨0, 9, 12, 55⟩ [] (htab.trans rfl) (fun z9 hz9 => by cases hz9) rfl (by decide) (hts _ (WT_in 904 (by decide +kernel) (by decide +kernel))) (va_Nw.use rfl (hN.2.2.2.2.2.1 ("java/util/NoSuchElementException", "java/util/NoSuchElementException") (by decide +kernel))) h1 h2 h3 ?_
    refine lv_astore_n (lv' := [(3, .ref q9), (0, .ref (a 0)), (1, .int p0), (2, .ref q3)]) hx hb dL_tollOf_12 rfl hl (by decide) rfl (fun ls hl => ?_)
    refine lv_iconst (v := 1) hx hb dL_tollOf_13 (by decide) ?_
    rw [hQ]
    exact jg_zret hx hb hr rfl hlocks () hP hD hS dL_tollOf_14 rfl trivial (Nat.le_of_ble_eq_true rfl) (Nat.le_of_ble_eq_true rfl)
set_option maxHeartbeats 4000000 in
set_option maxRecDepth 100000 in
theorem h_hoursUntilOver (g : GG) (l : Launch) (hst : l.stackTraces = false) (a a1 a2 a3 a4 a5 a6 a7 : Nat → Nat) (q3 : Nat) (fL : Nat → Int64) (x : Xv) (b : Bv) (t : Bv) (p0 : Int32) (z : (Int32 × Bv) ⊕ (String × Bv)) (hF : F_X4_hoursUntilOver x b t p0 = some z) (kz : Int32) (hk : Sum.elim (fun _ => some 0) (fun y => cd ["java/util/NoSuchElementException"] 1 y.1) z = some kz) : MW (G := Unit) g l yL_hoursUntilOver cL_hoursUntilOver 4 (some .int) [(0, 9, 12, 55)] ({ frames := 7, cells := 1, slots := 6, locals := 144 } : Room) [.ref (a 0), .int p0, .ref q3] [wO g q3 fL, wX g a a1 a2 a3 a4 a5 a6 a7 x, wB g a1 b, wB g a2 t] 1 6 (fun _ => some (.int kz)) (fun _ => Sum.elim (fun y => [wO g q3 (vp_updL fL (0 : Int32).toNatClampNeg (i2l y.1)), wX g a a1 a2 a3 a4 a5 a6 a7 x, wB g a1 b, wB g a2 y.2]) (fun y => [wO g q3 fL, wX g a a1 a2 a3 a4 a5 a6 a7 x, wB g a1 b, wB g a2 y.2]) z) (fun _ => True) := by
  refine MW.bg (by decide) (Nat.le_of_ble_eq_true rfl) ?_
  intro p e s m below meth c A Q hQ hx hb hr hml hown hts hts2 hlocks htab hK hE hA hP hD hS ls hl
  have hl : lv_has ls 4 [(0, .ref (a 0)), (1, .int p0), (2, .ref q3)] := hl
  refine lv_aload_n hx hb dL_hoursUntilOver_0 rfl (lv_at hl 2 rfl) ?_
  refine lv_iconst (v := 0) hx hb dL_hoursUntilOver_1 (by decide) ?_
  refine lv_aload_n hx hb dL_hoursUntilOver_2 rfl (lv_at hl 0 rfl) ?_
  refine lv_iload_n hx hb dL_hoursUntilOver_3 rfl (lv_at hl 1 rfl) ?_
  rcases z with y | y
  · have hkz : (0 : Int32) = kz := Option.some.inj hk
    subst hkz
    refine cx_n (v := some (.int y.1)) (csR := [wO g q3 fL]) (csF := [wO g q3 fL, wX g a a1 a2 a3 a4 a5 a6 a7 x, wB g a1 b, wB g a2 y.2]) (rest := [.int 0, .ref q3]) hx hb hml hown hts hK hE hA hl hP hD hS (c_X4_hoursUntilOver g l hst a a1 a2 a3 a4 a5 a6 a7 x b t p0 (.inl y) hF) [1, 2, 3] [0] [0, 1, 2, 3] ⟨rfl, rfl, rfl, rfl, rfl, rfl, rfl⟩ ⟨0, 8, _, _, rfl, rfl, rfl⟩ 1 (jb_giV (WT_in 1079 (by decide +kernel) (by decide +kernel)) (WT_in 1080 (by decide +kernel) (by decide +kernel)) (WT_in 1081 (by decide +kernel) (by decide +kernel)) (WT_in 1 (by decide +kernel) (by decide +kernel)) (WT_in 1082 (by decide +kernel) (by decide +kernel))) ⟨rfl, rfl⟩ (by decide +kernel) ⟨⟨(Nat.le_of_ble_eq_true rfl), (Nat.le_of_ble_eq_true rfl)⟩, (Nat.le_of_ble_eq_true rfl), (Nat.le_of_ble_eq_true rfl)⟩ ⟨rfl, rfl⟩ (Nat.le_of_ble_eq_true rfl) dL_hoursUntilOver_4 (fun H locs hP hD hS => ?_)
    refine W.eq (g2 := F0 m 7 ls [.int y.1, .int 0, .ref q3]) rfl ?_
    refine lv_i2l (v := i2l y.1) hx hb dL_hoursUntilOver_7 rfl ?_
    refine va_last hx hb hK hP hD hS 0 4 rfl rfl (show vp_in (0 : Int32) 1 by unfold vp_in; decide) dL_hoursUntilOver_8 (fun H locs hP hD hS => ?_)
    refine lv_goto (tgt := 15) hx hb dL_hoursUntilOver_9 (by decide) ?_
    refine lv_iconst (v := 0) hx hb dL_hoursUntilOver_15 (by decide) ?_
    rw [hQ]
    exact jg_zret hx hb hr rfl hlocks () hP hD hS dL_hoursUntilOver_16 rfl trivial (Nat.le_of_ble_eq_true rfl) (Nat.le_of_ble_eq_true rfl)
  · have hk : cd ["java/util/NoSuchElementException"] 1 y.1 = some kz := hk
    refine cx_x (E := y.1) (csR := [wO g q3 fL]) (csF := [wO g q3 fL, wX g a a1 a2 a3 a4 a5 a6 a7 x, wB g a1 b, wB g a2 y.2]) (rest := [.int 0, .ref q3]) hx hb hml hown hts hK hE hA hl hP hD hS (c_X4_hoursUntilOver g l hst a a1 a2 a3 a4 a5 a6 a7 x b t p0 (.inr y) hF) [1, 2, 3] [0] [0, 1, 2, 3] ⟨rfl, rfl, rfl, rfl, rfl, rfl, rfl⟩ ⟨0, 8, _, _, rfl, rfl, rfl⟩ 1 (jb_giV (WT_in 1079 (by decide +kernel) (by decide +kernel)) (WT_in 1080 (by decide +kernel) (by decide +kernel)) (WT_in 1081 (by decide +kernel) (by decide +kernel)) (WT_in 1 (by decide +kernel) (by decide +kernel)) (WT_in 1082 (by decide +kernel) (by decide +kernel))) ⟨rfl, rfl⟩ (by decide +kernel) ⟨⟨(Nat.le_of_ble_eq_true rfl), (Nat.le_of_ble_eq_true rfl)⟩, (Nat.le_of_ble_eq_true rfl), (Nat.le_of_ble_eq_true rfl)⟩ ⟨rfl, rfl⟩ (Nat.le_of_ble_eq_true rfl) dL_hoursUntilOver_4 (fun H locs q9 ce hP hD hS h1 h2 h3 => ?_)
    have hN := hE.2.2.2.2.2.2
    obtain ⟨he, hz9⟩ := cd_1 hk
    rw [he] at h3
    subst hz9
    refine vx_catch (name := "java/util/NoSuchElementException") hown [] ⟨0, 9, 12, 55⟩ [] (htab.trans rfl) (fun z9 hz9 => by cases hz9) rfl (by decide) (hts _ (WT_in 904 (by decide +kernel) (by decide +kernel))) (va_Nw.use rfl (hN.2.2.2.2.2.1 ("java/util/NoSuchElementException", "java/util/NoSuchElementException") (by decide +kernel))) h1 h2 h3 ?_
    refine lv_astore_n (lv' := [(3, .ref q9), (0, .ref (a 0)), (1, .int p0), (2, .ref q3)]) hx hb dL_hoursUntilOver_12 rfl hl (by decide) rfl (fun ls hl => ?_)
    refine lv_iconst (v := 1) hx hb dL_hoursUntilOver_13 (by decide) ?_
    rw [hQ]
    exact jg_zret hx hb hr rfl hlocks () hP hD hS dL_hoursUntilOver_14 rfl trivial (Nat.le_of_ble_eq_true rfl) (Nat.le_of_ble_eq_true rfl)
set_option maxHeartbeats 4000000 in
set_option maxRecDepth 100000 in
theorem h_meanStrength (g : GG) (l : Launch) (hst : l.stackTraces = false) (a a1 a2 a3 a4 a5 a6 a7 : Nat → Nat) (q3 : Nat) (fD : Nat → UInt64) (x : Xv) (b : Bv)  (z : (UInt64) ⊕ (String)) (hF : F_X4_meanStrength x b  = some z) (kz : Int32) (hk : Sum.elim (fun _ => some 0) (fun y => cd ["java/lang/ArithmeticException"] 1 y) z = some kz) : MW (G := Unit) g l yL_meanStrength cL_meanStrength 3 (some .int) [(0, 7, 10, 91)] ({ frames := 7, cells := 1, slots := 6, locals := 112 } : Room) [.ref (a 0), .ref q3] [wOD g q3 fD, wX g a a1 a2 a3 a4 a5 a6 a7 x, wB g a1 b] 1 6 (fun _ => some (.int kz)) (fun _ => Sum.elim (fun y => [wOD g q3 (vf_upd fD (0 : Int32).toNatClampNeg y), wX g a a1 a2 a3 a4 a5 a6 a7 x, wB g a1 b]) (fun y => [wOD g q3 fD, wX g a a1 a2 a3 a4 a5 a6 a7 x, wB g a1 b]) z) (fun _ => True) := by
  refine MW.bg (by decide) (Nat.le_of_ble_eq_true rfl) ?_
  intro p e s m below meth c A Q hQ hx hb hr hml hown hts hts2 hlocks htab hK hE hA hP hD hS ls hl
  have hl : lv_has ls 3 [(0, .ref (a 0)), (1, .ref q3)] := hl
  refine lv_aload_n hx hb dL_meanStrength_0 rfl (lv_at hl 1 rfl) ?_
  refine lv_iconst (v := 0) hx hb dL_meanStrength_1 (by decide) ?_
  refine lv_aload_n hx hb dL_meanStrength_2 rfl (lv_at hl 0 rfl) ?_
  rcases z with y | y
  · have hkz : (0 : Int32) = kz := Option.some.inj hk
    subst hkz
    refine cx_n (v := some (.double y)) (csR := [wOD g q3 fD]) (csF := [wOD g q3 fD, wX g a a1 a2 a3 a4 a5 a6 a7 x, wB g a1 b]) (rest := [.int 0, .ref q3]) hx hb hml hown hts hK hE hA hl hP hD hS (c_X4_meanStrength g l hst a a1 a2 a3 a4 a5 a6 a7 x b  (.inl y) hF) [1, 2] [0] [0, 1, 2] ⟨rfl, rfl, rfl, rfl, rfl, rfl, rfl⟩ ⟨0, 8, _, _, rfl, rfl, rfl⟩ 0 (jb_giV (WT_in 1103 (by decide +kernel) (by decide +kernel)) (WT_in 1104 (by decide +kernel) (by decide +kernel)) (WT_in 1105 (by decide +kernel) (by decide +kernel)) (WT_in 1 (by decide +kernel) (by decide +kernel)) (WT_in 1106 (by decide +kernel) (by decide +kernel))) ⟨rfl, rfl⟩ (by decide +kernel) ⟨⟨(Nat.le_of_ble_eq_true rfl), (Nat.le_of_ble_eq_true rfl)⟩, (Nat.le_of_ble_eq_true rfl), (Nat.le_of_ble_eq_true rfl)⟩ ⟨rfl, rfl⟩ (Nat.le_of_ble_eq_true rfl) dL_meanStrength_3 (fun H locs hP hD hS => ?_)
    refine W.eq (g2 := F0 m 6 ls [.double y, .int 0, .ref q3]) rfl ?_
    refine va_dast hx hb hK hP hD hS 0 5 rfl rfl (show vp_in (0 : Int32) 1 by unfold vp_in; decide) dL_meanStrength_6 (fun H locs hP hD hS => ?_)
    refine lv_goto (tgt := 13) hx hb dL_meanStrength_7 (by decide) ?_
    refine lv_iconst (v := 0) hx hb dL_meanStrength_13 (by decide) ?_
    rw [hQ]
    exact jg_zret hx hb hr rfl hlocks () hP hD hS dL_meanStrength_14 rfl trivial (Nat.le_of_ble_eq_true rfl) (Nat.le_of_ble_eq_true rfl)
  · have hk : cd ["java/lang/ArithmeticException"] 1 y = some kz := hk
    refine cx_x (E := y) (csR := [wOD g q3 fD]) (csF := [wOD g q3 fD, wX g a a1 a2 a3 a4 a5 a6 a7 x, wB g a1 b]) (rest := [.int 0, .ref q3]) hx hb hml hown hts hK hE hA hl hP hD hS (c_X4_meanStrength g l hst a a1 a2 a3 a4 a5 a6 a7 x b  (.inr y) hF) [1, 2] [0] [0, 1, 2] ⟨rfl, rfl, rfl, rfl, rfl, rfl, rfl⟩ ⟨0, 8, _, _, rfl, rfl, rfl⟩ 0 (jb_giV (WT_in 1103 (by decide +kernel) (by decide +kernel)) (WT_in 1104 (by decide +kernel) (by decide +kernel)) (WT_in 1105 (by decide +kernel) (by decide +kernel)) (WT_in 1 (by decide +kernel) (by decide +kernel)) (WT_in 1106 (by decide +kernel) (by decide +kernel))) ⟨rfl, rfl⟩ (by decide +kernel) ⟨⟨(Nat.le_of_ble_eq_true rfl), (Nat.le_of_ble_eq_true rfl)⟩, (Nat.le_of_ble_eq_true rfl), (Nat.le_of_ble_eq_true rfl)⟩ ⟨rfl, rfl⟩ (Nat.le_of_ble_eq_true rfl) dL_meanStrength_3 (fun H locs q9 ce hP hD hS h1 h2 h3 => ?_)
    have hN := hE.2.2.2.2.2.2
    obtain ⟨he, hz9⟩ := cd_1 hk
    rw [he] at h3
    subst hz9
    refine vx_catch (name := "java/lang/ArithmeticException") hown [] ⟨0, 7, 10, 91⟩ [] (htab.trans rfl) (fun z9 hz9 => by cases hz9) rfl (by decide) (hts _ (WT_in 1089 (by decide +kernel) (by decide +kernel))) (va_Nw.use rfl (hN.2.2.2.2.2.1 ("java/lang/ArithmeticException", "java/lang/ArithmeticException") (by decide +kernel))) h1 h2 h3 ?_
    refine lv_astore_n (lv' := [(2, .ref q9), (0, .ref (a 0)), (1, .ref q3)]) hx hb dL_meanStrength_10 rfl hl (by decide) rfl (fun ls hl => ?_)
    refine lv_iconst (v := 1) hx hb dL_meanStrength_11 (by decide) ?_
    rw [hQ]
    exact jg_zret hx hb hr rfl hlocks () hP hD hS dL_meanStrength_12 rfl trivial (Nat.le_of_ble_eq_true rfl) (Nat.le_of_ble_eq_true rfl)
set_option maxHeartbeats 4000000 in
set_option maxRecDepth 100000 in
theorem h_sunkShare (g : GG) (l : Launch) (hst : l.stackTraces = false) (a a1 a2 a3 a4 a5 a6 a7 : Nat → Nat) (q3 : Nat) (fD : Nat → UInt64) (x : Xv) (b : Bv)  (z : (UInt32) ⊕ (String)) (hF : F_X4_sunkShare x b  = some z) (hne : Sum.elim (fun y => nn64 (FP.f2d y)) (fun _ => true) z = true) (kz : Int32) (hk : Sum.elim (fun _ => some 0) (fun y => cd ["java/lang/ArithmeticException"] 1 y) z = some kz) : MW (G := Unit) g l yL_sunkShare cL_sunkShare 3 (some .int) [(0, 8, 11, 91)] ({ frames := 7, cells := 1, slots := 6, locals := 111 } : Room) [.ref (a 0), .ref q3] [wOD g q3 fD, wX g a a1 a2 a3 a4 a5 a6 a7 x, wB g a1 b] 1 6 (fun _ => some (.int kz)) (fun _ => Sum.elim (fun y => [wOD g q3 (vf_upd fD (0 : Int32).toNatClampNeg (FP.f2d y)), wX g a a1 a2 a3 a4 a5 a6 a7 x, wB g a1 b]) (fun y => [wOD g q3 fD, wX g a a1 a2 a3 a4 a5 a6 a7 x, wB g a1 b]) z) (fun _ => True) := by
  refine MW.bg (by decide) (Nat.le_of_ble_eq_true rfl) ?_
  intro p e s m below meth c A Q hQ hx hb hr hml hown hts hts2 hlocks htab hK hE hA hP hD hS ls hl
  have hl : lv_has ls 3 [(0, .ref (a 0)), (1, .ref q3)] := hl
  refine lv_aload_n hx hb dL_sunkShare_0 rfl (lv_at hl 1 rfl) ?_
  refine lv_iconst (v := 0) hx hb dL_sunkShare_1 (by decide) ?_
  refine lv_aload_n hx hb dL_sunkShare_2 rfl (lv_at hl 0 rfl) ?_
  rcases z with y | y
  · have hkz : (0 : Int32) = kz := Option.some.inj hk
    subst hkz
    refine cx_n (v := some (.float y)) (csR := [wOD g q3 fD]) (csF := [wOD g q3 fD, wX g a a1 a2 a3 a4 a5 a6 a7 x, wB g a1 b]) (rest := [.int 0, .ref q3]) hx hb hml hown hts hK hE hA hl hP hD hS (c_X4_sunkShare g l hst a a1 a2 a3 a4 a5 a6 a7 x b  (.inl y) hF) [1, 2] [0] [0, 1, 2] ⟨rfl, rfl, rfl, rfl, rfl, rfl, rfl⟩ ⟨0, 8, _, _, rfl, rfl, rfl⟩ 0 (jb_giV (WT_in 1113 (by decide +kernel) (by decide +kernel)) (WT_in 1114 (by decide +kernel) (by decide +kernel)) (WT_in 1115 (by decide +kernel) (by decide +kernel)) (WT_in 1 (by decide +kernel) (by decide +kernel)) (WT_in 1116 (by decide +kernel) (by decide +kernel))) ⟨rfl, rfl⟩ (by decide +kernel) ⟨⟨(Nat.le_of_ble_eq_true rfl), (Nat.le_of_ble_eq_true rfl)⟩, (Nat.le_of_ble_eq_true rfl), (Nat.le_of_ble_eq_true rfl)⟩ ⟨rfl, rfl⟩ (Nat.le_of_ble_eq_true rfl) dL_sunkShare_3 (fun H locs hP hD hS => ?_)
    refine W.eq (g2 := F0 m 6 ls [.float y, .int 0, .ref q3]) rfl ?_
    refine lv_f2d hx hb dL_sunkShare_6 (nn64_ne hne) ?_
    refine va_dast hx hb hK hP hD hS 0 5 rfl rfl (show vp_in (0 : Int32) 1 by unfold vp_in; decide) dL_sunkShare_7 (fun H locs hP hD hS => ?_)
    refine lv_goto (tgt := 14) hx hb dL_sunkShare_8 (by decide) ?_
    refine lv_iconst (v := 0) hx hb dL_sunkShare_14 (by decide) ?_
    rw [hQ]
    exact jg_zret hx hb hr rfl hlocks () hP hD hS dL_sunkShare_15 rfl trivial (Nat.le_of_ble_eq_true rfl) (Nat.le_of_ble_eq_true rfl)
  · have hk : cd ["java/lang/ArithmeticException"] 1 y = some kz := hk
    refine cx_x (E := y) (csR := [wOD g q3 fD]) (csF := [wOD g q3 fD, wX g a a1 a2 a3 a4 a5 a6 a7 x, wB g a1 b]) (rest := [.int 0, .ref q3]) hx hb hml hown hts hK hE hA hl hP hD hS (c_X4_sunkShare g l hst a a1 a2 a3 a4 a5 a6 a7 x b  (.inr y) hF) [1, 2] [0] [0, 1, 2] ⟨rfl, rfl, rfl, rfl, rfl, rfl, rfl⟩ ⟨0, 8, _, _, rfl, rfl, rfl⟩ 0 (jb_giV (WT_in 1113 (by decide +kernel) (by decide +kernel)) (WT_in 1114 (by decide +kernel) (by decide +kernel)) (WT_in 1115 (by decide +kernel) (by decide +kernel)) (WT_in 1 (by decide +kernel) (by decide +kernel)) (WT_in 1116 (by decide +kernel) (by decide +kernel))) ⟨rfl, rfl⟩ (by decide +kernel) ⟨⟨(Nat.le_of_ble_eq_true rfl), (Nat.le_of_ble_eq_true rfl)⟩, (Nat.le_of_ble_eq_true rfl), (Nat.le_of_ble_eq_true rfl)⟩ ⟨rfl, rfl⟩ (Nat.le_of_ble_eq_true rfl) dL_sunkShare_3 (fun H locs q9 ce hP hD hS h1 h2 h3 => ?_)
    have hN := hE.2.2.2.2.2.2
    obtain ⟨he, hz9⟩ := cd_1 hk
    rw [he] at h3
    subst hz9
    refine vx_catch (name := "java/lang/ArithmeticException") hown [] ⟨0, 8, 11, 91⟩ [] (htab.trans rfl) (fun z9 hz9 => by cases hz9) rfl (by decide) (hts _ (WT_in 1089 (by decide +kernel) (by decide +kernel))) (va_Nw.use rfl (hN.2.2.2.2.2.1 ("java/lang/ArithmeticException", "java/lang/ArithmeticException") (by decide +kernel))) h1 h2 h3 ?_
    refine lv_astore_n (lv' := [(2, .ref q9), (0, .ref (a 0)), (1, .ref q3)]) hx hb dL_sunkShare_11 rfl hl (by decide) rfl (fun ls hl => ?_)
    refine lv_iconst (v := 1) hx hb dL_sunkShare_12 (by decide) ?_
    rw [hQ]
    exact jg_zret hx hb hr rfl hlocks () hP hD hS dL_sunkShare_13 rfl trivial (Nat.le_of_ble_eq_true rfl) (Nat.le_of_ble_eq_true rfl)
set_option maxHeartbeats 4000000 in
set_option maxRecDepth 100000 in
theorem h_feed (g : GG) (l : Launch) (hst : l.stackTraces = false) (a a1 a2 a3 a4 a5 a6 a7 : Nat → Nat) (q3 : Nat) (fL : Nat → Int64) (x : Xv) (tx : Tv) (p0 : Int32) (z : (Int32 × Tv) ⊕ (String × Tv)) (hF : F_X4_feed x tx p0 = some z) (kz : Int32) (hk : Sum.elim (fun _ => some 0) (fun y => cd ["java/lang/IllegalStateException"] 1 y.1) z = some kz) : MW (G := Unit) g l yL_feed cL_feed 4 (some .int) [(0, 9, 12, 101)] ({ frames := 7, cells := 1, slots := 6, locals := 111 } : Room) [.ref (a 0), .int p0, .ref q3] [wO g q3 fL, wX g a a1 a2 a3 a4 a5 a6 a7 x, wT g a6 tx] 1 6 (fun _ => some (.int kz)) (fun _ => Sum.elim (fun y => [wO g q3 (vp_updL fL (0 : Int32).toNatClampNeg (i2l y.1)), wX g a a1 a2 a3 a4 a5 a6 a7 x, wT g a6 y.2]) (fun y => [wO g q3 fL, wX g a a1 a2 a3 a4 a5 a6 a7 x, wT g a6 y.2]) z) (fun _ => True) := by
  refine MW.bg (by decide) (Nat.le_of_ble_eq_true rfl) ?_
  intro p e s m below meth c A Q hQ hx hb hr hml hown hts hts2 hlocks htab hK hE hA hP hD hS ls hl
  have hl : lv_has ls 4 [(0, .ref (a 0)), (1, .int p0), (2, .ref q3)] := hl
  refine lv_aload_n hx hb dL_feed_0 rfl (lv_at hl 2 rfl) ?_
  refine lv_iconst (v := 0) hx hb dL_feed_1 (by decide) ?_
  refine lv_aload_n hx hb dL_feed_2 rfl (lv_at hl 0 rfl) ?_
  refine lv_iload_n hx hb dL_feed_3 rfl (lv_at hl 1 rfl) ?_
  rcases z with y | y
  · have hkz : (0 : Int32) = kz := Option.some.inj hk
    subst hkz
    refine cx_n (v := some (.int y.1)) (csR := [wO g q3 fL]) (csF := [wO g q3 fL, wX g a a1 a2 a3 a4 a5 a6 a7 x, wT g a6 y.2]) (rest := [.int 0, .ref q3]) hx hb hml hown hts hK hE hA hl hP hD hS (c_X4_feed g l hst a a1 a2 a3 a4 a5 a6 a7 x tx p0 (.inl y) hF) [1, 2] [0] [0, 1, 2] ⟨rfl, rfl, rfl, rfl, rfl, rfl, rfl⟩ ⟨0, 8, _, _, rfl, rfl, rfl⟩ 1 (jb_giV (WT_in 1122 (by decide +kernel) (by decide +kernel)) (WT_in 1123 (by decide +kernel) (by decide +kernel)) (WT_in 1124 (by decide +kernel) (by decide +kernel)) (WT_in 1 (by decide +kernel) (by decide +kernel)) (WT_in 1125 (by decide +kernel) (by decide +kernel))) ⟨rfl, rfl⟩ (by decide +kernel) ⟨⟨(Nat.le_of_ble_eq_true rfl), (Nat.le_of_ble_eq_true rfl)⟩, (Nat.le_of_ble_eq_true rfl), (Nat.le_of_ble_eq_true rfl)⟩ ⟨rfl, rfl⟩ (Nat.le_of_ble_eq_true rfl) dL_feed_4 (fun H locs hP hD hS => ?_)
    refine W.eq (g2 := F0 m 7 ls [.int y.1, .int 0, .ref q3]) rfl ?_
    refine lv_i2l (v := i2l y.1) hx hb dL_feed_7 rfl ?_
    refine va_last hx hb hK hP hD hS 0 4 rfl rfl (show vp_in (0 : Int32) 1 by unfold vp_in; decide) dL_feed_8 (fun H locs hP hD hS => ?_)
    refine lv_goto (tgt := 15) hx hb dL_feed_9 (by decide) ?_
    refine lv_iconst (v := 0) hx hb dL_feed_15 (by decide) ?_
    rw [hQ]
    exact jg_zret hx hb hr rfl hlocks () hP hD hS dL_feed_16 rfl trivial (Nat.le_of_ble_eq_true rfl) (Nat.le_of_ble_eq_true rfl)
  · have hk : cd ["java/lang/IllegalStateException"] 1 y.1 = some kz := hk
    refine cx_x (E := y.1) (csR := [wO g q3 fL]) (csF := [wO g q3 fL, wX g a a1 a2 a3 a4 a5 a6 a7 x, wT g a6 y.2]) (rest := [.int 0, .ref q3]) hx hb hml hown hts hK hE hA hl hP hD hS (c_X4_feed g l hst a a1 a2 a3 a4 a5 a6 a7 x tx p0 (.inr y) hF) [1, 2] [0] [0, 1, 2] ⟨rfl, rfl, rfl, rfl, rfl, rfl, rfl⟩ ⟨0, 8, _, _, rfl, rfl, rfl⟩ 1 (jb_giV (WT_in 1122 (by decide +kernel) (by decide +kernel)) (WT_in 1123 (by decide +kernel) (by decide +kernel)) (WT_in 1124 (by decide +kernel) (by decide +kernel)) (WT_in 1 (by decide +kernel) (by decide +kernel)) (WT_in 1125 (by decide +kernel) (by decide +kernel))) ⟨rfl, rfl⟩ (by decide +kernel) ⟨⟨(Nat.le_of_ble_eq_true rfl), (Nat.le_of_ble_eq_true rfl)⟩, (Nat.le_of_ble_eq_true rfl), (Nat.le_of_ble_eq_true rfl)⟩ ⟨rfl, rfl⟩ (Nat.le_of_ble_eq_true rfl) dL_feed_4 (fun H locs q9 ce hP hD hS h1 h2 h3 => ?_)
    have hN := hE.2.2.2.2.2.2
    obtain ⟨he, hz9⟩ := cd_1 hk
    rw [he] at h3
    subst hz9
    refine vx_catch (name := "java/lang/IllegalStateException") hown [] ⟨0, 9, 12, 101⟩ [] (htab.trans rfl) (fun z9 hz9 => by cases hz9) rfl (by decide) (hts _ (WT_in 1121 (by decide +kernel) (by decide +kernel))) (va_Nw.use rfl (hN.2.2.2.2.2.1 ("java/lang/IllegalStateException", "java/lang/IllegalStateException") (by decide +kernel))) h1 h2 h3 ?_
    refine lv_astore_n (lv' := [(3, .ref q9), (0, .ref (a 0)), (1, .int p0), (2, .ref q3)]) hx hb dL_feed_12 rfl hl (by decide) rfl (fun ls hl => ?_)
    refine lv_iconst (v := 1) hx hb dL_feed_13 (by decide) ?_
    rw [hQ]
    exact jg_zret hx hb hr rfl hlocks () hP hD hS dL_feed_14 rfl trivial (Nat.le_of_ble_eq_true rfl) (Nat.le_of_ble_eq_true rfl)
set_option maxHeartbeats 4000000 in
set_option maxRecDepth 100000 in
theorem h_execute (g : GG) (l : Launch) (hst : l.stackTraces = false) (a a1 a2 a3 a4 a5 a6 a7 : Nat → Nat) (q3 : Nat) (fL : Nat → Int64) (x : Xv) (b : Bv) (t : Bv) (h : Hv) (j : Jv) (tx : Tv)  (z : (Int32 × Xv × Bv × Bv × Hv × Jv × Tv) ⊕ (String × Xv × Bv × Bv × Hv × Jv × Tv)) (hF : F_X4_execute x b t h j tx  = some z) (kz : Int32) (hk : Sum.elim (fun _ => some 0) (fun y => cd ["java/lang/IllegalArgumentException", "java/lang/UnsupportedOperationException"] 1 y.1) z = some kz) : MW (G := Unit) g l yL_execute cL_execute 3 (some .int) [(0, 8, 11, 13), (0, 8, 14, 15)] ({ frames := 8, cells := 1, slots := 6, locals := 176 } : Room) [.ref (a 0), .ref q3] [wO g q3 fL, wX g a a1 a2 a3 a4 a5 a6 a7 x, wB g a1 b, wB g a2 t, wH g a4 h, wJ g a5 j, wT g a6 tx] 1 6 (fun _ => some (.int kz)) (fun _ => Sum.elim (fun y => [wO g q3 (vp_updL fL (0 : Int32).toNatClampNeg (i2l y.1)), wX g a a1 a2 a3 a4 a5 a6 a7 y.2.1, wB g a1 y.2.2.1, wB g a2 y.2.2.2.1, wH g a4 y.2.2.2.2.1, wJ g a5 y.2.2.2.2.2.1, wT g a6 y.2.2.2.2.2.2]) (fun y => [wO g q3 fL, wX g a a1 a2 a3 a4 a5 a6 a7 y.2.1, wB g a1 y.2.2.1, wB g a2 y.2.2.2.1, wH g a4 y.2.2.2.2.1, wJ g a5 y.2.2.2.2.2.1, wT g a6 y.2.2.2.2.2.2]) z) (fun _ => True) := by
  refine MW.bg (by decide) (Nat.le_of_ble_eq_true rfl) ?_
  intro p e s m below meth c A Q hQ hx hb hr hml hown hts hts2 hlocks htab hK hE hA hP hD hS ls hl
  have hl : lv_has ls 3 [(0, .ref (a 0)), (1, .ref q3)] := hl
  refine lv_aload_n hx hb dL_execute_0 rfl (lv_at hl 1 rfl) ?_
  refine lv_iconst (v := 0) hx hb dL_execute_1 (by decide) ?_
  refine lv_aload_n hx hb dL_execute_2 rfl (lv_at hl 0 rfl) ?_
  rcases z with y | y
  · have hkz : (0 : Int32) = kz := Option.some.inj hk
    subst hkz
    refine cx_n (v := some (.int y.1)) (csR := [wO g q3 fL]) (csF := [wO g q3 fL, wX g a a1 a2 a3 a4 a5 a6 a7 y.2.1, wB g a1 y.2.2.1, wB g a2 y.2.2.2.1, wH g a4 y.2.2.2.2.1, wJ g a5 y.2.2.2.2.2.1, wT g a6 y.2.2.2.2.2.2]) (rest := [.int 0, .ref q3]) hx hb hml hown hts hK hE hA hl hP hD hS (c_X4_execute g l hst a a1 a2 a3 a4 a5 a6 a7 x b t h j tx  (.inl y) hF) [1, 2, 3, 4, 5, 6] [0] [0, 1, 2, 3, 4, 5, 6] ⟨rfl, rfl, rfl, rfl, rfl, rfl, rfl⟩ ⟨0, 8, _, _, rfl, rfl, rfl⟩ 0 (jb_giV (WT_in 1149 (by decide +kernel) (by decide +kernel)) (WT_in 1150 (by decide +kernel) (by decide +kernel)) (WT_in 1151 (by decide +kernel) (by decide +kernel)) (WT_in 1 (by decide +kernel) (by decide +kernel)) (WT_in 1152 (by decide +kernel) (by decide +kernel))) ⟨rfl, rfl⟩ (by decide +kernel) ⟨⟨(Nat.le_of_ble_eq_true rfl), (Nat.le_of_ble_eq_true rfl)⟩, (Nat.le_of_ble_eq_true rfl), (Nat.le_of_ble_eq_true rfl)⟩ ⟨rfl, rfl⟩ (Nat.le_of_ble_eq_true rfl) dL_execute_3 (fun H locs hP hD hS => ?_)
    refine W.eq (g2 := F0 m 6 ls [.int y.1, .int 0, .ref q3]) rfl ?_
    refine lv_i2l (v := i2l y.1) hx hb dL_execute_6 rfl ?_
    refine va_last hx hb hK hP hD hS 0 4 rfl rfl (show vp_in (0 : Int32) 1 by unfold vp_in; decide) dL_execute_7 (fun H locs hP hD hS => ?_)
    refine lv_goto (tgt := 17) hx hb dL_execute_8 (by decide) ?_
    refine lv_iconst (v := 0) hx hb dL_execute_17 (by decide) ?_
    rw [hQ]
    exact jg_zret hx hb hr rfl hlocks () hP hD hS dL_execute_18 rfl trivial (Nat.le_of_ble_eq_true rfl) (Nat.le_of_ble_eq_true rfl)
  · have hk : cd ["java/lang/IllegalArgumentException", "java/lang/UnsupportedOperationException"] 1 y.1 = some kz := hk
    refine cx_x (E := y.1) (csR := [wO g q3 fL]) (csF := [wO g q3 fL, wX g a a1 a2 a3 a4 a5 a6 a7 y.2.1, wB g a1 y.2.2.1, wB g a2 y.2.2.2.1, wH g a4 y.2.2.2.2.1, wJ g a5 y.2.2.2.2.2.1, wT g a6 y.2.2.2.2.2.2]) (rest := [.int 0, .ref q3]) hx hb hml hown hts hK hE hA hl hP hD hS (c_X4_execute g l hst a a1 a2 a3 a4 a5 a6 a7 x b t h j tx  (.inr y) hF) [1, 2, 3, 4, 5, 6] [0] [0, 1, 2, 3, 4, 5, 6] ⟨rfl, rfl, rfl, rfl, rfl, rfl, rfl⟩ ⟨0, 8, _, _, rfl, rfl, rfl⟩ 0 (jb_giV (WT_in 1149 (by decide +kernel) (by decide +kernel)) (WT_in 1150 (by decide +kernel) (by decide +kernel)) (WT_in 1151 (by decide +kernel) (by decide +kernel)) (WT_in 1 (by decide +kernel) (by decide +kernel)) (WT_in 1152 (by decide +kernel) (by decide +kernel))) ⟨rfl, rfl⟩ (by decide +kernel) ⟨⟨(Nat.le_of_ble_eq_true rfl), (Nat.le_of_ble_eq_true rfl)⟩, (Nat.le_of_ble_eq_true rfl), (Nat.le_of_ble_eq_true rfl)⟩ ⟨rfl, rfl⟩ (Nat.le_of_ble_eq_true rfl) dL_execute_3 (fun H locs q9 ce hP hD hS h1 h2 h3 => ?_)
    have hN := hE.2.2.2.2.2.2
    rcases cd_2 hk with ⟨he, hz9⟩ | ⟨he, hz9⟩
    · rw [he] at h3
      subst hz9
      refine vx_catch (name := "java/lang/IllegalArgumentException") hown [] ⟨0, 8, 11, 13⟩ [⟨0, 8, 14, 15⟩] (htab.trans rfl) (fun z9 hz9 => by cases hz9) rfl (by decide) (hts _ (WT_in 716 (by decide +kernel) (by decide +kernel))) (va_Nw.use rfl (hN.2.2.2.2.2.1 ("java/lang/IllegalArgumentException", "java/lang/IllegalArgumentException") (by decide +kernel))) h1 h2 h3 ?_
      refine lv_astore_n (lv' := [(2, .ref q9), (0, .ref (a 0)), (1, .ref q3)]) hx hb dL_execute_11 rfl hl (by decide) rfl (fun ls hl => ?_)
      refine lv_iconst (v := 1) hx hb dL_execute_12 (by decide) ?_
      rw [hQ]
      exact jg_zret hx hb hr rfl hlocks () hP hD hS dL_execute_13 rfl trivial (Nat.le_of_ble_eq_true rfl) (Nat.le_of_ble_eq_true rfl)
    · rw [he] at h3
      subst hz9
      refine vx_catch (name := "java/lang/UnsupportedOperationException") hown [⟨0, 8, 11, 13⟩] ⟨0, 8, 14, 15⟩ [] (htab.trans rfl) (fun z9 hz9 => by
        simp only [List.mem_cons, List.not_mem_nil, or_false] at hz9
        rcases hz9 with rfl
        · exact Or.inr ⟨by decide, "java/lang/IllegalArgumentException", hts _ (WT_in 716 (by decide +kernel) (by decide +kernel)), hN.2.2.2.2.1 ("java/lang/UnsupportedOperationException", "java/lang/IllegalArgumentException") (by decide +kernel)⟩) rfl (by decide) (hts _ (WT_in 717 (by decide +kernel) (by decide +kernel))) (va_Nw.use rfl (hN.2.2.2.2.2.1 ("java/lang/UnsupportedOperationException", "java/lang/UnsupportedOperationException") (by decide +kernel))) h1 h2 h3 ?_
      refine lv_astore_n (lv' := [(2, .ref q9), (0, .ref (a 0)), (1, .ref q3)]) hx hb dL_execute_14 rfl hl (by decide) rfl (fun ls hl => ?_)
      refine lv_iconst (v := 2) hx hb dL_execute_15 (by decide) ?_
      rw [hQ]
      exact jg_zret hx hb hr rfl hlocks () hP hD hS dL_execute_16 rfl trivial (Nat.le_of_ble_eq_true rfl) (Nat.le_of_ble_eq_true rfl)
set_option maxHeartbeats 4000000 in
set_option maxRecDepth 100000 in
theorem h_faultPosition (g : GG) (l : Launch) (hst : l.stackTraces = false) (a a1 a2 a3 a4 a5 a6 a7 : Nat → Nat) (q3 : Nat) (fL : Nat → Int64) (x : Xv)  (z : (Int32) ⊕ (String)) (hF : F_X4_faultPosition x  = some z) (kz : Int32) (hk : Sum.elim (fun _ => some 0) (fun y => cd ["java/util/NoSuchElementException"] 1 y) z = some kz) : MW (G := Unit) g l yL_faultPosition cL_faultPosition 3 (some .int) [(0, 8, 11, 55)] ({ frames := 7, cells := 1, slots := 6, locals := 110 } : Room) [.ref (a 0), .ref q3] [wO g q3 fL, wX g a a1 a2 a3 a4 a5 a6 a7 x] 1 6 (fun _ => some (.int kz)) (fun _ => Sum.elim (fun y => [wO g q3 (vp_updL fL (0 : Int32).toNatClampNeg (i2l y)), wX g a a1 a2 a3 a4 a5 a6 a7 x]) (fun y => [wO g q3 fL, wX g a a1 a2 a3 a4 a5 a6 a7 x]) z) (fun _ => True) := by
  refine MW.bg (by decide) (Nat.le_of_ble_eq_true rfl) ?_
  intro p e s m below meth c A Q hQ hx hb hr hml hown hts hts2 hlocks htab hK hE hA hP hD hS ls hl
  have hl : lv_has ls 3 [(0, .ref (a 0)), (1, .ref q3)] := hl
  refine lv_aload_n hx hb dL_faultPosition_0 rfl (lv_at hl 1 rfl) ?_
  refine lv_iconst (v := 0) hx hb dL_faultPosition_1 (by decide) ?_
  refine lv_aload_n hx hb dL_faultPosition_2 rfl (lv_at hl 0 rfl) ?_
  rcases z with y | y
  · have hkz : (0 : Int32) = kz := Option.some.inj hk
    subst hkz
    refine cx_n (v := some (.int y)) (csR := [wO g q3 fL]) (csF := [wO g q3 fL, wX g a a1 a2 a3 a4 a5 a6 a7 x]) (rest := [.int 0, .ref q3]) hx hb hml hown hts hK hE hA hl hP hD hS (c_X4_faultPosition g l hst a a1 a2 a3 a4 a5 a6 a7 x  (.inl y) hF) [1] [0] [0, 1] ⟨rfl, rfl, rfl, rfl, rfl, rfl, rfl⟩ ⟨0, 8, _, _, rfl, rfl, rfl⟩ 0 (jb_giV (WT_in 1228 (by decide +kernel) (by decide +kernel)) (WT_in 1229 (by decide +kernel) (by decide +kernel)) (WT_in 1230 (by decide +kernel) (by decide +kernel)) (WT_in 1 (by decide +kernel) (by decide +kernel)) (WT_in 1231 (by decide +kernel) (by decide +kernel))) ⟨rfl, rfl⟩ (by decide +kernel) ⟨⟨(Nat.le_of_ble_eq_true rfl), (Nat.le_of_ble_eq_true rfl)⟩, (Nat.le_of_ble_eq_true rfl), (Nat.le_of_ble_eq_true rfl)⟩ ⟨rfl, rfl⟩ (Nat.le_of_ble_eq_true rfl) dL_faultPosition_3 (fun H locs hP hD hS => ?_)
    refine W.eq (g2 := F0 m 6 ls [.int y, .int 0, .ref q3]) rfl ?_
    refine lv_i2l (v := i2l y) hx hb dL_faultPosition_6 rfl ?_
    refine va_last hx hb hK hP hD hS 0 4 rfl rfl (show vp_in (0 : Int32) 1 by unfold vp_in; decide) dL_faultPosition_7 (fun H locs hP hD hS => ?_)
    refine lv_goto (tgt := 14) hx hb dL_faultPosition_8 (by decide) ?_
    refine lv_iconst (v := 0) hx hb dL_faultPosition_14 (by decide) ?_
    rw [hQ]
    exact jg_zret hx hb hr rfl hlocks () hP hD hS dL_faultPosition_15 rfl trivial (Nat.le_of_ble_eq_true rfl) (Nat.le_of_ble_eq_true rfl)
  · have hk : cd ["java/util/NoSuchElementException"] 1 y = some kz := hk
    refine cx_x (E := y) (csR := [wO g q3 fL]) (csF := [wO g q3 fL, wX g a a1 a2 a3 a4 a5 a6 a7 x]) (rest := [.int 0, .ref q3]) hx hb hml hown hts hK hE hA hl hP hD hS (c_X4_faultPosition g l hst a a1 a2 a3 a4 a5 a6 a7 x  (.inr y) hF) [1] [0] [0, 1] ⟨rfl, rfl, rfl, rfl, rfl, rfl, rfl⟩ ⟨0, 8, _, _, rfl, rfl, rfl⟩ 0 (jb_giV (WT_in 1228 (by decide +kernel) (by decide +kernel)) (WT_in 1229 (by decide +kernel) (by decide +kernel)) (WT_in 1230 (by decide +kernel) (by decide +kernel)) (WT_in 1 (by decide +kernel) (by decide +kernel)) (WT_in 1231 (by decide +kernel) (by decide +kernel))) ⟨rfl, rfl⟩ (by decide +kernel) ⟨⟨(Nat.le_of_ble_eq_true rfl), (Nat.le_of_ble_eq_true rfl)⟩, (Nat.le_of_ble_eq_true rfl), (Nat.le_of_ble_eq_true rfl)⟩ ⟨rfl, rfl⟩ (Nat.le_of_ble_eq_true rfl) dL_faultPosition_3 (fun H locs q9 ce hP hD hS h1 h2 h3 => ?_)
    have hN := hE.2.2.2.2.2.2
    obtain ⟨he, hz9⟩ := cd_1 hk
    rw [he] at h3
    subst hz9
    refine vx_catch (name := "java/util/NoSuchElementException") hown [] ⟨0, 8, 11, 55⟩ [] (htab.trans rfl) (fun z9 hz9 => by cases hz9) rfl (by decide) (hts _ (WT_in 904 (by decide +kernel) (by decide +kernel))) (va_Nw.use rfl (hN.2.2.2.2.2.1 ("java/util/NoSuchElementException", "java/util/NoSuchElementException") (by decide +kernel))) h1 h2 h3 ?_
    refine lv_astore_n (lv' := [(2, .ref q9), (0, .ref (a 0)), (1, .ref q3)]) hx hb dL_faultPosition_11 rfl hl (by decide) rfl (fun ls hl => ?_)
    refine lv_iconst (v := 1) hx hb dL_faultPosition_12 (by decide) ?_
    rw [hQ]
    exact jg_zret hx hb hr rfl hlocks () hP hD hS dL_faultPosition_13 rfl trivial (Nat.le_of_ble_eq_true rfl) (Nat.le_of_ble_eq_true rfl)
set_option maxHeartbeats 4000000 in
set_option maxRecDepth 100000 in
theorem h_writeSpan (g : GG) (l : Launch) (hst : l.stackTraces = false) (a a1 a2 a3 a4 a5 a6 a7 : Nat → Nat) (q3 : Nat) (fL : Nat → Int64) (x : Xv) (b : Bv) (ln : Nv) (gh : LG) (hg0 : LK ln.2 ln.1 gh) (p0 : Int32) (z : (Int32 × Nv) ⊕ (String × Nv)) (hF : F_X4_writeSpan x b ln p0 = some z) (kz : Int32) (hk : Sum.elim (fun _ => some 0) (fun y => cd ["java/lang/IndexOutOfBoundsException"] 1 y.1) z = some kz) : MW (G := LG) g l yL_writeSpan cL_writeSpan 4 (some .int) [(0, 9, 12, 25)] ({ frames := 11, cells := 403, slots := 810, locals := 322 } : Room) [.ref (a 0), .int p0, .ref q3] [wO g q3 fL, wX g a a1 a2 a3 a4 a5 a6 a7 x, wB g a1 b, wLn g (a7 0) ln gh] 403 810 (fun _ => some (.int kz)) (fun gh => Sum.elim (fun y => [wO g q3 (vp_updL fL (0 : Int32).toNatClampNeg (i2l y.1)), wX g a a1 a2 a3 a4 a5 a6 a7 x, wB g a1 b, wLn g (a7 0) y.2 gh]) (fun y => [wO g q3 fL, wX g a a1 a2 a3 a4 a5 a6 a7 x, wB g a1 b, wLn g (a7 0) y.2 gh]) z) (fun gh => Sum.elim (fun y => LK y.2.2 y.2.1 gh) (fun y => LK y.2.2 y.2.1 gh) z) := by
  refine MW.bg (by decide) (Nat.le_of_ble_eq_true rfl) ?_
  intro p e s m below meth c A Q hQ hx hb hr hml hown hts hts2 hlocks htab hK hE hA hP hD hS ls hl
  have hl : lv_has ls 4 [(0, .ref (a 0)), (1, .int p0), (2, .ref q3)] := hl
  refine lv_aload_n hx hb dL_writeSpan_0 rfl (lv_at hl 2 rfl) ?_
  refine lv_iconst (v := 0) hx hb dL_writeSpan_1 (by decide) ?_
  refine lv_aload_n hx hb dL_writeSpan_2 rfl (lv_at hl 0 rfl) ?_
  refine lv_iload_n hx hb dL_writeSpan_3 rfl (lv_at hl 1 rfl) ?_
  rcases z with y | y
  · have hkz : (0 : Int32) = kz := Option.some.inj hk
    subst hkz
    refine cxg_n (v := some (.int y.1)) (csN := (fun gh1 => [wX g a a1 a2 a3 a4 a5 a6 a7 x, wB g a1 b, wLn g (a7 0) y.2 gh1])) (csR := [wO g q3 fL]) (csF := (fun gh1 => [wO g q3 fL, wX g a a1 a2 a3 a4 a5 a6 a7 x, wB g a1 b, wLn g (a7 0) y.2 gh1])) (rest := [.int 0, .ref q3]) hx hb hml hown hts2 hK hE hA hl hP hD hS (c_X4_writeSpan g l hst a a1 a2 a3 a4 a5 a6 a7 x b ln gh hg0 p0 (.inl y) hF) (fun _ => rfl) [1, 2, 3] [0] [0, 1, 2, 3] ⟨rfl, rfl⟩ (fun _ => ⟨rfl, rfl, rfl, rfl, rfl, rfl, rfl⟩) ⟨0, 8, _, _, rfl, rfl, rfl⟩ 1 (jb_giV2 (WT_in 1236 (by decide +kernel) (by decide +kernel)) (WT_in 1237 (by decide +kernel) (by decide +kernel)) (WT_in 1238 (by decide +kernel) (by decide +kernel)) (WT_in 1 (by decide +kernel) (by decide +kernel)) (WT_in 1239 (by decide +kernel) (by decide +kernel))) ⟨rfl, rfl⟩ (by decide +kernel) ⟨⟨(Nat.le_of_ble_eq_true rfl), (Nat.le_of_ble_eq_true rfl)⟩, (Nat.le_of_ble_eq_true rfl), (Nat.le_of_ble_eq_true rfl)⟩ ⟨rfl, rfl⟩ (Nat.le_of_ble_eq_true rfl) dL_writeSpan_4 (fun gh1 H locs hgh9 hP hD hS => ?_)
    refine W.eq (g2 := F0 m 7 ls [.int y.1, .int 0, .ref q3]) rfl ?_
    refine lv_i2l (v := i2l y.1) hx hb dL_writeSpan_7 rfl ?_
    refine va_last hx hb hK hP hD hS 0 4 rfl rfl (show vp_in (0 : Int32) 1 by unfold vp_in; decide) dL_writeSpan_8 (fun H locs hP hD hS => ?_)
    refine lv_goto (tgt := 15) hx hb dL_writeSpan_9 (by decide) ?_
    refine lv_iconst (v := 0) hx hb dL_writeSpan_15 (by decide) ?_
    rw [hQ]
    exact jg_zret hx hb hr rfl hlocks gh1 hP hD hS dL_writeSpan_16 rfl hgh9 (Nat.le_of_ble_eq_true rfl) (Nat.le_of_ble_eq_true rfl)
  · have hk : cd ["java/lang/IndexOutOfBoundsException"] 1 y.1 = some kz := hk
    refine cxg_x (E := y.1) (csN := (fun gh1 => [wX g a a1 a2 a3 a4 a5 a6 a7 x, wB g a1 b, wLn g (a7 0) y.2 gh1])) (csR := [wO g q3 fL]) (csF := (fun gh1 => [wO g q3 fL, wX g a a1 a2 a3 a4 a5 a6 a7 x, wB g a1 b, wLn g (a7 0) y.2 gh1])) (rest := [.int 0, .ref q3]) hx hb hml hown hts2 hK hE hA hl hP hD hS (c_X4_writeSpan g l hst a a1 a2 a3 a4 a5 a6 a7 x b ln gh hg0 p0 (.inr y) hF) (fun _ => rfl) [1, 2, 3] [0] [0, 1, 2, 3] ⟨rfl, rfl⟩ (fun _ => ⟨rfl, rfl, rfl, rfl, rfl, rfl, rfl⟩) ⟨0, 8, _, _, rfl, rfl, rfl⟩ 1 (jb_giV2 (WT_in 1236 (by decide +kernel) (by decide +kernel)) (WT_in 1237 (by decide +kernel) (by decide +kernel)) (WT_in 1238 (by decide +kernel) (by decide +kernel)) (WT_in 1 (by decide +kernel) (by decide +kernel)) (WT_in 1239 (by decide +kernel) (by decide +kernel))) ⟨rfl, rfl⟩ (by decide +kernel) ⟨⟨(Nat.le_of_ble_eq_true rfl), (Nat.le_of_ble_eq_true rfl)⟩, (Nat.le_of_ble_eq_true rfl), (Nat.le_of_ble_eq_true rfl)⟩ ⟨rfl, rfl⟩ (Nat.le_of_ble_eq_true rfl) dL_writeSpan_4 (fun gh1 H locs q9 ce hgh9 hP hD hS h1 h2 h3 => ?_)
    have hN := hE.2.2.2.2.2.2
    obtain ⟨he, hz9⟩ := cd_1 hk
    rw [he] at h3
    subst hz9
    refine vx_catch (name := "java/lang/IndexOutOfBoundsException") hown [] ⟨0, 9, 12, 25⟩ [] (htab.trans rfl) (fun z9 hz9 => by cases hz9) rfl (by decide) (hts _ (WT_in 825 (by decide +kernel) (by decide +kernel))) (va_Nw.use rfl (hN.2.2.2.2.2.1 ("java/lang/IndexOutOfBoundsException", "java/lang/IndexOutOfBoundsException") (by decide +kernel))) h1 h2 h3 ?_
    refine lv_astore_n (lv' := [(3, .ref q9), (0, .ref (a 0)), (1, .int p0), (2, .ref q3)]) hx hb dL_writeSpan_12 rfl hl (by decide) rfl (fun ls hl => ?_)
    refine lv_iconst (v := 1) hx hb dL_writeSpan_13 (by decide) ?_
    rw [hQ]
    exact jg_zret hx hb hr rfl hlocks gh1 hP hD hS dL_writeSpan_14 rfl hgh9 (Nat.le_of_ble_eq_true rfl) (Nat.le_of_ble_eq_true rfl)
set_option maxHeartbeats 4000000 in
set_option maxRecDepth 100000 in
theorem h_lineCharacter (g : GG) (l : Launch) (hst : l.stackTraces = false) (a a1 a2 a3 a4 a5 a6 a7 : Nat → Nat) (q3 : Nat) (fL : Nat → Int64) (x : Xv) (b : Bv) (ln : Nv) (gh : LG) (hg0 : LK ln.2 ln.1 gh) (p0 : Int32) (z : Int32 ⊕ String) (hF : F_X4_lineCharacter x b ln p0 = some z) (kz : Int32) (hk : Sum.elim (fun _ => some 0) (fun y => cd ["java/lang/IndexOutOfBoundsException"] 1 y) z = some kz) : MW (G := Unit) g l yL_lineCharacter cL_lineCharacter 4 (some .int) [(0, 9, 12, 25)] ({ frames := 7, cells := 1, slots := 6, locals := 221 } : Room) [.ref (a 0), .int p0, .ref q3] [wO g q3 fL, wX g a a1 a2 a3 a4 a5 a6 a7 x, wB g a1 b, wLn g (a7 0) ln gh] 1 6 (fun _ => some (.int kz)) (fun _ => Sum.elim (fun y => [wO g q3 (vp_updL fL (0 : Int32).toNatClampNeg (i2l y)), wX g a a1 a2 a3 a4 a5 a6 a7 x, wB g a1 b, wLn g (a7 0) ln gh]) (fun y => [wO g q3 fL, wX g a a1 a2 a3 a4 a5 a6 a7 x, wB g a1 b, wLn g (a7 0) ln gh]) z) (fun _ => True) := by
  refine MW.bg (by decide) (Nat.le_of_ble_eq_true rfl) ?_
  intro p e s m below meth c A Q hQ hx hb hr hml hown hts hts2 hlocks htab hK hE hA hP hD hS ls hl
  have hl : lv_has ls 4 [(0, .ref (a 0)), (1, .int p0), (2, .ref q3)] := hl
  refine lv_aload_n hx hb dL_lineCharacter_0 rfl (lv_at hl 2 rfl) ?_
  refine lv_iconst (v := 0) hx hb dL_lineCharacter_1 (by decide) ?_
  refine lv_aload_n hx hb dL_lineCharacter_2 rfl (lv_at hl 0 rfl) ?_
  refine lv_iload_n hx hb dL_lineCharacter_3 rfl (lv_at hl 1 rfl) ?_
  rcases z with y | y
  · have hkz : (0 : Int32) = kz := Option.some.inj hk
    subst hkz
    refine cxg_n (v := some (.int y)) (csN := (fun _ => [wX g a a1 a2 a3 a4 a5 a6 a7 x, wB g a1 b, wLn g (a7 0) ln gh])) (csR := [wO g q3 fL]) (csF := (fun _ => [wO g q3 fL, wX g a a1 a2 a3 a4 a5 a6 a7 x, wB g a1 b, wLn g (a7 0) ln gh])) (rest := [.int 0, .ref q3]) hx hb hml hown hts2 hK hE hA hl hP hD hS (c_X4_lineCharacter g l hst a a1 a2 a3 a4 a5 a6 a7 x b ln gh hg0 p0 (.inl y) hF) (fun _ => rfl) [1, 2, 3] [0] [0, 1, 2, 3] ⟨rfl, rfl⟩ (fun _ => ⟨rfl, rfl, rfl, rfl, rfl, rfl, rfl⟩) ⟨0, 8, _, _, rfl, rfl, rfl⟩ 1 (jb_giV2 (WT_in 1243 (by decide +kernel) (by decide +kernel)) (WT_in 1244 (by decide +kernel) (by decide +kernel)) (WT_in 1245 (by decide +kernel) (by decide +kernel)) (WT_in 1 (by decide +kernel) (by decide +kernel)) (WT_in 1246 (by decide +kernel) (by decide +kernel))) ⟨rfl, rfl⟩ (by decide +kernel) ⟨⟨(Nat.le_of_ble_eq_true rfl), (Nat.le_of_ble_eq_true rfl)⟩, (Nat.le_of_ble_eq_true rfl), (Nat.le_of_ble_eq_true rfl)⟩ ⟨rfl, rfl⟩ (Nat.le_of_ble_eq_true rfl) dL_lineCharacter_4 (fun u9 H locs hgh9 hP hD hS => ?_)
    refine W.eq (g2 := F0 m 7 ls [.int y, .int 0, .ref q3]) rfl ?_
    refine lv_i2l (v := i2l y) hx hb dL_lineCharacter_7 rfl ?_
    refine va_last hx hb hK hP hD hS 0 4 rfl rfl (show vp_in (0 : Int32) 1 by unfold vp_in; decide) dL_lineCharacter_8 (fun H locs hP hD hS => ?_)
    refine lv_goto (tgt := 15) hx hb dL_lineCharacter_9 (by decide) ?_
    refine lv_iconst (v := 0) hx hb dL_lineCharacter_15 (by decide) ?_
    rw [hQ]
    exact jg_zret hx hb hr rfl hlocks () hP hD hS dL_lineCharacter_16 rfl trivial (Nat.le_of_ble_eq_true rfl) (Nat.le_of_ble_eq_true rfl)
  · have hk : cd ["java/lang/IndexOutOfBoundsException"] 1 y = some kz := hk
    refine cxg_x (E := y) (csN := (fun _ => [wX g a a1 a2 a3 a4 a5 a6 a7 x, wB g a1 b, wLn g (a7 0) ln gh])) (csR := [wO g q3 fL]) (csF := (fun _ => [wO g q3 fL, wX g a a1 a2 a3 a4 a5 a6 a7 x, wB g a1 b, wLn g (a7 0) ln gh])) (rest := [.int 0, .ref q3]) hx hb hml hown hts2 hK hE hA hl hP hD hS (c_X4_lineCharacter g l hst a a1 a2 a3 a4 a5 a6 a7 x b ln gh hg0 p0 (.inr y) hF) (fun _ => rfl) [1, 2, 3] [0] [0, 1, 2, 3] ⟨rfl, rfl⟩ (fun _ => ⟨rfl, rfl, rfl, rfl, rfl, rfl, rfl⟩) ⟨0, 8, _, _, rfl, rfl, rfl⟩ 1 (jb_giV2 (WT_in 1243 (by decide +kernel) (by decide +kernel)) (WT_in 1244 (by decide +kernel) (by decide +kernel)) (WT_in 1245 (by decide +kernel) (by decide +kernel)) (WT_in 1 (by decide +kernel) (by decide +kernel)) (WT_in 1246 (by decide +kernel) (by decide +kernel))) ⟨rfl, rfl⟩ (by decide +kernel) ⟨⟨(Nat.le_of_ble_eq_true rfl), (Nat.le_of_ble_eq_true rfl)⟩, (Nat.le_of_ble_eq_true rfl), (Nat.le_of_ble_eq_true rfl)⟩ ⟨rfl, rfl⟩ (Nat.le_of_ble_eq_true rfl) dL_lineCharacter_4 (fun u9 H locs q9 ce hgh9 hP hD hS h1 h2 h3 => ?_)
    have hN := hE.2.2.2.2.2.2
    obtain ⟨he, hz9⟩ := cd_1 hk
    rw [he] at h3
    subst hz9
    refine vx_catch (name := "java/lang/IndexOutOfBoundsException") hown [] ⟨0, 9, 12, 25⟩ [] (htab.trans rfl) (fun z9 hz9 => by cases hz9) rfl (by decide) (hts _ (WT_in 825 (by decide +kernel) (by decide +kernel))) (va_Nw.use rfl (hN.2.2.2.2.2.1 ("java/lang/IndexOutOfBoundsException", "java/lang/IndexOutOfBoundsException") (by decide +kernel))) h1 h2 h3 ?_
    refine lv_astore_n (lv' := [(3, .ref q9), (0, .ref (a 0)), (1, .int p0), (2, .ref q3)]) hx hb dL_lineCharacter_12 rfl hl (by decide) rfl (fun ls hl => ?_)
    refine lv_iconst (v := 1) hx hb dL_lineCharacter_13 (by decide) ?_
    rw [hQ]
    exact jg_zret hx hb hr rfl hlocks () hP hD hS dL_lineCharacter_14 rfl trivial (Nat.le_of_ble_eq_true rfl) (Nat.le_of_ble_eq_true rfl)
set_option maxHeartbeats 4000000 in
set_option maxRecDepth 100000 in
theorem h_denial (g : GG) (l : Launch) (hst : l.stackTraces = false) (a a1 a2 a3 a4 a5 a6 a7 : Nat → Nat) (q3 : Nat) (fL : Nat → Int64) (x : Xv)  (z : (Int32) ⊕ (String)) (hF : F_X4_denial x  = some z) (kz : Int32) (hk : Sum.elim (fun _ => some 0) (fun y => cd ["java/util/NoSuchElementException"] 1 y) z = some kz) : MW (G := Unit) g l yL_denial cL_denial 3 (some .int) [(0, 8, 11, 55)] ({ frames := 8, cells := 1, slots := 6, locals := 130 } : Room) [.ref (a 0), .ref q3] [wO g q3 fL, wX g a a1 a2 a3 a4 a5 a6 a7 x] 1 6 (fun _ => some (.int kz)) (fun _ => Sum.elim (fun y => [wO g q3 (vp_updL fL (0 : Int32).toNatClampNeg (i2l y)), wX g a a1 a2 a3 a4 a5 a6 a7 x]) (fun y => [wO g q3 fL, wX g a a1 a2 a3 a4 a5 a6 a7 x]) z) (fun _ => True) := by
  refine MW.bg (by decide) (Nat.le_of_ble_eq_true rfl) ?_
  intro p e s m below meth c A Q hQ hx hb hr hml hown hts hts2 hlocks htab hK hE hA hP hD hS ls hl
  have hl : lv_has ls 3 [(0, .ref (a 0)), (1, .ref q3)] := hl
  refine lv_aload_n hx hb dL_denial_0 rfl (lv_at hl 1 rfl) ?_
  refine lv_iconst (v := 0) hx hb dL_denial_1 (by decide) ?_
  refine lv_aload_n hx hb dL_denial_2 rfl (lv_at hl 0 rfl) ?_
  rcases z with y | y
  · have hkz : (0 : Int32) = kz := Option.some.inj hk
    subst hkz
    refine cx_n (v := some (.int y)) (csR := [wO g q3 fL]) (csF := [wO g q3 fL, wX g a a1 a2 a3 a4 a5 a6 a7 x]) (rest := [.int 0, .ref q3]) hx hb hml hown hts hK hE hA hl hP hD hS (c_X4_denial g l hst a a1 a2 a3 a4 a5 a6 a7 x  (.inl y) hF) [1] [0] [0, 1] ⟨rfl, rfl, rfl, rfl, rfl, rfl, rfl⟩ ⟨0, 8, _, _, rfl, rfl, rfl⟩ 0 (jb_giV (WT_in 1261 (by decide +kernel) (by decide +kernel)) (WT_in 1262 (by decide +kernel) (by decide +kernel)) (WT_in 1263 (by decide +kernel) (by decide +kernel)) (WT_in 1 (by decide +kernel) (by decide +kernel)) (WT_in 1264 (by decide +kernel) (by decide +kernel))) ⟨rfl, rfl⟩ (by decide +kernel) ⟨⟨(Nat.le_of_ble_eq_true rfl), (Nat.le_of_ble_eq_true rfl)⟩, (Nat.le_of_ble_eq_true rfl), (Nat.le_of_ble_eq_true rfl)⟩ ⟨rfl, rfl⟩ (Nat.le_of_ble_eq_true rfl) dL_denial_3 (fun H locs hP hD hS => ?_)
    refine W.eq (g2 := F0 m 6 ls [.int y, .int 0, .ref q3]) rfl ?_
    refine lv_i2l (v := i2l y) hx hb dL_denial_6 rfl ?_
    refine va_last hx hb hK hP hD hS 0 4 rfl rfl (show vp_in (0 : Int32) 1 by unfold vp_in; decide) dL_denial_7 (fun H locs hP hD hS => ?_)
    refine lv_goto (tgt := 14) hx hb dL_denial_8 (by decide) ?_
    refine lv_iconst (v := 0) hx hb dL_denial_14 (by decide) ?_
    rw [hQ]
    exact jg_zret hx hb hr rfl hlocks () hP hD hS dL_denial_15 rfl trivial (Nat.le_of_ble_eq_true rfl) (Nat.le_of_ble_eq_true rfl)
  · have hk : cd ["java/util/NoSuchElementException"] 1 y = some kz := hk
    refine cx_x (E := y) (csR := [wO g q3 fL]) (csF := [wO g q3 fL, wX g a a1 a2 a3 a4 a5 a6 a7 x]) (rest := [.int 0, .ref q3]) hx hb hml hown hts hK hE hA hl hP hD hS (c_X4_denial g l hst a a1 a2 a3 a4 a5 a6 a7 x  (.inr y) hF) [1] [0] [0, 1] ⟨rfl, rfl, rfl, rfl, rfl, rfl, rfl⟩ ⟨0, 8, _, _, rfl, rfl, rfl⟩ 0 (jb_giV (WT_in 1261 (by decide +kernel) (by decide +kernel)) (WT_in 1262 (by decide +kernel) (by decide +kernel)) (WT_in 1263 (by decide +kernel) (by decide +kernel)) (WT_in 1 (by decide +kernel) (by decide +kernel)) (WT_in 1264 (by decide +kernel) (by decide +kernel))) ⟨rfl, rfl⟩ (by decide +kernel) ⟨⟨(Nat.le_of_ble_eq_true rfl), (Nat.le_of_ble_eq_true rfl)⟩, (Nat.le_of_ble_eq_true rfl), (Nat.le_of_ble_eq_true rfl)⟩ ⟨rfl, rfl⟩ (Nat.le_of_ble_eq_true rfl) dL_denial_3 (fun H locs q9 ce hP hD hS h1 h2 h3 => ?_)
    have hN := hE.2.2.2.2.2.2
    obtain ⟨he, hz9⟩ := cd_1 hk
    rw [he] at h3
    subst hz9
    refine vx_catch (name := "java/util/NoSuchElementException") hown [] ⟨0, 8, 11, 55⟩ [] (htab.trans rfl) (fun z9 hz9 => by cases hz9) rfl (by decide) (hts _ (WT_in 904 (by decide +kernel) (by decide +kernel))) (va_Nw.use rfl (hN.2.2.2.2.2.1 ("java/util/NoSuchElementException", "java/util/NoSuchElementException") (by decide +kernel))) h1 h2 h3 ?_
    refine lv_astore_n (lv' := [(2, .ref q9), (0, .ref (a 0)), (1, .ref q3)]) hx hb dL_denial_11 rfl hl (by decide) rfl (fun ls hl => ?_)
    refine lv_iconst (v := 1) hx hb dL_denial_12 (by decide) ?_
    rw [hQ]
    exact jg_zret hx hb hr rfl hlocks () hP hD hS dL_denial_13 rfl trivial (Nat.le_of_ble_eq_true rfl) (Nat.le_of_ble_eq_true rfl)
set_option maxHeartbeats 4000000 in
set_option maxRecDepth 100000 in
theorem h_denialDetail (g : GG) (l : Launch) (hst : l.stackTraces = false) (a a1 a2 a3 a4 a5 a6 a7 : Nat → Nat) (q3 : Nat) (fL : Nat → Int64) (x : Xv)  (z : (Int32) ⊕ (String)) (hF : F_X4_denialDetail x  = some z) (kz : Int32) (hk : Sum.elim (fun _ => some 0) (fun y => cd ["java/util/NoSuchElementException"] 1 y) z = some kz) : MW (G := Unit) g l yL_denialDetail cL_denialDetail 3 (some .int) [(0, 8, 11, 55)] ({ frames := 8, cells := 1, slots := 6, locals := 130 } : Room) [.ref (a 0), .ref q3] [wO g q3 fL, wX g a a1 a2 a3 a4 a5 a6 a7 x] 1 6 (fun _ => some (.int kz)) (fun _ => Sum.elim (fun y => [wO g q3 (vp_updL fL (0 : Int32).toNatClampNeg (i2l y)), wX g a a1 a2 a3 a4 a5 a6 a7 x]) (fun y => [wO g q3 fL, wX g a a1 a2 a3 a4 a5 a6 a7 x]) z) (fun _ => True) := by
  refine MW.bg (by decide) (Nat.le_of_ble_eq_true rfl) ?_
  intro p e s m below meth c A Q hQ hx hb hr hml hown hts hts2 hlocks htab hK hE hA hP hD hS ls hl
  have hl : lv_has ls 3 [(0, .ref (a 0)), (1, .ref q3)] := hl
  refine lv_aload_n hx hb dL_denialDetail_0 rfl (lv_at hl 1 rfl) ?_
  refine lv_iconst (v := 0) hx hb dL_denialDetail_1 (by decide) ?_
  refine lv_aload_n hx hb dL_denialDetail_2 rfl (lv_at hl 0 rfl) ?_
  rcases z with y | y
  · have hkz : (0 : Int32) = kz := Option.some.inj hk
    subst hkz
    refine cx_n (v := some (.int y)) (csR := [wO g q3 fL]) (csF := [wO g q3 fL, wX g a a1 a2 a3 a4 a5 a6 a7 x]) (rest := [.int 0, .ref q3]) hx hb hml hown hts hK hE hA hl hP hD hS (c_X4_denialDetail g l hst a a1 a2 a3 a4 a5 a6 a7 x  (.inl y) hF) [1] [0] [0, 1] ⟨rfl, rfl, rfl, rfl, rfl, rfl, rfl⟩ ⟨0, 8, _, _, rfl, rfl, rfl⟩ 0 (jb_giV (WT_in 1273 (by decide +kernel) (by decide +kernel)) (WT_in 1274 (by decide +kernel) (by decide +kernel)) (WT_in 1275 (by decide +kernel) (by decide +kernel)) (WT_in 1 (by decide +kernel) (by decide +kernel)) (WT_in 1276 (by decide +kernel) (by decide +kernel))) ⟨rfl, rfl⟩ (by decide +kernel) ⟨⟨(Nat.le_of_ble_eq_true rfl), (Nat.le_of_ble_eq_true rfl)⟩, (Nat.le_of_ble_eq_true rfl), (Nat.le_of_ble_eq_true rfl)⟩ ⟨rfl, rfl⟩ (Nat.le_of_ble_eq_true rfl) dL_denialDetail_3 (fun H locs hP hD hS => ?_)
    refine W.eq (g2 := F0 m 6 ls [.int y, .int 0, .ref q3]) rfl ?_
    refine lv_i2l (v := i2l y) hx hb dL_denialDetail_6 rfl ?_
    refine va_last hx hb hK hP hD hS 0 4 rfl rfl (show vp_in (0 : Int32) 1 by unfold vp_in; decide) dL_denialDetail_7 (fun H locs hP hD hS => ?_)
    refine lv_goto (tgt := 14) hx hb dL_denialDetail_8 (by decide) ?_
    refine lv_iconst (v := 0) hx hb dL_denialDetail_14 (by decide) ?_
    rw [hQ]
    exact jg_zret hx hb hr rfl hlocks () hP hD hS dL_denialDetail_15 rfl trivial (Nat.le_of_ble_eq_true rfl) (Nat.le_of_ble_eq_true rfl)
  · have hk : cd ["java/util/NoSuchElementException"] 1 y = some kz := hk
    refine cx_x (E := y) (csR := [wO g q3 fL]) (csF := [wO g q3 fL, wX g a a1 a2 a3 a4 a5 a6 a7 x]) (rest := [.int 0, .ref q3]) hx hb hml hown hts hK hE hA hl hP hD hS (c_X4_denialDetail g l hst a a1 a2 a3 a4 a5 a6 a7 x  (.inr y) hF) [1] [0] [0, 1] ⟨rfl, rfl, rfl, rfl, rfl, rfl, rfl⟩ ⟨0, 8, _, _, rfl, rfl, rfl⟩ 0 (jb_giV (WT_in 1273 (by decide +kernel) (by decide +kernel)) (WT_in 1274 (by decide +kernel) (by decide +kernel)) (WT_in 1275 (by decide +kernel) (by decide +kernel)) (WT_in 1 (by decide +kernel) (by decide +kernel)) (WT_in 1276 (by decide +kernel) (by decide +kernel))) ⟨rfl, rfl⟩ (by decide +kernel) ⟨⟨(Nat.le_of_ble_eq_true rfl), (Nat.le_of_ble_eq_true rfl)⟩, (Nat.le_of_ble_eq_true rfl), (Nat.le_of_ble_eq_true rfl)⟩ ⟨rfl, rfl⟩ (Nat.le_of_ble_eq_true rfl) dL_denialDetail_3 (fun H locs q9 ce hP hD hS h1 h2 h3 => ?_)
    have hN := hE.2.2.2.2.2.2
    obtain ⟨he, hz9⟩ := cd_1 hk
    rw [he] at h3
    subst hz9
    refine vx_catch (name := "java/util/NoSuchElementException") hown [] ⟨0, 8, 11, 55⟩ [] (htab.trans rfl) (fun z9 hz9 => by cases hz9) rfl (by decide) (hts _ (WT_in 904 (by decide +kernel) (by decide +kernel))) (va_Nw.use rfl (hN.2.2.2.2.2.1 ("java/util/NoSuchElementException", "java/util/NoSuchElementException") (by decide +kernel))) h1 h2 h3 ?_
    refine lv_astore_n (lv' := [(2, .ref q9), (0, .ref (a 0)), (1, .ref q3)]) hx hb dL_denialDetail_11 rfl hl (by decide) rfl (fun ls hl => ?_)
    refine lv_iconst (v := 1) hx hb dL_denialDetail_12 (by decide) ?_
    rw [hQ]
    exact jg_zret hx hb hr rfl hlocks () hP hD hS dL_denialDetail_13 rfl trivial (Nat.le_of_ble_eq_true rfl) (Nat.le_of_ble_eq_true rfl)
set_option maxHeartbeats 4000000 in
set_option maxRecDepth 100000 in
theorem h_denialCause (g : GG) (l : Launch) (hst : l.stackTraces = false) (a a1 a2 a3 a4 a5 a6 a7 : Nat → Nat) (q3 : Nat) (fL : Nat → Int64) (x : Xv)  (z : (Int32) ⊕ (String)) (hF : F_X4_denialCause x  = some z) (kz : Int32) (hk : Sum.elim (fun _ => some 0) (fun y => cd ["java/util/NoSuchElementException"] 1 y) z = some kz) : MW (G := Unit) g l yL_denialCause cL_denialCause 3 (some .int) [(0, 8, 11, 55)] ({ frames := 7, cells := 1, slots := 6, locals := 110 } : Room) [.ref (a 0), .ref q3] [wO g q3 fL, wX g a a1 a2 a3 a4 a5 a6 a7 x] 1 6 (fun _ => some (.int kz)) (fun _ => Sum.elim (fun y => [wO g q3 (vp_updL fL (0 : Int32).toNatClampNeg (i2l y)), wX g a a1 a2 a3 a4 a5 a6 a7 x]) (fun y => [wO g q3 fL, wX g a a1 a2 a3 a4 a5 a6 a7 x]) z) (fun _ => True) := by
  refine MW.bg (by decide) (Nat.le_of_ble_eq_true rfl) ?_
  intro p e s m below meth c A Q hQ hx hb hr hml hown hts hts2 hlocks htab hK hE hA hP hD hS ls hl
  have hl : lv_has ls 3 [(0, .ref (a 0)), (1, .ref q3)] := hl
  refine lv_aload_n hx hb dL_denialCause_0 rfl (lv_at hl 1 rfl) ?_
  refine lv_iconst (v := 0) hx hb dL_denialCause_1 (by decide) ?_
  refine lv_aload_n hx hb dL_denialCause_2 rfl (lv_at hl 0 rfl) ?_
  rcases z with y | y
  · have hkz : (0 : Int32) = kz := Option.some.inj hk
    subst hkz
    refine cx_n (v := some (.int y)) (csR := [wO g q3 fL]) (csF := [wO g q3 fL, wX g a a1 a2 a3 a4 a5 a6 a7 x]) (rest := [.int 0, .ref q3]) hx hb hml hown hts hK hE hA hl hP hD hS (c_X4_denialCause g l hst a a1 a2 a3 a4 a5 a6 a7 x  (.inl y) hF) [1] [0] [0, 1] ⟨rfl, rfl, rfl, rfl, rfl, rfl, rfl⟩ ⟨0, 8, _, _, rfl, rfl, rfl⟩ 0 (jb_giV (WT_in 1280 (by decide +kernel) (by decide +kernel)) (WT_in 1281 (by decide +kernel) (by decide +kernel)) (WT_in 1282 (by decide +kernel) (by decide +kernel)) (WT_in 1 (by decide +kernel) (by decide +kernel)) (WT_in 1283 (by decide +kernel) (by decide +kernel))) ⟨rfl, rfl⟩ (by decide +kernel) ⟨⟨(Nat.le_of_ble_eq_true rfl), (Nat.le_of_ble_eq_true rfl)⟩, (Nat.le_of_ble_eq_true rfl), (Nat.le_of_ble_eq_true rfl)⟩ ⟨rfl, rfl⟩ (Nat.le_of_ble_eq_true rfl) dL_denialCause_3 (fun H locs hP hD hS => ?_)
    refine W.eq (g2 := F0 m 6 ls [.int y, .int 0, .ref q3]) rfl ?_
    refine lv_i2l (v := i2l y) hx hb dL_denialCause_6 rfl ?_
    refine va_last hx hb hK hP hD hS 0 4 rfl rfl (show vp_in (0 : Int32) 1 by unfold vp_in; decide) dL_denialCause_7 (fun H locs hP hD hS => ?_)
    refine lv_goto (tgt := 14) hx hb dL_denialCause_8 (by decide) ?_
    refine lv_iconst (v := 0) hx hb dL_denialCause_14 (by decide) ?_
    rw [hQ]
    exact jg_zret hx hb hr rfl hlocks () hP hD hS dL_denialCause_15 rfl trivial (Nat.le_of_ble_eq_true rfl) (Nat.le_of_ble_eq_true rfl)
  · have hk : cd ["java/util/NoSuchElementException"] 1 y = some kz := hk
    refine cx_x (E := y) (csR := [wO g q3 fL]) (csF := [wO g q3 fL, wX g a a1 a2 a3 a4 a5 a6 a7 x]) (rest := [.int 0, .ref q3]) hx hb hml hown hts hK hE hA hl hP hD hS (c_X4_denialCause g l hst a a1 a2 a3 a4 a5 a6 a7 x  (.inr y) hF) [1] [0] [0, 1] ⟨rfl, rfl, rfl, rfl, rfl, rfl, rfl⟩ ⟨0, 8, _, _, rfl, rfl, rfl⟩ 0 (jb_giV (WT_in 1280 (by decide +kernel) (by decide +kernel)) (WT_in 1281 (by decide +kernel) (by decide +kernel)) (WT_in 1282 (by decide +kernel) (by decide +kernel)) (WT_in 1 (by decide +kernel) (by decide +kernel)) (WT_in 1283 (by decide +kernel) (by decide +kernel))) ⟨rfl, rfl⟩ (by decide +kernel) ⟨⟨(Nat.le_of_ble_eq_true rfl), (Nat.le_of_ble_eq_true rfl)⟩, (Nat.le_of_ble_eq_true rfl), (Nat.le_of_ble_eq_true rfl)⟩ ⟨rfl, rfl⟩ (Nat.le_of_ble_eq_true rfl) dL_denialCause_3 (fun H locs q9 ce hP hD hS h1 h2 h3 => ?_)
    have hN := hE.2.2.2.2.2.2
    obtain ⟨he, hz9⟩ := cd_1 hk
    rw [he] at h3
    subst hz9
    refine vx_catch (name := "java/util/NoSuchElementException") hown [] ⟨0, 8, 11, 55⟩ [] (htab.trans rfl) (fun z9 hz9 => by cases hz9) rfl (by decide) (hts _ (WT_in 904 (by decide +kernel) (by decide +kernel))) (va_Nw.use rfl (hN.2.2.2.2.2.1 ("java/util/NoSuchElementException", "java/util/NoSuchElementException") (by decide +kernel))) h1 h2 h3 ?_
    refine lv_astore_n (lv' := [(2, .ref q9), (0, .ref (a 0)), (1, .ref q3)]) hx hb dL_denialCause_11 rfl hl (by decide) rfl (fun ls hl => ?_)
    refine lv_iconst (v := 1) hx hb dL_denialCause_12 (by decide) ?_
    rw [hQ]
    exact jg_zret hx hb hr rfl hlocks () hP hD hS dL_denialCause_13 rfl trivial (Nat.le_of_ble_eq_true rfl) (Nat.le_of_ble_eq_true rfl)
set_option maxHeartbeats 4000000 in
set_option maxRecDepth 100000 in
theorem h_undo (g : GG) (l : Launch) (hst : l.stackTraces = false) (a a1 a2 a3 a4 a5 a6 a7 : Nat → Nat) (q3 : Nat) (fL : Nat → Int64) (x : Xv) (b : Bv) (h : Hv)  (z : (Int32 × Bv × Hv) ⊕ (String × Bv × Hv)) (hF : F_X4_undo x b h  = some z) (kz : Int32) (hk : Sum.elim (fun _ => some 0) (fun y => cd ["java/lang/IllegalStateException"] 1 y.1) z = some kz) : MW (G := Unit) g l yL_undo cL_undo 3 (some .int) [(0, 8, 11, 101)] ({ frames := 7, cells := 1, slots := 6, locals := 162 } : Room) [.ref (a 0), .ref q3] [wO g q3 fL, wX g a a1 a2 a3 a4 a5 a6 a7 x, wB g a1 b, wH g a4 h] 1 6 (fun _ => some (.int kz)) (fun _ => Sum.elim (fun y => [wO g q3 (vp_updL fL (0 : Int32).toNatClampNeg (i2l y.1)), wX g a a1 a2 a3 a4 a5 a6 a7 x, wB g a1 y.2.1, wH g a4 y.2.2]) (fun y => [wO g q3 fL, wX g a a1 a2 a3 a4 a5 a6 a7 x, wB g a1 y.2.1, wH g a4 y.2.2]) z) (fun _ => True) := by
  refine MW.bg (by decide) (Nat.le_of_ble_eq_true rfl) ?_
  intro p e s m below meth c A Q hQ hx hb hr hml hown hts hts2 hlocks htab hK hE hA hP hD hS ls hl
  have hl : lv_has ls 3 [(0, .ref (a 0)), (1, .ref q3)] := hl
  refine lv_aload_n hx hb dL_undo_0 rfl (lv_at hl 1 rfl) ?_
  refine lv_iconst (v := 0) hx hb dL_undo_1 (by decide) ?_
  refine lv_aload_n hx hb dL_undo_2 rfl (lv_at hl 0 rfl) ?_
  rcases z with y | y
  · have hkz : (0 : Int32) = kz := Option.some.inj hk
    subst hkz
    refine cx_n (v := some (.int y.1)) (csR := [wO g q3 fL]) (csF := [wO g q3 fL, wX g a a1 a2 a3 a4 a5 a6 a7 x, wB g a1 y.2.1, wH g a4 y.2.2]) (rest := [.int 0, .ref q3]) hx hb hml hown hts hK hE hA hl hP hD hS (c_X4_undo g l hst a a1 a2 a3 a4 a5 a6 a7 x b h  (.inl y) hF) [1, 2, 3] [0] [0, 1, 2, 3] ⟨rfl, rfl, rfl, rfl, rfl, rfl, rfl⟩ ⟨0, 8, _, _, rfl, rfl, rfl⟩ 0 (jb_giV (WT_in 1288 (by decide +kernel) (by decide +kernel)) (WT_in 1289 (by decide +kernel) (by decide +kernel)) (WT_in 1290 (by decide +kernel) (by decide +kernel)) (WT_in 1 (by decide +kernel) (by decide +kernel)) (WT_in 1291 (by decide +kernel) (by decide +kernel))) ⟨rfl, rfl⟩ (by decide +kernel) ⟨⟨(Nat.le_of_ble_eq_true rfl), (Nat.le_of_ble_eq_true rfl)⟩, (Nat.le_of_ble_eq_true rfl), (Nat.le_of_ble_eq_true rfl)⟩ ⟨rfl, rfl⟩ (Nat.le_of_ble_eq_true rfl) dL_undo_3 (fun H locs hP hD hS => ?_)
    refine W.eq (g2 := F0 m 6 ls [.int y.1, .int 0, .ref q3]) rfl ?_
    refine lv_i2l (v := i2l y.1) hx hb dL_undo_6 rfl ?_
    refine va_last hx hb hK hP hD hS 0 4 rfl rfl (show vp_in (0 : Int32) 1 by unfold vp_in; decide) dL_undo_7 (fun H locs hP hD hS => ?_)
    refine lv_goto (tgt := 14) hx hb dL_undo_8 (by decide) ?_
    refine lv_iconst (v := 0) hx hb dL_undo_14 (by decide) ?_
    rw [hQ]
    exact jg_zret hx hb hr rfl hlocks () hP hD hS dL_undo_15 rfl trivial (Nat.le_of_ble_eq_true rfl) (Nat.le_of_ble_eq_true rfl)
  · have hk : cd ["java/lang/IllegalStateException"] 1 y.1 = some kz := hk
    refine cx_x (E := y.1) (csR := [wO g q3 fL]) (csF := [wO g q3 fL, wX g a a1 a2 a3 a4 a5 a6 a7 x, wB g a1 y.2.1, wH g a4 y.2.2]) (rest := [.int 0, .ref q3]) hx hb hml hown hts hK hE hA hl hP hD hS (c_X4_undo g l hst a a1 a2 a3 a4 a5 a6 a7 x b h  (.inr y) hF) [1, 2, 3] [0] [0, 1, 2, 3] ⟨rfl, rfl, rfl, rfl, rfl, rfl, rfl⟩ ⟨0, 8, _, _, rfl, rfl, rfl⟩ 0 (jb_giV (WT_in 1288 (by decide +kernel) (by decide +kernel)) (WT_in 1289 (by decide +kernel) (by decide +kernel)) (WT_in 1290 (by decide +kernel) (by decide +kernel)) (WT_in 1 (by decide +kernel) (by decide +kernel)) (WT_in 1291 (by decide +kernel) (by decide +kernel))) ⟨rfl, rfl⟩ (by decide +kernel) ⟨⟨(Nat.le_of_ble_eq_true rfl), (Nat.le_of_ble_eq_true rfl)⟩, (Nat.le_of_ble_eq_true rfl), (Nat.le_of_ble_eq_true rfl)⟩ ⟨rfl, rfl⟩ (Nat.le_of_ble_eq_true rfl) dL_undo_3 (fun H locs q9 ce hP hD hS h1 h2 h3 => ?_)
    have hN := hE.2.2.2.2.2.2
    obtain ⟨he, hz9⟩ := cd_1 hk
    rw [he] at h3
    subst hz9
    refine vx_catch (name := "java/lang/IllegalStateException") hown [] ⟨0, 8, 11, 101⟩ [] (htab.trans rfl) (fun z9 hz9 => by cases hz9) rfl (by decide) (hts _ (WT_in 1121 (by decide +kernel) (by decide +kernel))) (va_Nw.use rfl (hN.2.2.2.2.2.1 ("java/lang/IllegalStateException", "java/lang/IllegalStateException") (by decide +kernel))) h1 h2 h3 ?_
    refine lv_astore_n (lv' := [(2, .ref q9), (0, .ref (a 0)), (1, .ref q3)]) hx hb dL_undo_11 rfl hl (by decide) rfl (fun ls hl => ?_)
    refine lv_iconst (v := 1) hx hb dL_undo_12 (by decide) ?_
    rw [hQ]
    exact jg_zret hx hb hr rfl hlocks () hP hD hS dL_undo_13 rfl trivial (Nat.le_of_ble_eq_true rfl) (Nat.le_of_ble_eq_true rfl)
set_option maxHeartbeats 4000000 in
set_option maxRecDepth 100000 in
theorem h_restoreSnapshot (g : GG) (l : Launch) (hst : l.stackTraces = false) (a a1 a2 a3 a4 a5 a6 a7 : Nat → Nat) (q3 : Nat) (fL : Nat → Int64) (x : Xv) (b : Bv) (sn : Bv) (h : Hv)  (z : (Int32 × Bv × Hv) ⊕ (String × Bv × Hv)) (hF : F_X4_restoreSnapshot x b sn h  = some z) (kz : Int32) (hk : Sum.elim (fun _ => some 0) (fun y => cd ["java/lang/IllegalStateException"] 1 y.1) z = some kz) : MW (G := Unit) g l yL_restoreSnapshot cL_restoreSnapshot 3 (some .int) [(0, 8, 11, 101)] ({ frames := 7, cells := 1, slots := 6, locals := 141 } : Room) [.ref (a 0), .ref q3] [wO g q3 fL, wX g a a1 a2 a3 a4 a5 a6 a7 x, wB g a1 b, wB g a3 sn, wH g a4 h] 1 6 (fun _ => some (.int kz)) (fun _ => Sum.elim (fun y => [wO g q3 (vp_updL fL (0 : Int32).toNatClampNeg (i2l y.1)), wX g a a1 a2 a3 a4 a5 a6 a7 x, wB g a1 y.2.1, wB g a3 sn, wH g a4 y.2.2]) (fun y => [wO g q3 fL, wX g a a1 a2 a3 a4 a5 a6 a7 x, wB g a1 y.2.1, wB g a3 sn, wH g a4 y.2.2]) z) (fun _ => True) := by
  refine MW.bg (by decide) (Nat.le_of_ble_eq_true rfl) ?_
  intro p e s m below meth c A Q hQ hx hb hr hml hown hts hts2 hlocks htab hK hE hA hP hD hS ls hl
  have hl : lv_has ls 3 [(0, .ref (a 0)), (1, .ref q3)] := hl
  refine lv_aload_n hx hb dL_restoreSnapshot_0 rfl (lv_at hl 1 rfl) ?_
  refine lv_iconst (v := 0) hx hb dL_restoreSnapshot_1 (by decide) ?_
  refine lv_aload_n hx hb dL_restoreSnapshot_2 rfl (lv_at hl 0 rfl) ?_
  rcases z with y | y
  · have hkz : (0 : Int32) = kz := Option.some.inj hk
    subst hkz
    refine cx_n (v := some (.int y.1)) (csR := [wO g q3 fL]) (csF := [wO g q3 fL, wX g a a1 a2 a3 a4 a5 a6 a7 x, wB g a1 y.2.1, wB g a3 sn, wH g a4 y.2.2]) (rest := [.int 0, .ref q3]) hx hb hml hown hts hK hE hA hl hP hD hS (c_X4_restoreSnapshot g l hst a a1 a2 a3 a4 a5 a6 a7 x b sn h  (.inl y) hF) [1, 2, 3, 4] [0] [0, 1, 2, 3, 4] ⟨rfl, rfl, rfl, rfl, rfl, rfl, rfl⟩ ⟨0, 8, _, _, rfl, rfl, rfl⟩ 0 (jb_giV (WT_in 1300 (by decide +kernel) (by decide +kernel)) (WT_in 1301 (by decide +kernel) (by decide +kernel)) (WT_in 1302 (by decide +kernel) (by decide +kernel)) (WT_in 1 (by decide +kernel) (by decide +kernel)) (WT_in 1303 (by decide +kernel) (by decide +kernel))) ⟨rfl, rfl⟩ (by decide +kernel) ⟨⟨(Nat.le_of_ble_eq_true rfl), (Nat.le_of_ble_eq_true rfl)⟩, (Nat.le_of_ble_eq_true rfl), (Nat.le_of_ble_eq_true rfl)⟩ ⟨rfl, rfl⟩ (Nat.le_of_ble_eq_true rfl) dL_restoreSnapshot_3 (fun H locs hP hD hS => ?_)
    refine W.eq (g2 := F0 m 6 ls [.int y.1, .int 0, .ref q3]) rfl ?_
    refine lv_i2l (v := i2l y.1) hx hb dL_restoreSnapshot_6 rfl ?_
    refine va_last hx hb hK hP hD hS 0 4 rfl rfl (show vp_in (0 : Int32) 1 by unfold vp_in; decide) dL_restoreSnapshot_7 (fun H locs hP hD hS => ?_)
    refine lv_goto (tgt := 14) hx hb dL_restoreSnapshot_8 (by decide) ?_
    refine lv_iconst (v := 0) hx hb dL_restoreSnapshot_14 (by decide) ?_
    rw [hQ]
    exact jg_zret hx hb hr rfl hlocks () hP hD hS dL_restoreSnapshot_15 rfl trivial (Nat.le_of_ble_eq_true rfl) (Nat.le_of_ble_eq_true rfl)
  · have hk : cd ["java/lang/IllegalStateException"] 1 y.1 = some kz := hk
    refine cx_x (E := y.1) (csR := [wO g q3 fL]) (csF := [wO g q3 fL, wX g a a1 a2 a3 a4 a5 a6 a7 x, wB g a1 y.2.1, wB g a3 sn, wH g a4 y.2.2]) (rest := [.int 0, .ref q3]) hx hb hml hown hts hK hE hA hl hP hD hS (c_X4_restoreSnapshot g l hst a a1 a2 a3 a4 a5 a6 a7 x b sn h  (.inr y) hF) [1, 2, 3, 4] [0] [0, 1, 2, 3, 4] ⟨rfl, rfl, rfl, rfl, rfl, rfl, rfl⟩ ⟨0, 8, _, _, rfl, rfl, rfl⟩ 0 (jb_giV (WT_in 1300 (by decide +kernel) (by decide +kernel)) (WT_in 1301 (by decide +kernel) (by decide +kernel)) (WT_in 1302 (by decide +kernel) (by decide +kernel)) (WT_in 1 (by decide +kernel) (by decide +kernel)) (WT_in 1303 (by decide +kernel) (by decide +kernel))) ⟨rfl, rfl⟩ (by decide +kernel) ⟨⟨(Nat.le_of_ble_eq_true rfl), (Nat.le_of_ble_eq_true rfl)⟩, (Nat.le_of_ble_eq_true rfl), (Nat.le_of_ble_eq_true rfl)⟩ ⟨rfl, rfl⟩ (Nat.le_of_ble_eq_true rfl) dL_restoreSnapshot_3 (fun H locs q9 ce hP hD hS h1 h2 h3 => ?_)
    have hN := hE.2.2.2.2.2.2
    obtain ⟨he, hz9⟩ := cd_1 hk
    rw [he] at h3
    subst hz9
    refine vx_catch (name := "java/lang/IllegalStateException") hown [] ⟨0, 8, 11, 101⟩ [] (htab.trans rfl) (fun z9 hz9 => by cases hz9) rfl (by decide) (hts _ (WT_in 1121 (by decide +kernel) (by decide +kernel))) (va_Nw.use rfl (hN.2.2.2.2.2.1 ("java/lang/IllegalStateException", "java/lang/IllegalStateException") (by decide +kernel))) h1 h2 h3 ?_
    refine lv_astore_n (lv' := [(2, .ref q9), (0, .ref (a 0)), (1, .ref q3)]) hx hb dL_restoreSnapshot_11 rfl hl (by decide) rfl (fun ls hl => ?_)
    refine lv_iconst (v := 1) hx hb dL_restoreSnapshot_12 (by decide) ?_
    rw [hQ]
    exact jg_zret hx hb hr rfl hlocks () hP hD hS dL_restoreSnapshot_13 rfl trivial (Nat.le_of_ble_eq_true rfl) (Nat.le_of_ble_eq_true rfl)
