/-! the law's helpers: a call of the class, its answer in 'out', its exception as a number -/
theorem rl_is : RL = "JamBridgeLaw" := rfl
def cd : List String → Int32 → String → Option Int32
  | [], _, _ => none
  | e :: es, k, x => if x = e then some k else cd es (k + 1) x
theorem cd_1 {e1 x : String} {k : Int32} (h : cd [e1] 1 x = some k) : x = e1 ∧ k = 1 := by
  by_cases c1 : x = e1
  · rw [cd, if_pos c1] at h; exact ⟨c1, (Option.some.inj h).symm⟩
  · rw [cd, if_neg c1] at h; cases h
theorem cd_2 {e1 e2 x : String} {k : Int32} (h : cd [e1, e2] 1 x = some k) : (x = e1 ∧ k = 1) ∨ (x = e2 ∧ k = 2) := by
  by_cases c1 : x = e1
  · rw [cd, if_pos c1] at h; exact Or.inl ⟨c1, (Option.some.inj h).symm⟩
  · rw [cd, if_neg c1] at h
    by_cases c2 : x = e2
    · rw [cd, if_pos c2] at h; exact Or.inr ⟨c2, (Option.some.inj h).symm⟩
    · rw [cd, if_neg c2] at h; cases h
theorem cd_3 {e1 e2 e3 x : String} {k : Int32} (h : cd [e1, e2, e3] 1 x = some k) : (x = e1 ∧ k = 1) ∨ (x = e2 ∧ k = 2) ∨ (x = e3 ∧ k = 3) := by
  by_cases c1 : x = e1
  · rw [cd, if_pos c1] at h; exact Or.inl ⟨c1, (Option.some.inj h).symm⟩
  · rw [cd, if_neg c1] at h
    by_cases c2 : x = e2
    · rw [cd, if_pos c2] at h; exact Or.inr (Or.inl ⟨c2, (Option.some.inj h).symm⟩)
    · rw [cd, if_neg c2] at h
      by_cases c3 : x = e3
      · rw [cd, if_pos c3] at h; exact Or.inr (Or.inr ⟨c3, (Option.some.inj h).symm⟩)
      · rw [cd, if_neg c3] at h; cases h
def wsW (y : MethodName) (cc : ByteArray) (n : Nat) (ret : Option FieldType) (hh : List (Nat × Nat × Nat × Nat)) : List Cond := Cond.codeWith y cc n ret hh :: WW2
def wO (g : GG) (q : Nat) (f : Nat → Int64) : va_W := [(q, .inl (g.2.1 4, 1, .inr (.inl f)))]
def wOD (g : GG) (q : Nat) (f : Nat → UInt64) : va_W := [(q, .inl (g.2.1 5, 1, .inr (.inr (.inr (.inl f)))))]
def MW {G : Type} (g : GG) (l : Launch) (y : MethodName) (cc : ByteArray) (n : Nat) (ret : Option FieldType) (hh : List (Nat × Nat × Nat × Nat)) (rm : Room) (av : List Value) (cs : List va_W) (mc ms : Nat) (rs : G → Option Value) (f : G → List va_W) (Pr : G → Prop) : Prop :=
  ∀ sz : Nat, Met l y (wsW y cc n ret hh) rm (va_Pc av (PRE g cs sz)) (QG g rs f Pr (va_A cs.flatten sz)) mc ms (va_A cs.flatten sz)
theorem MW.bg {G : Type} {g : GG} {l : Launch} {y : MethodName} {cc : ByteArray} {n : Nat} {ret : Option FieldType} {hh : List (Nat × Nat × Nat × Nat)} {rm : Room} {av : List Value} {cs : List va_W} {mc ms : Nat} {rs : G → Option Value} {f : G → List va_W} {Pr : G → Prop} (hy : plainName y.cls = true) (hn : (lg_sl av).length ≤ n)
    (body : ∀ (p : Program) (e : Env) (s : State) (m : MethodId) (below : List Frame) (meth : Method) (c : Code) (A : Nat → Prop) (Q : State → Prop), Q = (MQ below (QG g rs f Pr A) av.toArray s mc ms A) → p.tables.exec = Jvm.exec → c.code = cc → meth.sig.returnType = ret → c.maxLocals = n → s.vm.findClass y.cls = some m.cls → (∀ w ∈ WW, w.before av.toArray s = true) → (∀ w ∈ WW2, w.before av.toArray s = true) → meth.locks = false → c.exceptionTable.toList = tableOf hh → va_K g.1 vwCl (TY g) s → EV g A s s.heap → (∀ q : Nat, s.heap.size ≤ q → A q) → va_P g.1 vwCl cs.flatten s.heap → va_D A cs.flatten → va_S A s.heap s.heap [] →
      ∀ ls : Array Slot, lv_has ls n (lv_args 0 av) → W p l e rm s m av.toArray below meth c s.heap [] 0 0 Q (F0 m 0 ls [])) : MW g l y cc n ret hh rm av cs mc ms rs f Pr := by
  intro sz
  refine va_MetW (cc := cc) (maxL := n) (ret := ret) (hh := hh) hy rfl ?_
  intro p e s m args below meth c s₁ B hml hv
  obtain ⟨rfl, hsz, hP, hK, hD0, hE⟩ := hv
  subst hsz
  have hts := atoms_spec (ws := wsW y cc n ret hh) B.pre
  have htab := vx_table B (hts _ List.mem_cons_self)
  have hl := lv_entry av (n := n) hn
  rw [lg_entry_eq]
  exact body p e s m below meth c (va_A cs.flatten s.heap.size) _ rfl B.exec B.bytes B.returns hml (findClass_of_methodNamed B.named) (fun w hw => hts w (List.mem_cons_of_mem _ (w2_in hw))) (fun w hw => hts w (List.mem_cons_of_mem _ hw)) B.notSynchronized htab hK hE (fun q h => Or.inr h) hP hD0.self va_S.rf _ hl
section LCALLS
variable {p : Program} {l : Launch} {e : Env} {R : Room} {s : State} {m : MethodId} {args : Array Value} {below : List Frame} {meth : Method} {c : Code} {H : Heap} {locs : List Loc} {cells slots : Nat} {Q : State → Prop}
  {cc bytes : ByteArray} {nL maxL index n mc ms pc : Nat} {own C : String} {y : MethodName} {ret : Option FieldType} {rm : Room} {b : Addr} {As rest st0 : List Value} {ls : Array Slot} {g : GG} {A : Nat → Prop} {cs csC csR : List va_W} {lv : List (Nat × Value)} {v : Option Value} {E : String} {G : Type} {res : G → (Option Value × List va_W) ⊕ (String × List va_W)} {Pr : G → Prop} {csN csF : G → List va_W}
/-- a call of a method that may throw and makes a world: it comes back -/
theorem cxg_n (hx : p.tables.exec = Jvm.exec) (hb : c.code = cc) (hml : c.maxLocals = nL) (hown : s.vm.findClass own = some m.cls) (hts : ∀ w ∈ WW2, w.before args s = true) (hK : va_K g.1 vwCl (TY g) s) (hE : EV g A s s.heap) (hA : ∀ q : Nat, s.heap.size ≤ q → A q) (hl : lv_has ls nL lv)
    (hP : va_P g.1 vwCl cs.flatten H) (hD : va_D A cs.flatten) (hS : va_S A s.heap H locs) (hM : MXG g l y bytes maxL ret rm (.ref b :: As) csC mc ms res Pr) (hres : ∀ x, res x = .inl (v, csN x)) (isC isR isF : List Nat) (hCs : isC.map (fun i => cs[i]?) = csC.map some ∧ va_nd isC = true) (hJ : ∀ x, CJ cs csC csR (csN x) (csF x) isC isR isF) (hR : RV csC b C) (n : Nat)
    (hG : GoodIn WW2 (wsV own index C y (wsL y bytes maxL ret))) (hrm : rm.cells = mc ∧ rm.slots = ms) (hd : y.cls = C ∧ y.cls ≠ "java/lang/invoke/MethodHandle" ∧ y.cls ≠ "java/lang/invoke/VarHandle" ∧ (parseMethodDescriptor y.desc).map (fun d => d.parameters.length) = some n)
    (hRm : (rm.frames + 1 ≤ R.frames ∧ 8 + (maxL + 11) + rm.locals ≤ R.locals) ∧ cells + mc ≤ R.cells ∧ slots + ms ≤ R.slots) (hst : As.length = n ∧ st0 = As.reverse ++ .ref b :: rest) (hW : (rest.map fun v => v.category).sum ≤ 8) (hdg : decode cc pc = .ok (.invokevirtual index, 3))
    (kk : ∀ (x : G) (H1 : Heap) (locs1 : List Loc), Pr x → va_P g.1 vwCl (csF x).flatten H1 → va_D A (csF x).flatten → va_S A s.heap H1 locs1 → W p l e R s m args below meth c H1 locs1 (cells + mc) (slots + ms) Q (F0 m (pc + 3) ls (v.toList ++ rest))) : W p l e R s m args below meth c H locs cells slots Q (F0 m pc ls st0) := by
  obtain ⟨q0, ci, q, fs, r1, r2, rfl⟩ := hR
  have hPc := fr_sub hP isC hCs.1
  have hDc := fr_subD hD isC hCs.2 hCs.1
  have hFc := fr_free hD hS hA isC hCs.1
  have hr := vx_runV (e := e) (m := m) (below := below) (meth := meth) (locs := locs) (g := F0 m pc ls st0) (As := As) (rest := rest) ⟨hx, hb, hml, hown, hts⟩ (hM H.size) (cwV n hts hG rfl hrm.1 hrm.2 hd hRm.1) ⟨PRE.blind, va_recv hK hPc r2 r1, PRE.go hPc hK hDc hE hS hFc⟩ rfl hst.1 hl.1 hst.2 (lv_room hW) hdg hRm.2
  intro T hT X
  rcases hr T hT X with ⟨v2, st₀, t, T', L, h0, X', hL, e1, e2, ⟨⟨x, v3, cs3, hv, hres3, hpr, hp, hdd⟩, hF⟩, st⟩ | ⟨q, st₀, t, T', L, E, ce, h0, X', hL, e1, e2, ⟨⟨x, cs3, hres3, -, -, -⟩, -⟩, -⟩
  · cases hv
    rw [hres x] at hres3
    cases hres3
    obtain ⟨j1, j2, j3, j4, j5, j6, j7⟩ := hJ x
    obtain ⟨k1, k2, k3⟩ := vx_keep h0 e1 hS (fun q _ h => hFc q h) hFc hL hF
    rw [← e1] at hp
    obtain ⟨hP2, hD2⟩ := fr_join hP hD isC isR j1 j3 j4 j5 k2 hFc hp hdd
    obtain ⟨t2, a1, b1⟩ := kk x T'.heap (locs ++ L) hpr (fr_sub hP2 isF j6) (fr_subD hD2 isF j7 j6) k3 T' rfl X'
    exact ⟨t2, st t2 a1, b1⟩
  · rw [hres x] at hres3
    cases hres3
theorem cxg_x (hx : p.tables.exec = Jvm.exec) (hb : c.code = cc) (hml : c.maxLocals = nL) (hown : s.vm.findClass own = some m.cls) (hts : ∀ w ∈ WW2, w.before args s = true) (hK : va_K g.1 vwCl (TY g) s) (hE : EV g A s s.heap) (hA : ∀ q : Nat, s.heap.size ≤ q → A q) (hl : lv_has ls nL lv)
    (hP : va_P g.1 vwCl cs.flatten H) (hD : va_D A cs.flatten) (hS : va_S A s.heap H locs) (hM : MXG g l y bytes maxL ret rm (.ref b :: As) csC mc ms res Pr) (hres : ∀ x, res x = .inr (E, csN x)) (isC isR isF : List Nat) (hCs : isC.map (fun i => cs[i]?) = csC.map some ∧ va_nd isC = true) (hJ : ∀ x, CJ cs csC csR (csN x) (csF x) isC isR isF) (hR : RV csC b C) (n : Nat)
    (hG : GoodIn WW2 (wsV own index C y (wsL y bytes maxL ret))) (hrm : rm.cells = mc ∧ rm.slots = ms) (hd : y.cls = C ∧ y.cls ≠ "java/lang/invoke/MethodHandle" ∧ y.cls ≠ "java/lang/invoke/VarHandle" ∧ (parseMethodDescriptor y.desc).map (fun d => d.parameters.length) = some n)
    (hRm : (rm.frames + 1 ≤ R.frames ∧ 8 + (maxL + 11) + rm.locals ≤ R.locals) ∧ cells + mc ≤ R.cells ∧ slots + ms ≤ R.slots) (hst : As.length = n ∧ st0 = As.reverse ++ .ref b :: rest) (hW : (rest.map fun v => v.category).sum ≤ 8) (hdg : decode cc pc = .ok (.invokevirtual index, 3))
    (kk : ∀ (x : G) (H1 : Heap) (locs1 : List Loc) (q9 : Addr) (ce : Cell), Pr x → va_P g.1 vwCl (csF x).flatten H1 → va_D A (csF x).flatten → va_S A s.heap H1 locs1 → H1[q9]? = some ce → ce.vm = .none → s.vm.findClass E = some ce.cls → vx_W p l e R s m args below meth c H1 locs1 (cells + mc) (slots + ms) Q (F0 m pc ls rest) q9) : W p l e R s m args below meth c H locs cells slots Q (F0 m pc ls st0) := by
  obtain ⟨q0, ci, q, fs, r1, r2, rfl⟩ := hR
  have hPc := fr_sub hP isC hCs.1
  have hDc := fr_subD hD isC hCs.2 hCs.1
  have hFc := fr_free hD hS hA isC hCs.1
  have hr := vx_runV (e := e) (m := m) (below := below) (meth := meth) (locs := locs) (g := F0 m pc ls st0) (As := As) (rest := rest) ⟨hx, hb, hml, hown, hts⟩ (hM H.size) (cwV n hts hG rfl hrm.1 hrm.2 hd hRm.1) ⟨PRE.blind, va_recv hK hPc r2 r1, PRE.go hPc hK hDc hE hS hFc⟩ rfl hst.1 hl.1 hst.2 (lv_room hW) hdg hRm.2
  intro T hT X
  rcases hr T hT X with ⟨v2, st₀, t, T', L, h0, X', hL, e1, e2, ⟨⟨x, v3, cs3, hv, hres3, -, -, -⟩, -⟩, -⟩ | ⟨q, st₀, t, T', L, E2, ce, h0, X', hL, e1, e2, ⟨⟨x, cs3, hres3, hpr, hp, hdd⟩, hF⟩, hce, hcv, hcl, st⟩
  · rw [hres x] at hres3
    cases hres3
  · rw [hres x] at hres3
    cases hres3
    obtain ⟨j1, j2, j3, j4, j5, j6, j7⟩ := hJ x
    obtain ⟨k1, k2, k3⟩ := vx_keep h0 e1 hS (fun q _ h => hFc q h) hFc hL hF
    rw [← e1] at hp
    obtain ⟨hP2, hD2⟩ := fr_join hP hD isC isR j1 j3 j4 j5 k2 hFc hp hdd
    obtain ⟨t2, a1, b1⟩ := kk x T'.heap (locs ++ L) q ce hpr (fr_sub hP2 isF j6) (fr_subD hD2 isF j7 j6) k3 (by rw [e1]; exact hce) hcv hcl T' rfl X'
    exact ⟨t2, st.trans a1, b1⟩
end LCALLS
def i2l (x : Int32) : Int64 := x.toInt64
set_option maxHeartbeats 4000000 in
set_option maxRecDepth 100000 in
theorem h_addSpan (g : GG) (l : Launch) (hst : l.stackTraces = false) (a a1 a2 a3 a4 a5 a6 a7 : Nat → Nat) (q3 : Nat) (fL : Nat → Int64) (x : Xv) (b : Bv) (h : Hv) (j : Jv) (p0 : Int32) (z : (Int32 × Xv × Bv × Hv × Jv) ⊕ (String × Xv × Bv × Hv × Jv)) (hF : F_X4_addSpan x b h j p0 = some z) (kz : Int32) (hk : Sum.elim (fun _ => some 0) (fun y => cd ["java/lang/IllegalArgumentException", "java/lang/UnsupportedOperationException"] 1 y.1) z = some kz) : MW (G := Unit) g l yL_addSpan cL_addSpan 4 (some .int) [(0, 9, 12, 13), (0, 9, 15, 15)] ({ frames := 8, cells := 1, slots := 6, locals := 187 } : Room) [.ref (a 0), .int p0, .ref q3] [wO g q3 fL, wX g a a1 a2 a3 a4 a5 a6 a7 x, wB g a1 b, wH g a4 h, wJ g a5 j] 1 6 (fun _ => some (.int kz)) (fun _ => Sum.elim (fun y => [wO g q3 (vp_updL fL (0 : Int32).toNatClampNeg (i2l y.1)), wX g a a1 a2 a3 a4 a5 a6 a7 y.2.1, wB g a1 y.2.2.1, wH g a4 y.2.2.2.1, wJ g a5 y.2.2.2.2]) (fun y => [wO g q3 fL, wX g a a1 a2 a3 a4 a5 a6 a7 y.2.1, wB g a1 y.2.2.1, wH g a4 y.2.2.2.1, wJ g a5 y.2.2.2.2]) z) (fun _ => True) := by
  refine MW.bg (by decide) (Nat.le_of_ble_eq_true rfl) ?_
  intro p e s m below meth c A Q hQ hx hb hr hml hown hts hts2 hlocks htab hK hE hA hP hD hS ls hl
  have hl : lv_has ls 4 [(0, .ref (a 0)), (1, .int p0), (2, .ref q3)] := hl
  refine lv_aload_n hx hb dL_addSpan_0 rfl (lv_at hl 2 rfl) ?_
  refine lv_iconst (v := 0) hx hb dL_addSpan_1 (by decide) ?_
  refine lv_aload_n hx hb dL_addSpan_2 rfl (lv_at hl 0 rfl) ?_
  refine lv_iload_n hx hb dL_addSpan_3 rfl (lv_at hl 1 rfl) ?_
  rcases z with y | y
  · have hkz : (0 : Int32) = kz := Option.some.inj hk
    subst hkz
    refine cx_n (v := some (.int y.1)) (csR := [wO g q3 fL]) (csF := [wO g q3 fL, wX g a a1 a2 a3 a4 a5 a6 a7 y.2.1, wB g a1 y.2.2.1, wH g a4 y.2.2.2.1, wJ g a5 y.2.2.2.2]) (rest := [.int 0, .ref q3]) hx hb hml hown hts hK hE hA hl hP hD hS (c_X4_addSpan g l hst a a1 a2 a3 a4 a5 a6 a7 x b h j p0 (.inl y) hF) [1, 2, 3, 4] [0] [0, 1, 2, 3, 4] ⟨rfl, rfl, rfl, rfl, rfl, rfl, rfl⟩ ⟨0, 8, _, _, rfl, rfl, rfl⟩ 1 (jb_giV (WT_in 718 (by decide +kernel) (by decide +kernel)) (WT_in 719 (by decide +kernel) (by decide +kernel)) (WT_in 720 (by decide +kernel) (by decide +kernel)) (WT_in 1 (by decide +kernel) (by decide +kernel)) (WT_in 721 (by decide +kernel) (by decide +kernel))) ⟨rfl, rfl⟩ (by decide +kernel) ⟨⟨(Nat.le_of_ble_eq_true rfl), (Nat.le_of_ble_eq_true rfl)⟩, (Nat.le_of_ble_eq_true rfl), (Nat.le_of_ble_eq_true rfl)⟩ ⟨rfl, rfl⟩ (Nat.le_of_ble_eq_true rfl) dL_addSpan_4 (fun H locs hP hD hS => ?_)
    refine W.eq (g2 := F0 m 7 ls [.int y.1, .int 0, .ref q3]) rfl ?_
    refine lv_i2l (v := i2l y.1) hx hb dL_addSpan_7 rfl ?_
    refine va_last hx hb hK hP hD hS 0 4 rfl rfl (show vp_in (0 : Int32) 1 by unfold vp_in; decide) dL_addSpan_8 (fun H locs hP hD hS => ?_)
    refine lv_goto (tgt := 18) hx hb dL_addSpan_9 (by decide) ?_
    refine lv_iconst (v := 0) hx hb dL_addSpan_18 (by decide) ?_
    rw [hQ]
    exact jg_zret hx hb hr rfl hlocks () hP hD hS dL_addSpan_19 rfl trivial (Nat.le_of_ble_eq_true rfl) (Nat.le_of_ble_eq_true rfl)
  · have hk : cd ["java/lang/IllegalArgumentException", "java/lang/UnsupportedOperationException"] 1 y.1 = some kz := hk
    refine cx_x (E := y.1) (csR := [wO g q3 fL]) (csF := [wO g q3 fL, wX g a a1 a2 a3 a4 a5 a6 a7 y.2.1, wB g a1 y.2.2.1, wH g a4 y.2.2.2.1, wJ g a5 y.2.2.2.2]) (rest := [.int 0, .ref q3]) hx hb hml hown hts hK hE hA hl hP hD hS (c_X4_addSpan g l hst a a1 a2 a3 a4 a5 a6 a7 x b h j p0 (.inr y) hF) [1, 2, 3, 4] [0] [0, 1, 2, 3, 4] ⟨rfl, rfl, rfl, rfl, rfl, rfl, rfl⟩ ⟨0, 8, _, _, rfl, rfl, rfl⟩ 1 (jb_giV (WT_in 718 (by decide +kernel) (by decide +kernel)) (WT_in 719 (by decide +kernel) (by decide +kernel)) (WT_in 720 (by decide +kernel) (by decide +kernel)) (WT_in 1 (by decide +kernel) (by decide +kernel)) (WT_in 721 (by decide +kernel) (by decide +kernel))) ⟨rfl, rfl⟩ (by decide +kernel) ⟨⟨(Nat.le_of_ble_eq_true rfl), (Nat.le_of_ble_eq_true rfl)⟩, (Nat.le_of_ble_eq_true rfl), (Nat.le_of_ble_eq_true rfl)⟩ ⟨rfl, rfl⟩ (Nat.le_of_ble_eq_true rfl) dL_addSpan_4 (fun H locs q9 ce hP hD hS h1 h2 h3 => ?_)
    have hN := hE.2.2.2.2.2.2
    rcases cd_2 hk with ⟨he, hz9⟩ | ⟨he, hz9⟩
    · rw [he] at h3
      subst hz9
      refine vx_catch (name := "java/lang/IllegalArgumentException") hown [] ⟨0, 9, 12, 13⟩ [⟨0, 9, 15, 15⟩] (htab.trans rfl) (fun z9 hz9 => by cases hz9) rfl (by decide) (hts _ (WT_in 716 (by decide +kernel) (by decide +kernel))) (va_Nw.use rfl (hN.2.2.2.2.2.1 _ (by decide +kernel))) h1 h2 h3 ?_
      refine lv_astore_n (lv' := [(3, .ref q9), (0, .ref (a 0)), (1, .int p0), (2, .ref q3)]) hx hb dL_addSpan_12 rfl hl (by decide) rfl (fun ls hl => ?_)
      refine lv_iconst (v := 1) hx hb dL_addSpan_13 (by decide) ?_
      rw [hQ]
      exact jg_zret hx hb hr rfl hlocks () hP hD hS dL_addSpan_14 rfl trivial (Nat.le_of_ble_eq_true rfl) (Nat.le_of_ble_eq_true rfl)
    · rw [he] at h3
      subst hz9
      refine vx_catch (name := "java/lang/UnsupportedOperationException") hown [⟨0, 9, 12, 13⟩] ⟨0, 9, 15, 15⟩ [] (htab.trans rfl) (fun z9 hz9 => by
        simp only [List.mem_cons, List.not_mem_nil, or_false] at hz9
        rcases hz9 with rfl
        · exact Or.inr ⟨by decide, "java/lang/IllegalArgumentException", hts _ (WT_in 716 (by decide +kernel) (by decide +kernel)), hN.2.2.2.2.1 _ (by decide +kernel)⟩) rfl (by decide) (hts _ (WT_in 717 (by decide +kernel) (by decide +kernel))) (va_Nw.use rfl (hN.2.2.2.2.2.1 _ (by decide +kernel))) h1 h2 h3 ?_
      refine lv_astore_n (lv' := [(3, .ref q9), (0, .ref (a 0)), (1, .int p0), (2, .ref q3)]) hx hb dL_addSpan_15 rfl hl (by decide) rfl (fun ls hl => ?_)
      refine lv_iconst (v := 2) hx hb dL_addSpan_16 (by decide) ?_
      rw [hQ]
      exact jg_zret hx hb hr rfl hlocks () hP hD hS dL_addSpan_17 rfl trivial (Nat.le_of_ble_eq_true rfl) (Nat.le_of_ble_eq_true rfl)
set_option maxHeartbeats 4000000 in
set_option maxRecDepth 100000 in
theorem h_pour (g : GG) (l : Launch) (hst : l.stackTraces = false) (a a1 a2 a3 a4 a5 a6 a7 : Nat → Nat) (q3 : Nat) (fL : Nat → Int64) (x : Xv) (b : Bv) (h : Hv) (j : Jv) (p0 : Int32) (p1 : Int32) (z : (Int32 × Xv × Bv × Hv × Jv) ⊕ (String × Xv × Bv × Hv × Jv)) (hF : F_X4_pour x b h j p0 p1 = some z) (kz : Int32) (hk : Sum.elim (fun _ => some 0) (fun y => cd ["java/lang/IndexOutOfBoundsException", "java/lang/IllegalArgumentException", "java/lang/UnsupportedOperationException"] 1 y.1) z = some kz) : MW (G := Unit) g l yL_pour cL_pour 5 (some .int) [(0, 10, 13, 25), (0, 10, 17, 13), (0, 10, 21, 15)] ({ frames := 8, cells := 1, slots := 6, locals := 188 } : Room) [.ref (a 0), .int p0, .int p1, .ref q3] [wO g q3 fL, wX g a a1 a2 a3 a4 a5 a6 a7 x, wB g a1 b, wH g a4 h, wJ g a5 j] 1 6 (fun _ => some (.int kz)) (fun _ => Sum.elim (fun y => [wO g q3 (vp_updL fL (0 : Int32).toNatClampNeg (i2l y.1)), wX g a a1 a2 a3 a4 a5 a6 a7 y.2.1, wB g a1 y.2.2.1, wH g a4 y.2.2.2.1, wJ g a5 y.2.2.2.2]) (fun y => [wO g q3 fL, wX g a a1 a2 a3 a4 a5 a6 a7 y.2.1, wB g a1 y.2.2.1, wH g a4 y.2.2.2.1, wJ g a5 y.2.2.2.2]) z) (fun _ => True) := by
  refine MW.bg (by decide) (Nat.le_of_ble_eq_true rfl) ?_
  intro p e s m below meth c A Q hQ hx hb hr hml hown hts hts2 hlocks htab hK hE hA hP hD hS ls hl
  have hl : lv_has ls 5 [(0, .ref (a 0)), (1, .int p0), (2, .int p1), (3, .ref q3)] := hl
  refine lv_aload_n hx hb dL_pour_0 rfl (lv_at hl 3 rfl) ?_
  refine lv_iconst (v := 0) hx hb dL_pour_1 (by decide) ?_
  refine lv_aload_n hx hb dL_pour_2 rfl (lv_at hl 0 rfl) ?_
  refine lv_iload_n hx hb dL_pour_3 rfl (lv_at hl 1 rfl) ?_
  refine lv_iload_n hx hb dL_pour_4 rfl (lv_at hl 2 rfl) ?_
  rcases z with y | y
  · have hkz : (0 : Int32) = kz := Option.some.inj hk
    subst hkz
    refine cx_n (v := some (.int y.1)) (csR := [wO g q3 fL]) (csF := [wO g q3 fL, wX g a a1 a2 a3 a4 a5 a6 a7 y.2.1, wB g a1 y.2.2.1, wH g a4 y.2.2.2.1, wJ g a5 y.2.2.2.2]) (rest := [.int 0, .ref q3]) hx hb hml hown hts hK hE hA hl hP hD hS (c_X4_pour g l hst a a1 a2 a3 a4 a5 a6 a7 x b h j p0 p1 (.inl y) hF) [1, 2, 3, 4] [0] [0, 1, 2, 3, 4] ⟨rfl, rfl, rfl, rfl, rfl, rfl, rfl⟩ ⟨0, 8, _, _, rfl, rfl, rfl⟩ 2 (jb_giV (WT_in 828 (by decide +kernel) (by decide +kernel)) (WT_in 829 (by decide +kernel) (by decide +kernel)) (WT_in 830 (by decide +kernel) (by decide +kernel)) (WT_in 1 (by decide +kernel) (by decide +kernel)) (WT_in 831 (by decide +kernel) (by decide +kernel))) ⟨rfl, rfl⟩ (by decide +kernel) ⟨⟨(Nat.le_of_ble_eq_true rfl), (Nat.le_of_ble_eq_true rfl)⟩, (Nat.le_of_ble_eq_true rfl), (Nat.le_of_ble_eq_true rfl)⟩ ⟨rfl, rfl⟩ (Nat.le_of_ble_eq_true rfl) dL_pour_5 (fun H locs hP hD hS => ?_)
    refine W.eq (g2 := F0 m 8 ls [.int y.1, .int 0, .ref q3]) rfl ?_
    refine lv_i2l (v := i2l y.1) hx hb dL_pour_8 rfl ?_
    refine va_last hx hb hK hP hD hS 0 4 rfl rfl (show vp_in (0 : Int32) 1 by unfold vp_in; decide) dL_pour_9 (fun H locs hP hD hS => ?_)
    refine lv_goto (tgt := 25) hx hb dL_pour_10 (by decide) ?_
    refine lv_iconst (v := 0) hx hb dL_pour_25 (by decide) ?_
    rw [hQ]
    exact jg_zret hx hb hr rfl hlocks () hP hD hS dL_pour_26 rfl trivial (Nat.le_of_ble_eq_true rfl) (Nat.le_of_ble_eq_true rfl)
  · have hk : cd ["java/lang/IndexOutOfBoundsException", "java/lang/IllegalArgumentException", "java/lang/UnsupportedOperationException"] 1 y.1 = some kz := hk
    refine cx_x (E := y.1) (csR := [wO g q3 fL]) (csF := [wO g q3 fL, wX g a a1 a2 a3 a4 a5 a6 a7 y.2.1, wB g a1 y.2.2.1, wH g a4 y.2.2.2.1, wJ g a5 y.2.2.2.2]) (rest := [.int 0, .ref q3]) hx hb hml hown hts hK hE hA hl hP hD hS (c_X4_pour g l hst a a1 a2 a3 a4 a5 a6 a7 x b h j p0 p1 (.inr y) hF) [1, 2, 3, 4] [0] [0, 1, 2, 3, 4] ⟨rfl, rfl, rfl, rfl, rfl, rfl, rfl⟩ ⟨0, 8, _, _, rfl, rfl, rfl⟩ 2 (jb_giV (WT_in 828 (by decide +kernel) (by decide +kernel)) (WT_in 829 (by decide +kernel) (by decide +kernel)) (WT_in 830 (by decide +kernel) (by decide +kernel)) (WT_in 1 (by decide +kernel) (by decide +kernel)) (WT_in 831 (by decide +kernel) (by decide +kernel))) ⟨rfl, rfl⟩ (by decide +kernel) ⟨⟨(Nat.le_of_ble_eq_true rfl), (Nat.le_of_ble_eq_true rfl)⟩, (Nat.le_of_ble_eq_true rfl), (Nat.le_of_ble_eq_true rfl)⟩ ⟨rfl, rfl⟩ (Nat.le_of_ble_eq_true rfl) dL_pour_5 (fun H locs q9 ce hP hD hS h1 h2 h3 => ?_)
    have hN := hE.2.2.2.2.2.2
    rcases cd_3 hk with ⟨he, hz9⟩ | ⟨he, hz9⟩ | ⟨he, hz9⟩
    · rw [he] at h3
      subst hz9
      refine vx_catch (name := "java/lang/IndexOutOfBoundsException") hown [] ⟨0, 10, 13, 25⟩ [⟨0, 10, 17, 13⟩, ⟨0, 10, 21, 15⟩] (htab.trans rfl) (fun z9 hz9 => by cases hz9) rfl (by decide) (hts _ (WT_in 825 (by decide +kernel) (by decide +kernel))) (va_Nw.use rfl (hN.2.2.2.2.2.1 _ (by decide +kernel))) h1 h2 h3 ?_
      refine lv_astore (lv' := [(4, .ref q9), (0, .ref (a 0)), (1, .int p0), (2, .int p1), (3, .ref q3)]) hx hb dL_pour_13 hl (by decide) rfl (fun ls hl => ?_)
      refine lv_iconst (v := 1) hx hb dL_pour_15 (by decide) ?_
      rw [hQ]
      exact jg_zret hx hb hr rfl hlocks () hP hD hS dL_pour_16 rfl trivial (Nat.le_of_ble_eq_true rfl) (Nat.le_of_ble_eq_true rfl)
    · rw [he] at h3
      subst hz9
      refine vx_catch (name := "java/lang/IllegalArgumentException") hown [⟨0, 10, 13, 25⟩] ⟨0, 10, 17, 13⟩ [⟨0, 10, 21, 15⟩] (htab.trans rfl) (fun z9 hz9 => by
        simp only [List.mem_cons, List.not_mem_nil, or_false] at hz9
        rcases hz9 with rfl
        · exact Or.inr ⟨by decide, "java/lang/IndexOutOfBoundsException", hts _ (WT_in 825 (by decide +kernel) (by decide +kernel)), hN.2.2.2.2.1 _ (by decide +kernel)⟩) rfl (by decide) (hts _ (WT_in 716 (by decide +kernel) (by decide +kernel))) (va_Nw.use rfl (hN.2.2.2.2.2.1 _ (by decide +kernel))) h1 h2 h3 ?_
      refine lv_astore (lv' := [(4, .ref q9), (0, .ref (a 0)), (1, .int p0), (2, .int p1), (3, .ref q3)]) hx hb dL_pour_17 hl (by decide) rfl (fun ls hl => ?_)
      refine lv_iconst (v := 2) hx hb dL_pour_19 (by decide) ?_
      rw [hQ]
      exact jg_zret hx hb hr rfl hlocks () hP hD hS dL_pour_20 rfl trivial (Nat.le_of_ble_eq_true rfl) (Nat.le_of_ble_eq_true rfl)
    · rw [he] at h3
      subst hz9
      refine vx_catch (name := "java/lang/UnsupportedOperationException") hown [⟨0, 10, 13, 25⟩, ⟨0, 10, 17, 13⟩] ⟨0, 10, 21, 15⟩ [] (htab.trans rfl) (fun z9 hz9 => by
        simp only [List.mem_cons, List.not_mem_nil, or_false] at hz9
        rcases hz9 with rfl | rfl
        · exact Or.inr ⟨by decide, "java/lang/IndexOutOfBoundsException", hts _ (WT_in 825 (by decide +kernel) (by decide +kernel)), hN.2.2.2.2.1 _ (by decide +kernel)⟩
        · exact Or.inr ⟨by decide, "java/lang/IllegalArgumentException", hts _ (WT_in 716 (by decide +kernel) (by decide +kernel)), hN.2.2.2.2.1 _ (by decide +kernel)⟩) rfl (by decide) (hts _ (WT_in 717 (by decide +kernel) (by decide +kernel))) (va_Nw.use rfl (hN.2.2.2.2.2.1 _ (by decide +kernel))) h1 h2 h3 ?_
      refine lv_astore (lv' := [(4, .ref q9), (0, .ref (a 0)), (1, .int p0), (2, .int p1), (3, .ref q3)]) hx hb dL_pour_21 hl (by decide) rfl (fun ls hl => ?_)
      refine lv_iconst (v := 3) hx hb dL_pour_23 (by decide) ?_
      rw [hQ]
      exact jg_zret hx hb hr rfl hlocks () hP hD hS dL_pour_24 rfl trivial (Nat.le_of_ble_eq_true rfl) (Nat.le_of_ble_eq_true rfl)
set_option maxHeartbeats 4000000 in
set_option maxRecDepth 100000 in
theorem h_jars (g : GG) (l : Launch) (hst : l.stackTraces = false) (a a1 a2 a3 a4 a5 a6 a7 : Nat → Nat) (q3 : Nat) (fL : Nat → Int64) (x : Xv) (b : Bv) (p0 : Int32) (z : (Int32) ⊕ (String)) (hF : F_X4_jars x b p0 = some z) (kz : Int32) (hk : Sum.elim (fun _ => some 0) (fun y => cd ["java/lang/IndexOutOfBoundsException"] 1 y) z = some kz) : MW (G := Unit) g l yL_jars cL_jars 4 (some .int) [(0, 9, 12, 25)] ({ frames := 8, cells := 1, slots := 6, locals := 132 } : Room) [.ref (a 0), .int p0, .ref q3] [wO g q3 fL, wX g a a1 a2 a3 a4 a5 a6 a7 x, wB g a1 b] 1 6 (fun _ => some (.int kz)) (fun _ => Sum.elim (fun y => [wO g q3 (vp_updL fL (0 : Int32).toNatClampNeg (i2l y)), wX g a a1 a2 a3 a4 a5 a6 a7 x, wB g a1 b]) (fun y => [wO g q3 fL, wX g a a1 a2 a3 a4 a5 a6 a7 x, wB g a1 b]) z) (fun _ => True) := by
  refine MW.bg (by decide) (Nat.le_of_ble_eq_true rfl) ?_
  intro p e s m below meth c A Q hQ hx hb hr hml hown hts hts2 hlocks htab hK hE hA hP hD hS ls hl
  have hl : lv_has ls 4 [(0, .ref (a 0)), (1, .int p0), (2, .ref q3)] := hl
  refine lv_aload_n hx hb dL_jars_0 rfl (lv_at hl 2 rfl) ?_
  refine lv_iconst (v := 0) hx hb dL_jars_1 (by decide) ?_
  refine lv_aload_n hx hb dL_jars_2 rfl (lv_at hl 0 rfl) ?_
  refine lv_iload_n hx hb dL_jars_3 rfl (lv_at hl 1 rfl) ?_
  rcases z with y | y
  · have hkz : (0 : Int32) = kz := Option.some.inj hk
    subst hkz
    refine cx_n (v := some (.int y)) (csR := [wO g q3 fL]) (csF := [wO g q3 fL, wX g a a1 a2 a3 a4 a5 a6 a7 x, wB g a1 b]) (rest := [.int 0, .ref q3]) hx hb hml hown hts hK hE hA hl hP hD hS (c_X4_jars g l hst a a1 a2 a3 a4 a5 a6 a7 x b p0 (.inl y) hF) [1, 2] [0] [0, 1, 2] ⟨rfl, rfl, rfl, rfl, rfl, rfl, rfl⟩ ⟨0, 8, _, _, rfl, rfl, rfl⟩ 1 (jb_giV (WT_in 850 (by decide +kernel) (by decide +kernel)) (WT_in 851 (by decide +kernel) (by decide +kernel)) (WT_in 852 (by decide +kernel) (by decide +kernel)) (WT_in 1 (by decide +kernel) (by decide +kernel)) (WT_in 853 (by decide +kernel) (by decide +kernel))) ⟨rfl, rfl⟩ (by decide +kernel) ⟨⟨(Nat.le_of_ble_eq_true rfl), (Nat.le_of_ble_eq_true rfl)⟩, (Nat.le_of_ble_eq_true rfl), (Nat.le_of_ble_eq_true rfl)⟩ ⟨rfl, rfl⟩ (Nat.le_of_ble_eq_true rfl) dL_jars_4 (fun H locs hP hD hS => ?_)
    refine W.eq (g2 := F0 m 7 ls [.int y, .int 0, .ref q3]) rfl ?_
    refine lv_i2l (v := i2l y) hx hb dL_jars_7 rfl ?_
    refine va_last hx hb hK hP hD hS 0 4 rfl rfl (show vp_in (0 : Int32) 1 by unfold vp_in; decide) dL_jars_8 (fun H locs hP hD hS => ?_)
    refine lv_goto (tgt := 15) hx hb dL_jars_9 (by decide) ?_
    refine lv_iconst (v := 0) hx hb dL_jars_15 (by decide) ?_
    rw [hQ]
    exact jg_zret hx hb hr rfl hlocks () hP hD hS dL_jars_16 rfl trivial (Nat.le_of_ble_eq_true rfl) (Nat.le_of_ble_eq_true rfl)
  · have hk : cd ["java/lang/IndexOutOfBoundsException"] 1 y = some kz := hk
    refine cx_x (E := y) (csR := [wO g q3 fL]) (csF := [wO g q3 fL, wX g a a1 a2 a3 a4 a5 a6 a7 x, wB g a1 b]) (rest := [.int 0, .ref q3]) hx hb hml hown hts hK hE hA hl hP hD hS (c_X4_jars g l hst a a1 a2 a3 a4 a5 a6 a7 x b p0 (.inr y) hF) [1, 2] [0] [0, 1, 2] ⟨rfl, rfl, rfl, rfl, rfl, rfl, rfl⟩ ⟨0, 8, _, _, rfl, rfl, rfl⟩ 1 (jb_giV (WT_in 850 (by decide +kernel) (by decide +kernel)) (WT_in 851 (by decide +kernel) (by decide +kernel)) (WT_in 852 (by decide +kernel) (by decide +kernel)) (WT_in 1 (by decide +kernel) (by decide +kernel)) (WT_in 853 (by decide +kernel) (by decide +kernel))) ⟨rfl, rfl⟩ (by decide +kernel) ⟨⟨(Nat.le_of_ble_eq_true rfl), (Nat.le_of_ble_eq_true rfl)⟩, (Nat.le_of_ble_eq_true rfl), (Nat.le_of_ble_eq_true rfl)⟩ ⟨rfl, rfl⟩ (Nat.le_of_ble_eq_true rfl) dL_jars_4 (fun H locs q9 ce hP hD hS h1 h2 h3 => ?_)
    have hN := hE.2.2.2.2.2.2
    obtain ⟨he, hz9⟩ := cd_1 hk
    rw [he] at h3
    subst hz9
    refine vx_catch (name := "java/lang/IndexOutOfBoundsException") hown [] ⟨0, 9, 12, 25⟩ [] (htab.trans rfl) (fun z9 hz9 => by cases hz9) rfl (by decide) (hts _ (WT_in 825 (by decide +kernel) (by decide +kernel))) (va_Nw.use rfl (hN.2.2.2.2.2.1 _ (by decide +kernel))) h1 h2 h3 ?_
    refine lv_astore_n (lv' := [(3, .ref q9), (0, .ref (a 0)), (1, .int p0), (2, .ref q3)]) hx hb dL_jars_12 rfl hl (by decide) rfl (fun ls hl => ?_)
    refine lv_iconst (v := 1) hx hb dL_jars_13 (by decide) ?_
    rw [hQ]
    exact jg_zret hx hb hr rfl hlocks () hP hD hS dL_jars_14 rfl trivial (Nat.le_of_ble_eq_true rfl) (Nat.le_of_ble_eq_true rfl)
set_option maxHeartbeats 4000000 in
set_option maxRecDepth 100000 in
theorem h_isStrained (g : GG) (l : Launch) (hst : l.stackTraces = false) (a a1 a2 a3 a4 a5 a6 a7 : Nat → Nat) (q3 : Nat) (fL : Nat → Int64) (x : Xv) (b : Bv) (p0 : Int32) (z : (Bool) ⊕ (String)) (hF : F_X4_isStrained x b p0 = some z) (kz : Int32) (hk : Sum.elim (fun _ => some 0) (fun y => cd ["java/lang/IndexOutOfBoundsException"] 1 y) z = some kz) : MW (G := Unit) g l yL_isStrained cL_isStrained 4 (some .int) [(0, 16, 19, 25)] ({ frames := 8, cells := 1, slots := 6, locals := 132 } : Room) [.ref (a 0), .int p0, .ref q3] [wO g q3 fL, wX g a a1 a2 a3 a4 a5 a6 a7 x, wB g a1 b] 1 6 (fun _ => some (.int kz)) (fun _ => Sum.elim (fun y => [wO g q3 (vp_updL fL (0 : Int32).toNatClampNeg (i2l (bi y))), wX g a a1 a2 a3 a4 a5 a6 a7 x, wB g a1 b]) (fun y => [wO g q3 fL, wX g a a1 a2 a3 a4 a5 a6 a7 x, wB g a1 b]) z) (fun _ => True) := by
  refine MW.bg (by decide) (Nat.le_of_ble_eq_true rfl) ?_
  intro p e s m below meth c A Q hQ hx hb hr hml hown hts hts2 hlocks htab hK hE hA hP hD hS ls hl
  have hl : lv_has ls 4 [(0, .ref (a 0)), (1, .int p0), (2, .ref q3)] := hl
  refine lv_aload_n hx hb dL_isStrained_0 rfl (lv_at hl 2 rfl) ?_
  refine lv_iconst (v := 0) hx hb dL_isStrained_1 (by decide) ?_
  refine lv_aload_n hx hb dL_isStrained_2 rfl (lv_at hl 0 rfl) ?_
  refine lv_iload_n hx hb dL_isStrained_3 rfl (lv_at hl 1 rfl) ?_
  rcases z with y | y
  · have hkz : (0 : Int32) = kz := Option.some.inj hk
    subst hkz
    refine cx_n (v := some (.int (bi y))) (csR := [wO g q3 fL]) (csF := [wO g q3 fL, wX g a a1 a2 a3 a4 a5 a6 a7 x, wB g a1 b]) (rest := [.int 0, .ref q3]) hx hb hml hown hts hK hE hA hl hP hD hS (c_X4_isStrained g l hst a a1 a2 a3 a4 a5 a6 a7 x b p0 (.inl y) hF) [1, 2] [0] [0, 1, 2] ⟨rfl, rfl, rfl, rfl, rfl, rfl, rfl⟩ ⟨0, 8, _, _, rfl, rfl, rfl⟩ 1 (jb_giV (WT_in 897 (by decide +kernel) (by decide +kernel)) (WT_in 898 (by decide +kernel) (by decide +kernel)) (WT_in 899 (by decide +kernel) (by decide +kernel)) (WT_in 1 (by decide +kernel) (by decide +kernel)) (WT_in 900 (by decide +kernel) (by decide +kernel))) ⟨rfl, rfl⟩ (by decide +kernel) ⟨⟨(Nat.le_of_ble_eq_true rfl), (Nat.le_of_ble_eq_true rfl)⟩, (Nat.le_of_ble_eq_true rfl), (Nat.le_of_ble_eq_true rfl)⟩ ⟨rfl, rfl⟩ (Nat.le_of_ble_eq_true rfl) dL_isStrained_4 (fun H locs hP hD hS => ?_)
    refine W.eq (g2 := F0 m 7 ls [.int (bi y), .int 0, .ref q3]) rfl ?_
    have hst9 : ∀ v9 : Int64, v9 = i2l (bi y) → W p l e _ s m _ below meth c H locs _ _ Q (F0 m 15 ls [.long v9, .int 0, .ref q3]) := ?_
    · cases y
      · refine lv_if_eq (tgt := 14) hx hb dL_isStrained_7 (by decide) (fun _ => ?_) (fun c1 => absurd rfl c1)
        exact lv_lconst (v := 0) hx hb dL_isStrained_14 (by decide) (hst9 _ rfl)
      · refine lv_if_eq (tgt := 14) hx hb dL_isStrained_7 (by decide) (fun c1 => absurd c1 (by decide)) (fun _ => ?_)
        refine lv_lconst (v := 1) hx hb dL_isStrained_10 (by decide) ?_
        exact lv_goto (tgt := 15) hx hb dL_isStrained_11 (by decide) (hst9 _ rfl)
    intro v9 hv9
    subst hv9
    refine va_last hx hb hK hP hD hS 0 4 rfl rfl (show vp_in (0 : Int32) 1 by unfold vp_in; decide) dL_isStrained_15 (fun H locs hP hD hS => ?_)
    refine lv_goto (tgt := 22) hx hb dL_isStrained_16 (by decide) ?_
    refine lv_iconst (v := 0) hx hb dL_isStrained_22 (by decide) ?_
    rw [hQ]
    exact jg_zret hx hb hr rfl hlocks () hP hD hS dL_isStrained_23 rfl trivial (Nat.le_of_ble_eq_true rfl) (Nat.le_of_ble_eq_true rfl)
  · have hk : cd ["java/lang/IndexOutOfBoundsException"] 1 y = some kz := hk
    refine cx_x (E := y) (csR := [wO g q3 fL]) (csF := [wO g q3 fL, wX g a a1 a2 a3 a4 a5 a6 a7 x, wB g a1 b]) (rest := [.int 0, .ref q3]) hx hb hml hown hts hK hE hA hl hP hD hS (c_X4_isStrained g l hst a a1 a2 a3 a4 a5 a6 a7 x b p0 (.inr y) hF) [1, 2] [0] [0, 1, 2] ⟨rfl, rfl, rfl, rfl, rfl, rfl, rfl⟩ ⟨0, 8, _, _, rfl, rfl, rfl⟩ 1 (jb_giV (WT_in 897 (by decide +kernel) (by decide +kernel)) (WT_in 898 (by decide +kernel) (by decide +kernel)) (WT_in 899 (by decide +kernel) (by decide +kernel)) (WT_in 1 (by decide +kernel) (by decide +kernel)) (WT_in 900 (by decide +kernel) (by decide +kernel))) ⟨rfl, rfl⟩ (by decide +kernel) ⟨⟨(Nat.le_of_ble_eq_true rfl), (Nat.le_of_ble_eq_true rfl)⟩, (Nat.le_of_ble_eq_true rfl), (Nat.le_of_ble_eq_true rfl)⟩ ⟨rfl, rfl⟩ (Nat.le_of_ble_eq_true rfl) dL_isStrained_4 (fun H locs q9 ce hP hD hS h1 h2 h3 => ?_)
    have hN := hE.2.2.2.2.2.2
    obtain ⟨he, hz9⟩ := cd_1 hk
    rw [he] at h3
    subst hz9
    refine vx_catch (name := "java/lang/IndexOutOfBoundsException") hown [] ⟨0, 16, 19, 25⟩ [] (htab.trans rfl) (fun z9 hz9 => by cases hz9) rfl (by decide) (hts _ (WT_in 825 (by decide +kernel) (by decide +kernel))) (va_Nw.use rfl (hN.2.2.2.2.2.1 _ (by decide +kernel))) h1 h2 h3 ?_
    refine lv_astore_n (lv' := [(3, .ref q9), (0, .ref (a 0)), (1, .int p0), (2, .ref q3)]) hx hb dL_isStrained_19 rfl hl (by decide) rfl (fun ls hl => ?_)
    refine lv_iconst (v := 1) hx hb dL_isStrained_20 (by decide) ?_
    rw [hQ]
    exact jg_zret hx hb hr rfl hlocks () hP hD hS dL_isStrained_21 rfl trivial (Nat.le_of_ble_eq_true rfl) (Nat.le_of_ble_eq_true rfl)
set_option maxHeartbeats 4000000 in
set_option maxRecDepth 100000 in
theorem h_meanStrength (g : GG) (l : Launch) (hst : l.stackTraces = false) (a a1 a2 a3 a4 a5 a6 a7 : Nat → Nat) (q3 : Nat) (fD : Nat → UInt64) (x : Xv) (b : Bv)  (z : (UInt64) ⊕ (String)) (hF : F_X4_meanStrength x b  = some z) (kz : Int32) (hk : Sum.elim (fun _ => some 0) (fun y => cd ["java/lang/ArithmeticException"] 1 y) z = some kz) : MW (G := Unit) g l yL_meanStrength cL_meanStrength 3 (some .int) [(0, 7, 10, 91)] ({ frames := 7, cells := 1, slots := 6, locals := 112 } : Room) [.ref (a 0), .ref q3] [wOD g q3 fD, wX g a a1 a2 a3 a4 a5 a6 a7 x, wB g a1 b] 1 6 (fun _ => some (.int kz)) (fun _ => Sum.elim (fun y => [wOD g q3 (updD fD (0 : Int32).toNatClampNeg y), wX g a a1 a2 a3 a4 a5 a6 a7 x, wB g a1 b]) (fun y => [wOD g q3 fD, wX g a a1 a2 a3 a4 a5 a6 a7 x, wB g a1 b]) z) (fun _ => True) := by
  refine MW.bg (by decide) (Nat.le_of_ble_eq_true rfl) ?_
  intro p e s m below meth c A Q hQ hx hb hr hml hown hts hts2 hlocks htab hK hE hA hP hD hS ls hl
  have hl : lv_has ls 3 [(0, .ref (a 0)), (1, .ref q3)] := hl
  refine lv_aload_n hx hb dL_meanStrength_0 rfl (lv_at hl 1 rfl) ?_
  refine lv_iconst (v := 0) hx hb dL_meanStrength_1 (by decide) ?_
  refine lv_aload_n hx hb dL_meanStrength_2 rfl (lv_at hl 0 rfl) ?_
  rcases z with y | y
  · have hkz : (0 : Int32) = kz := Option.some.inj hk
    subst hkz
    refine cx_n (v := some (.double y)) (csR := [wOD g q3 fD]) (csF := [wOD g q3 fD, wX g a a1 a2 a3 a4 a5 a6 a7 x, wB g a1 b]) (rest := [.int 0, .ref q3]) hx hb hml hown hts hK hE hA hl hP hD hS (c_X4_meanStrength g l hst a a1 a2 a3 a4 a5 a6 a7 x b  (.inl y) hF) [1, 2] [0] [0, 1, 2] ⟨rfl, rfl, rfl, rfl, rfl, rfl, rfl⟩ ⟨0, 8, _, _, rfl, rfl, rfl⟩ 0 (jb_giV (WT_in 1103 (by decide +kernel) (by decide +kernel)) (WT_in 1104 (by decide +kernel) (by decide +kernel)) (WT_in 1105 (by decide +kernel) (by decide +kernel)) (WT_in 1 (by decide +kernel) (by decide +kernel)) (WT_in 1106 (by decide +kernel) (by decide +kernel))) ⟨rfl, rfl⟩ (by decide +kernel) ⟨⟨(Nat.le_of_ble_eq_true rfl), (Nat.le_of_ble_eq_true rfl)⟩, (Nat.le_of_ble_eq_true rfl), (Nat.le_of_ble_eq_true rfl)⟩ ⟨rfl, rfl⟩ (Nat.le_of_ble_eq_true rfl) dL_meanStrength_3 (fun H locs hP hD hS => ?_)
    refine W.eq (g2 := F0 m 6 ls [.double y, .int 0, .ref q3]) rfl ?_
    refine va_dast hx hb hK hP hD hS 0 5 rfl rfl (show vp_in (0 : Int32) 1 by unfold vp_in; decide) dL_meanStrength_6 (fun H locs hP hD hS => ?_)
    refine lv_goto (tgt := 13) hx hb dL_meanStrength_7 (by decide) ?_
    refine lv_iconst (v := 0) hx hb dL_meanStrength_13 (by decide) ?_
    rw [hQ]
    exact jg_zret hx hb hr rfl hlocks () hP hD hS dL_meanStrength_14 rfl trivial (Nat.le_of_ble_eq_true rfl) (Nat.le_of_ble_eq_true rfl)
  · have hk : cd ["java/lang/ArithmeticException"] 1 y = some kz := hk
    refine cx_x (E := y) (csR := [wOD g q3 fD]) (csF := [wOD g q3 fD, wX g a a1 a2 a3 a4 a5 a6 a7 x, wB g a1 b]) (rest := [.int 0, .ref q3]) hx hb hml hown hts hK hE hA hl hP hD hS (c_X4_meanStrength g l hst a a1 a2 a3 a4 a5 a6 a7 x b  (.inr y) hF) [1, 2] [0] [0, 1, 2] ⟨rfl, rfl, rfl, rfl, rfl, rfl, rfl⟩ ⟨0, 8, _, _, rfl, rfl, rfl⟩ 0 (jb_giV (WT_in 1103 (by decide +kernel) (by decide +kernel)) (WT_in 1104 (by decide +kernel) (by decide +kernel)) (WT_in 1105 (by decide +kernel) (by decide +kernel)) (WT_in 1 (by decide +kernel) (by decide +kernel)) (WT_in 1106 (by decide +kernel) (by decide +kernel))) ⟨rfl, rfl⟩ (by decide +kernel) ⟨⟨(Nat.le_of_ble_eq_true rfl), (Nat.le_of_ble_eq_true rfl)⟩, (Nat.le_of_ble_eq_true rfl), (Nat.le_of_ble_eq_true rfl)⟩ ⟨rfl, rfl⟩ (Nat.le_of_ble_eq_true rfl) dL_meanStrength_3 (fun H locs q9 ce hP hD hS h1 h2 h3 => ?_)
    have hN := hE.2.2.2.2.2.2
    obtain ⟨he, hz9⟩ := cd_1 hk
    rw [he] at h3
    subst hz9
    refine vx_catch (name := "java/lang/ArithmeticException") hown [] ⟨0, 7, 10, 91⟩ [] (htab.trans rfl) (fun z9 hz9 => by cases hz9) rfl (by decide) (hts _ (WT_in 1089 (by decide +kernel) (by decide +kernel))) (va_Nw.use rfl (hN.2.2.2.2.2.1 _ (by decide +kernel))) h1 h2 h3 ?_
    refine lv_astore_n (lv' := [(2, .ref q9), (0, .ref (a 0)), (1, .ref q3)]) hx hb dL_meanStrength_10 rfl hl (by decide) rfl (fun ls hl => ?_)
    refine lv_iconst (v := 1) hx hb dL_meanStrength_11 (by decide) ?_
    rw [hQ]
    exact jg_zret hx hb hr rfl hlocks () hP hD hS dL_meanStrength_12 rfl trivial (Nat.le_of_ble_eq_true rfl) (Nat.le_of_ble_eq_true rfl)
set_option maxHeartbeats 4000000 in
set_option maxRecDepth 100000 in
theorem h_sunkShare (g : GG) (l : Launch) (hst : l.stackTraces = false) (a a1 a2 a3 a4 a5 a6 a7 : Nat → Nat) (q3 : Nat) (fD : Nat → UInt64) (x : Xv) (b : Bv)  (z : (UInt32) ⊕ (String)) (hF : F_X4_sunkShare x b  = some z) (hne : Sum.elim (fun y => nn64 (FP.f2d y)) (fun _ => true) z = true) (kz : Int32) (hk : Sum.elim (fun _ => some 0) (fun y => cd ["java/lang/ArithmeticException"] 1 y) z = some kz) : MW (G := Unit) g l yL_sunkShare cL_sunkShare 3 (some .int) [(0, 8, 11, 91)] ({ frames := 7, cells := 1, slots := 6, locals := 111 } : Room) [.ref (a 0), .ref q3] [wOD g q3 fD, wX g a a1 a2 a3 a4 a5 a6 a7 x, wB g a1 b] 1 6 (fun _ => some (.int kz)) (fun _ => Sum.elim (fun y => [wOD g q3 (updD fD (0 : Int32).toNatClampNeg (FP.f2d y)), wX g a a1 a2 a3 a4 a5 a6 a7 x, wB g a1 b]) (fun y => [wOD g q3 fD, wX g a a1 a2 a3 a4 a5 a6 a7 x, wB g a1 b]) z) (fun _ => True) := by
  refine MW.bg (by decide) (Nat.le_of_ble_eq_true rfl) ?_
  intro p e s m below meth c A Q hQ hx hb hr hml hown hts hts2 hlocks htab hK hE hA hP hD hS ls hl
  have hl : lv_has ls 3 [(0, .ref (a 0)), (1, .ref q3)] := hl
  refine lv_aload_n hx hb dL_sunkShare_0 rfl (lv_at hl 1 rfl) ?_
  refine lv_iconst (v := 0) hx hb dL_sunkShare_1 (by decide) ?_
  refine lv_aload_n hx hb dL_sunkShare_2 rfl (lv_at hl 0 rfl) ?_
  rcases z with y | y
  · have hkz : (0 : Int32) = kz := Option.some.inj hk
    subst hkz
    refine cx_n (v := some (.float y)) (csR := [wOD g q3 fD]) (csF := [wOD g q3 fD, wX g a a1 a2 a3 a4 a5 a6 a7 x, wB g a1 b]) (rest := [.int 0, .ref q3]) hx hb hml hown hts hK hE hA hl hP hD hS (c_X4_sunkShare g l hst a a1 a2 a3 a4 a5 a6 a7 x b  (.inl y) hF) [1, 2] [0] [0, 1, 2] ⟨rfl, rfl, rfl, rfl, rfl, rfl, rfl⟩ ⟨0, 8, _, _, rfl, rfl, rfl⟩ 0 (jb_giV (WT_in 1113 (by decide +kernel) (by decide +kernel)) (WT_in 1114 (by decide +kernel) (by decide +kernel)) (WT_in 1115 (by decide +kernel) (by decide +kernel)) (WT_in 1 (by decide +kernel) (by decide +kernel)) (WT_in 1116 (by decide +kernel) (by decide +kernel))) ⟨rfl, rfl⟩ (by decide +kernel) ⟨⟨(Nat.le_of_ble_eq_true rfl), (Nat.le_of_ble_eq_true rfl)⟩, (Nat.le_of_ble_eq_true rfl), (Nat.le_of_ble_eq_true rfl)⟩ ⟨rfl, rfl⟩ (Nat.le_of_ble_eq_true rfl) dL_sunkShare_3 (fun H locs hP hD hS => ?_)
    refine W.eq (g2 := F0 m 6 ls [.float y, .int 0, .ref q3]) rfl ?_
    refine lv_f2d hx hb dL_sunkShare_6 (nn64_ne hne) ?_
    refine va_dast hx hb hK hP hD hS 0 5 rfl rfl (show vp_in (0 : Int32) 1 by unfold vp_in; decide) dL_sunkShare_7 (fun H locs hP hD hS => ?_)
    refine lv_goto (tgt := 14) hx hb dL_sunkShare_8 (by decide) ?_
    refine lv_iconst (v := 0) hx hb dL_sunkShare_14 (by decide) ?_
    rw [hQ]
    exact jg_zret hx hb hr rfl hlocks () hP hD hS dL_sunkShare_15 rfl trivial (Nat.le_of_ble_eq_true rfl) (Nat.le_of_ble_eq_true rfl)
  · have hk : cd ["java/lang/ArithmeticException"] 1 y = some kz := hk
    refine cx_x (E := y) (csR := [wOD g q3 fD]) (csF := [wOD g q3 fD, wX g a a1 a2 a3 a4 a5 a6 a7 x, wB g a1 b]) (rest := [.int 0, .ref q3]) hx hb hml hown hts hK hE hA hl hP hD hS (c_X4_sunkShare g l hst a a1 a2 a3 a4 a5 a6 a7 x b  (.inr y) hF) [1, 2] [0] [0, 1, 2] ⟨rfl, rfl, rfl, rfl, rfl, rfl, rfl⟩ ⟨0, 8, _, _, rfl, rfl, rfl⟩ 0 (jb_giV (WT_in 1113 (by decide +kernel) (by decide +kernel)) (WT_in 1114 (by decide +kernel) (by decide +kernel)) (WT_in 1115 (by decide +kernel) (by decide +kernel)) (WT_in 1 (by decide +kernel) (by decide +kernel)) (WT_in 1116 (by decide +kernel) (by decide +kernel))) ⟨rfl, rfl⟩ (by decide +kernel) ⟨⟨(Nat.le_of_ble_eq_true rfl), (Nat.le_of_ble_eq_true rfl)⟩, (Nat.le_of_ble_eq_true rfl), (Nat.le_of_ble_eq_true rfl)⟩ ⟨rfl, rfl⟩ (Nat.le_of_ble_eq_true rfl) dL_sunkShare_3 (fun H locs q9 ce hP hD hS h1 h2 h3 => ?_)
    have hN := hE.2.2.2.2.2.2
    obtain ⟨he, hz9⟩ := cd_1 hk
    rw [he] at h3
    subst hz9
    refine vx_catch (name := "java/lang/ArithmeticException") hown [] ⟨0, 8, 11, 91⟩ [] (htab.trans rfl) (fun z9 hz9 => by cases hz9) rfl (by decide) (hts _ (WT_in 1089 (by decide +kernel) (by decide +kernel))) (va_Nw.use rfl (hN.2.2.2.2.2.1 _ (by decide +kernel))) h1 h2 h3 ?_
    refine lv_astore_n (lv' := [(2, .ref q9), (0, .ref (a 0)), (1, .ref q3)]) hx hb dL_sunkShare_11 rfl hl (by decide) rfl (fun ls hl => ?_)
    refine lv_iconst (v := 1) hx hb dL_sunkShare_12 (by decide) ?_
    rw [hQ]
    exact jg_zret hx hb hr rfl hlocks () hP hD hS dL_sunkShare_13 rfl trivial (Nat.le_of_ble_eq_true rfl) (Nat.le_of_ble_eq_true rfl)
set_option maxHeartbeats 4000000 in
set_option maxRecDepth 100000 in
theorem h_feed (g : GG) (l : Launch) (hst : l.stackTraces = false) (a a1 a2 a3 a4 a5 a6 a7 : Nat → Nat) (q3 : Nat) (fL : Nat → Int64) (x : Xv) (tx : Tv) (p0 : Int32) (z : (Int32 × Tv) ⊕ (String × Tv)) (hF : F_X4_feed x tx p0 = some z) (kz : Int32) (hk : Sum.elim (fun _ => some 0) (fun y => cd ["java/lang/IllegalStateException"] 1 y.1) z = some kz) : MW (G := Unit) g l yL_feed cL_feed 4 (some .int) [(0, 9, 12, 101)] ({ frames := 7, cells := 1, slots := 6, locals := 111 } : Room) [.ref (a 0), .int p0, .ref q3] [wO g q3 fL, wX g a a1 a2 a3 a4 a5 a6 a7 x, wT g a6 tx] 1 6 (fun _ => some (.int kz)) (fun _ => Sum.elim (fun y => [wO g q3 (vp_updL fL (0 : Int32).toNatClampNeg (i2l y.1)), wX g a a1 a2 a3 a4 a5 a6 a7 x, wT g a6 y.2]) (fun y => [wO g q3 fL, wX g a a1 a2 a3 a4 a5 a6 a7 x, wT g a6 y.2]) z) (fun _ => True) := by
  refine MW.bg (by decide) (Nat.le_of_ble_eq_true rfl) ?_
  intro p e s m below meth c A Q hQ hx hb hr hml hown hts hts2 hlocks htab hK hE hA hP hD hS ls hl
  have hl : lv_has ls 4 [(0, .ref (a 0)), (1, .int p0), (2, .ref q3)] := hl
  refine lv_aload_n hx hb dL_feed_0 rfl (lv_at hl 2 rfl) ?_
  refine lv_iconst (v := 0) hx hb dL_feed_1 (by decide) ?_
  refine lv_aload_n hx hb dL_feed_2 rfl (lv_at hl 0 rfl) ?_
  refine lv_iload_n hx hb dL_feed_3 rfl (lv_at hl 1 rfl) ?_
  rcases z with y | y
  · have hkz : (0 : Int32) = kz := Option.some.inj hk
    subst hkz
    refine cx_n (v := some (.int y.1)) (csR := [wO g q3 fL]) (csF := [wO g q3 fL, wX g a a1 a2 a3 a4 a5 a6 a7 x, wT g a6 y.2]) (rest := [.int 0, .ref q3]) hx hb hml hown hts hK hE hA hl hP hD hS (c_X4_feed g l hst a a1 a2 a3 a4 a5 a6 a7 x tx p0 (.inl y) hF) [1, 2] [0] [0, 1, 2] ⟨rfl, rfl, rfl, rfl, rfl, rfl, rfl⟩ ⟨0, 8, _, _, rfl, rfl, rfl⟩ 1 (jb_giV (WT_in 1122 (by decide +kernel) (by decide +kernel)) (WT_in 1123 (by decide +kernel) (by decide +kernel)) (WT_in 1124 (by decide +kernel) (by decide +kernel)) (WT_in 1 (by decide +kernel) (by decide +kernel)) (WT_in 1125 (by decide +kernel) (by decide +kernel))) ⟨rfl, rfl⟩ (by decide +kernel) ⟨⟨(Nat.le_of_ble_eq_true rfl), (Nat.le_of_ble_eq_true rfl)⟩, (Nat.le_of_ble_eq_true rfl), (Nat.le_of_ble_eq_true rfl)⟩ ⟨rfl, rfl⟩ (Nat.le_of_ble_eq_true rfl) dL_feed_4 (fun H locs hP hD hS => ?_)
    refine W.eq (g2 := F0 m 7 ls [.int y.1, .int 0, .ref q3]) rfl ?_
    refine lv_i2l (v := i2l y.1) hx hb dL_feed_7 rfl ?_
    refine va_last hx hb hK hP hD hS 0 4 rfl rfl (show vp_in (0 : Int32) 1 by unfold vp_in; decide) dL_feed_8 (fun H locs hP hD hS => ?_)
    refine lv_goto (tgt := 15) hx hb dL_feed_9 (by decide) ?_
    refine lv_iconst (v := 0) hx hb dL_feed_15 (by decide) ?_
    rw [hQ]
    exact jg_zret hx hb hr rfl hlocks () hP hD hS dL_feed_16 rfl trivial (Nat.le_of_ble_eq_true rfl) (Nat.le_of_ble_eq_true rfl)
  · have hk : cd ["java/lang/IllegalStateException"] 1 y.1 = some kz := hk
    refine cx_x (E := y.1) (csR := [wO g q3 fL]) (csF := [wO g q3 fL, wX g a a1 a2 a3 a4 a5 a6 a7 x, wT g a6 y.2]) (rest := [.int 0, .ref q3]) hx hb hml hown hts hK hE hA hl hP hD hS (c_X4_feed g l hst a a1 a2 a3 a4 a5 a6 a7 x tx p0 (.inr y) hF) [1, 2] [0] [0, 1, 2] ⟨rfl, rfl, rfl, rfl, rfl, rfl, rfl⟩ ⟨0, 8, _, _, rfl, rfl, rfl⟩ 1 (jb_giV (WT_in 1122 (by decide +kernel) (by decide +kernel)) (WT_in 1123 (by decide +kernel) (by decide +kernel)) (WT_in 1124 (by decide +kernel) (by decide +kernel)) (WT_in 1 (by decide +kernel) (by decide +kernel)) (WT_in 1125 (by decide +kernel) (by decide +kernel))) ⟨rfl, rfl⟩ (by decide +kernel) ⟨⟨(Nat.le_of_ble_eq_true rfl), (Nat.le_of_ble_eq_true rfl)⟩, (Nat.le_of_ble_eq_true rfl), (Nat.le_of_ble_eq_true rfl)⟩ ⟨rfl, rfl⟩ (Nat.le_of_ble_eq_true rfl) dL_feed_4 (fun H locs q9 ce hP hD hS h1 h2 h3 => ?_)
    have hN := hE.2.2.2.2.2.2
    obtain ⟨he, hz9⟩ := cd_1 hk
    rw [he] at h3
    subst hz9
    refine vx_catch (name := "java/lang/IllegalStateException") hown [] ⟨0, 9, 12, 101⟩ [] (htab.trans rfl) (fun z9 hz9 => by cases hz9) rfl (by decide) (hts _ (WT_in 1121 (by decide +kernel) (by decide +kernel))) (va_Nw.use rfl (hN.2.2.2.2.2.1 _ (by decide +kernel))) h1 h2 h3 ?_
    refine lv_astore_n (lv' := [(3, .ref q9), (0, .ref (a 0)), (1, .int p0), (2, .ref q3)]) hx hb dL_feed_12 rfl hl (by decide) rfl (fun ls hl => ?_)
    refine lv_iconst (v := 1) hx hb dL_feed_13 (by decide) ?_
    rw [hQ]
    exact jg_zret hx hb hr rfl hlocks () hP hD hS dL_feed_14 rfl trivial (Nat.le_of_ble_eq_true rfl) (Nat.le_of_ble_eq_true rfl)
set_option maxHeartbeats 4000000 in
set_option maxRecDepth 100000 in
theorem h_writeSpan (g : GG) (l : Launch) (hst : l.stackTraces = false) (a a1 a2 a3 a4 a5 a6 a7 : Nat → Nat) (q3 : Nat) (fL : Nat → Int64) (x : Xv) (b : Bv) (ln : Nv) (gh : LG) (hg0 : LK ln.2 ln.1 gh) (p0 : Int32) (z : (Int32 × Nv) ⊕ (String × Nv)) (hF : F_X4_writeSpan x b ln p0 = some z) (kz : Int32) (hk : Sum.elim (fun _ => some 0) (fun y => cd ["java/lang/IndexOutOfBoundsException"] 1 y.1) z = some kz) : MW (G := LG) g l yL_writeSpan cL_writeSpan 4 (some .int) [(0, 9, 12, 25)] ({ frames := 11, cells := 403, slots := 810, locals := 322 } : Room) [.ref (a 0), .int p0, .ref q3] [wO g q3 fL, wX g a a1 a2 a3 a4 a5 a6 a7 x, wB g a1 b, wLn g (a7 0) ln gh] 403 810 (fun _ => some (.int kz)) (fun gh => Sum.elim (fun y => [wO g q3 (vp_updL fL (0 : Int32).toNatClampNeg (i2l y.1)), wX g a a1 a2 a3 a4 a5 a6 a7 x, wB g a1 b, wLn g (a7 0) y.2 gh]) (fun y => [wO g q3 fL, wX g a a1 a2 a3 a4 a5 a6 a7 x, wB g a1 b, wLn g (a7 0) y.2 gh]) z) (fun gh => Sum.elim (fun y => LK y.2.2 y.2.1 gh) (fun y => LK y.2.2 y.2.1 gh) z) := by
  refine MW.bg (by decide) (Nat.le_of_ble_eq_true rfl) ?_
  intro p e s m below meth c A Q hQ hx hb hr hml hown hts hts2 hlocks htab hK hE hA hP hD hS ls hl
  have hl : lv_has ls 4 [(0, .ref (a 0)), (1, .int p0), (2, .ref q3)] := hl
  refine lv_aload_n hx hb dL_writeSpan_0 rfl (lv_at hl 2 rfl) ?_
  refine lv_iconst (v := 0) hx hb dL_writeSpan_1 (by decide) ?_
  refine lv_aload_n hx hb dL_writeSpan_2 rfl (lv_at hl 0 rfl) ?_
  refine lv_iload_n hx hb dL_writeSpan_3 rfl (lv_at hl 1 rfl) ?_
  rcases z with y | y
  · have hkz : (0 : Int32) = kz := Option.some.inj hk
    subst hkz
    refine cxg_n (v := some (.int y.1)) (csN := (fun gh1 => [wX g a a1 a2 a3 a4 a5 a6 a7 x, wB g a1 b, wLn g (a7 0) y.2 gh1])) (csR := [wO g q3 fL]) (csF := (fun gh1 => [wO g q3 fL, wX g a a1 a2 a3 a4 a5 a6 a7 x, wB g a1 b, wLn g (a7 0) y.2 gh1])) (rest := [.int 0, .ref q3]) hx hb hml hown hts2 hK hE hA hl hP hD hS (c_X4_writeSpan g l hst a a1 a2 a3 a4 a5 a6 a7 x b ln gh hg0 p0 (.inl y) hF) (fun _ => rfl) [1, 2, 3] [0] [0, 1, 2, 3] ⟨rfl, rfl⟩ (fun _ => ⟨rfl, rfl, rfl, rfl, rfl, rfl, rfl⟩) ⟨0, 8, _, _, rfl, rfl, rfl⟩ 1 (jb_giV2 (WT_in 1236 (by decide +kernel) (by decide +kernel)) (WT_in 1237 (by decide +kernel) (by decide +kernel)) (WT_in 1238 (by decide +kernel) (by decide +kernel)) (WT_in 1 (by decide +kernel) (by decide +kernel)) (WT_in 1239 (by decide +kernel) (by decide +kernel))) ⟨rfl, rfl⟩ (by decide +kernel) ⟨⟨(Nat.le_of_ble_eq_true rfl), (Nat.le_of_ble_eq_true rfl)⟩, (Nat.le_of_ble_eq_true rfl), (Nat.le_of_ble_eq_true rfl)⟩ ⟨rfl, rfl⟩ (Nat.le_of_ble_eq_true rfl) dL_writeSpan_4 (fun gh1 H locs hgh9 hP hD hS => ?_)
    refine W.eq (g2 := F0 m 7 ls [.int y.1, .int 0, .ref q3]) rfl ?_
    refine lv_i2l (v := i2l y.1) hx hb dL_writeSpan_7 rfl ?_
    refine va_last hx hb hK hP hD hS 0 4 rfl rfl (show vp_in (0 : Int32) 1 by unfold vp_in; decide) dL_writeSpan_8 (fun H locs hP hD hS => ?_)
    refine lv_goto (tgt := 15) hx hb dL_writeSpan_9 (by decide) ?_
    refine lv_iconst (v := 0) hx hb dL_writeSpan_15 (by decide) ?_
    rw [hQ]
    exact jg_zret hx hb hr rfl hlocks gh1 hP hD hS dL_writeSpan_16 rfl hgh9 (Nat.le_of_ble_eq_true rfl) (Nat.le_of_ble_eq_true rfl)
  · have hk : cd ["java/lang/IndexOutOfBoundsException"] 1 y.1 = some kz := hk
    refine cxg_x (E := y.1) (csN := (fun gh1 => [wX g a a1 a2 a3 a4 a5 a6 a7 x, wB g a1 b, wLn g (a7 0) y.2 gh1])) (csR := [wO g q3 fL]) (csF := (fun gh1 => [wO g q3 fL, wX g a a1 a2 a3 a4 a5 a6 a7 x, wB g a1 b, wLn g (a7 0) y.2 gh1])) (rest := [.int 0, .ref q3]) hx hb hml hown hts2 hK hE hA hl hP hD hS (c_X4_writeSpan g l hst a a1 a2 a3 a4 a5 a6 a7 x b ln gh hg0 p0 (.inr y) hF) (fun _ => rfl) [1, 2, 3] [0] [0, 1, 2, 3] ⟨rfl, rfl⟩ (fun _ => ⟨rfl, rfl, rfl, rfl, rfl, rfl, rfl⟩) ⟨0, 8, _, _, rfl, rfl, rfl⟩ 1 (jb_giV2 (WT_in 1236 (by decide +kernel) (by decide +kernel)) (WT_in 1237 (by decide +kernel) (by decide +kernel)) (WT_in 1238 (by decide +kernel) (by decide +kernel)) (WT_in 1 (by decide +kernel) (by decide +kernel)) (WT_in 1239 (by decide +kernel) (by decide +kernel))) ⟨rfl, rfl⟩ (by decide +kernel) ⟨⟨(Nat.le_of_ble_eq_true rfl), (Nat.le_of_ble_eq_true rfl)⟩, (Nat.le_of_ble_eq_true rfl), (Nat.le_of_ble_eq_true rfl)⟩ ⟨rfl, rfl⟩ (Nat.le_of_ble_eq_true rfl) dL_writeSpan_4 (fun gh1 H locs q9 ce hgh9 hP hD hS h1 h2 h3 => ?_)
    have hN := hE.2.2.2.2.2.2
    obtain ⟨he, hz9⟩ := cd_1 hk
    rw [he] at h3
    subst hz9
    refine vx_catch (name := "java/lang/IndexOutOfBoundsException") hown [] ⟨0, 9, 12, 25⟩ [] (htab.trans rfl) (fun z9 hz9 => by cases hz9) rfl (by decide) (hts _ (WT_in 825 (by decide +kernel) (by decide +kernel))) (va_Nw.use rfl (hN.2.2.2.2.2.1 _ (by decide +kernel))) h1 h2 h3 ?_
    refine lv_astore_n (lv' := [(3, .ref q9), (0, .ref (a 0)), (1, .int p0), (2, .ref q3)]) hx hb dL_writeSpan_12 rfl hl (by decide) rfl (fun ls hl => ?_)
    refine lv_iconst (v := 1) hx hb dL_writeSpan_13 (by decide) ?_
    rw [hQ]
    exact jg_zret hx hb hr rfl hlocks gh1 hP hD hS dL_writeSpan_14 rfl hgh9 (Nat.le_of_ble_eq_true rfl) (Nat.le_of_ble_eq_true rfl)
set_option maxHeartbeats 4000000 in
set_option maxRecDepth 100000 in
theorem h_lineCharacter (g : GG) (l : Launch) (hst : l.stackTraces = false) (a a1 a2 a3 a4 a5 a6 a7 : Nat → Nat) (q3 : Nat) (fL : Nat → Int64) (x : Xv) (b : Bv) (ln : Nv) (gh : LG) (hg0 : LK ln.2 ln.1 gh) (p0 : Int32) (z : Int32 ⊕ String) (hF : F_X4_lineCharacter x b ln p0 = some z) (kz : Int32) (hk : Sum.elim (fun _ => some 0) (fun y => cd ["java/lang/IndexOutOfBoundsException"] 1 y) z = some kz) : MW (G := Unit) g l yL_lineCharacter cL_lineCharacter 4 (some .int) [(0, 9, 12, 25)] ({ frames := 7, cells := 1, slots := 6, locals := 221 } : Room) [.ref (a 0), .int p0, .ref q3] [wO g q3 fL, wX g a a1 a2 a3 a4 a5 a6 a7 x, wB g a1 b, wLn g (a7 0) ln gh] 1 6 (fun _ => some (.int kz)) (fun _ => Sum.elim (fun y => [wO g q3 (vp_updL fL (0 : Int32).toNatClampNeg (i2l y)), wX g a a1 a2 a3 a4 a5 a6 a7 x, wB g a1 b, wLn g (a7 0) ln gh]) (fun y => [wO g q3 fL, wX g a a1 a2 a3 a4 a5 a6 a7 x, wB g a1 b, wLn g (a7 0) ln gh]) z) (fun _ => True) := by
  refine MW.bg (by decide) (Nat.le_of_ble_eq_true rfl) ?_
  intro p e s m below meth c A Q hQ hx hb hr hml hown hts hts2 hlocks htab hK hE hA hP hD hS ls hl
  have hl : lv_has ls 4 [(0, .ref (a 0)), (1, .int p0), (2, .ref q3)] := hl
  refine lv_aload_n hx hb dL_lineCharacter_0 rfl (lv_at hl 2 rfl) ?_
  refine lv_iconst (v := 0) hx hb dL_lineCharacter_1 (by decide) ?_
  refine lv_aload_n hx hb dL_lineCharacter_2 rfl (lv_at hl 0 rfl) ?_
  refine lv_iload_n hx hb dL_lineCharacter_3 rfl (lv_at hl 1 rfl) ?_
  rcases z with y | y
  · have hkz : (0 : Int32) = kz := Option.some.inj hk
    subst hkz
    refine cxg_n (v := some (.int y)) (csN := (fun _ => [wX g a a1 a2 a3 a4 a5 a6 a7 x, wB g a1 b, wLn g (a7 0) ln gh])) (csR := [wO g q3 fL]) (csF := (fun _ => [wO g q3 fL, wX g a a1 a2 a3 a4 a5 a6 a7 x, wB g a1 b, wLn g (a7 0) ln gh])) (rest := [.int 0, .ref q3]) hx hb hml hown hts2 hK hE hA hl hP hD hS (c_X4_lineCharacter g l hst a a1 a2 a3 a4 a5 a6 a7 x b ln gh hg0 p0 (.inl y) hF) (fun _ => rfl) [1, 2, 3] [0] [0, 1, 2, 3] ⟨rfl, rfl⟩ (fun _ => ⟨rfl, rfl, rfl, rfl, rfl, rfl, rfl⟩) ⟨0, 8, _, _, rfl, rfl, rfl⟩ 1 (jb_giV2 (WT_in 1243 (by decide +kernel) (by decide +kernel)) (WT_in 1244 (by decide +kernel) (by decide +kernel)) (WT_in 1245 (by decide +kernel) (by decide +kernel)) (WT_in 1 (by decide +kernel) (by decide +kernel)) (WT_in 1246 (by decide +kernel) (by decide +kernel))) ⟨rfl, rfl⟩ (by decide +kernel) ⟨⟨(Nat.le_of_ble_eq_true rfl), (Nat.le_of_ble_eq_true rfl)⟩, (Nat.le_of_ble_eq_true rfl), (Nat.le_of_ble_eq_true rfl)⟩ ⟨rfl, rfl⟩ (Nat.le_of_ble_eq_true rfl) dL_lineCharacter_4 (fun u9 H locs hgh9 hP hD hS => ?_)
    refine W.eq (g2 := F0 m 7 ls [.int y, .int 0, .ref q3]) rfl ?_
    refine lv_i2l (v := i2l y) hx hb dL_lineCharacter_7 rfl ?_
    refine va_last hx hb hK hP hD hS 0 4 rfl rfl (show vp_in (0 : Int32) 1 by unfold vp_in; decide) dL_lineCharacter_8 (fun H locs hP hD hS => ?_)
    refine lv_goto (tgt := 15) hx hb dL_lineCharacter_9 (by decide) ?_
    refine lv_iconst (v := 0) hx hb dL_lineCharacter_15 (by decide) ?_
    rw [hQ]
    exact jg_zret hx hb hr rfl hlocks () hP hD hS dL_lineCharacter_16 rfl trivial (Nat.le_of_ble_eq_true rfl) (Nat.le_of_ble_eq_true rfl)
  · have hk : cd ["java/lang/IndexOutOfBoundsException"] 1 y = some kz := hk
    refine cxg_x (E := y) (csN := (fun _ => [wX g a a1 a2 a3 a4 a5 a6 a7 x, wB g a1 b, wLn g (a7 0) ln gh])) (csR := [wO g q3 fL]) (csF := (fun _ => [wO g q3 fL, wX g a a1 a2 a3 a4 a5 a6 a7 x, wB g a1 b, wLn g (a7 0) ln gh])) (rest := [.int 0, .ref q3]) hx hb hml hown hts2 hK hE hA hl hP hD hS (c_X4_lineCharacter g l hst a a1 a2 a3 a4 a5 a6 a7 x b ln gh hg0 p0 (.inr y) hF) (fun _ => rfl) [1, 2, 3] [0] [0, 1, 2, 3] ⟨rfl, rfl⟩ (fun _ => ⟨rfl, rfl, rfl, rfl, rfl, rfl, rfl⟩) ⟨0, 8, _, _, rfl, rfl, rfl⟩ 1 (jb_giV2 (WT_in 1243 (by decide +kernel) (by decide +kernel)) (WT_in 1244 (by decide +kernel) (by decide +kernel)) (WT_in 1245 (by decide +kernel) (by decide +kernel)) (WT_in 1 (by decide +kernel) (by decide +kernel)) (WT_in 1246 (by decide +kernel) (by decide +kernel))) ⟨rfl, rfl⟩ (by decide +kernel) ⟨⟨(Nat.le_of_ble_eq_true rfl), (Nat.le_of_ble_eq_true rfl)⟩, (Nat.le_of_ble_eq_true rfl), (Nat.le_of_ble_eq_true rfl)⟩ ⟨rfl, rfl⟩ (Nat.le_of_ble_eq_true rfl) dL_lineCharacter_4 (fun u9 H locs q9 ce hgh9 hP hD hS h1 h2 h3 => ?_)
    have hN := hE.2.2.2.2.2.2
    obtain ⟨he, hz9⟩ := cd_1 hk
    rw [he] at h3
    subst hz9
    refine vx_catch (name := "java/lang/IndexOutOfBoundsException") hown [] ⟨0, 9, 12, 25⟩ [] (htab.trans rfl) (fun z9 hz9 => by cases hz9) rfl (by decide) (hts _ (WT_in 825 (by decide +kernel) (by decide +kernel))) (va_Nw.use rfl (hN.2.2.2.2.2.1 _ (by decide +kernel))) h1 h2 h3 ?_
    refine lv_astore_n (lv' := [(3, .ref q9), (0, .ref (a 0)), (1, .int p0), (2, .ref q3)]) hx hb dL_lineCharacter_12 rfl hl (by decide) rfl (fun ls hl => ?_)
    refine lv_iconst (v := 1) hx hb dL_lineCharacter_13 (by decide) ?_
    rw [hQ]
    exact jg_zret hx hb hr rfl hlocks () hP hD hS dL_lineCharacter_14 rfl trivial (Nat.le_of_ble_eq_true rfl) (Nat.le_of_ble_eq_true rfl)
