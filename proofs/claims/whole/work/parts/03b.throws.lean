/-! methods that may throw: one shape of contract for every answer -/
def QX (g : GG) (A : Nat → Prop) (res : (Option Value × List va_W) ⊕ (String × List va_W)) : Array Value → State → Outcome → State → Prop := fun _ st oc t =>
  (∃ (v : Option Value) (cs' : List va_W), oc = .returned v ∧ res = .inl (v, cs') ∧ va_P g.1 vwCl cs'.flatten t.heap ∧ va_D A cs'.flatten) ∧ va_F A st t
def XX (g : GG) (A : Nat → Prop) (res : (Option Value × List va_W) ⊕ (String × List va_W)) : String → State → State → Prop := fun E st t =>
  (∃ cs' : List va_W, res = .inr (E, cs') ∧ va_P g.1 vwCl cs'.flatten t.heap ∧ va_D A cs'.flatten) ∧ va_F A st t
def MX (g : GG) (l : Launch) (y : MethodName) (cc : ByteArray) (n : Nat) (ret : Option FieldType) (rm : Room) (av : List Value) (cs : List va_W) (mc ms : Nat) (res : (Option Value × List va_W) ⊕ (String × List va_W)) : Prop :=
  ∀ sz : Nat, vx_Met l y (wsM y cc n ret) rm (va_Pc av (PRE g cs sz)) (QX g (va_A cs.flatten sz) res) (XX g (va_A cs.flatten sz) res) mc ms (va_A cs.flatten sz)
theorem MX.bg {g : GG} {l : Launch} {y : MethodName} {cc : ByteArray} {n : Nat} {ret : Option FieldType} {rm : Room} {av : List Value} {cs : List va_W} {mc ms : Nat} {res : (Option Value × List va_W) ⊕ (String × List va_W)} (hy : plainName y.cls = true) (hn : (lg_sl av).length ≤ n)
    (body : ∀ (p : Program) (e : Env) (s : State) (m : MethodId) (below : List Frame) (meth : Method) (c : Code) (A : Nat → Prop) (Q : State → Prop), Q = (vx_MQ below (QX g A res) (XX g A res) av.toArray s mc ms A) → p.tables.exec = Jvm.exec → c.code = cc → meth.sig.returnType = ret → c.maxLocals = n → s.vm.findClass y.cls = some m.cls → (∀ w ∈ WW, w.before av.toArray s = true) → meth.locks = false → (∀ x ∈ c.exceptionTable.toList, False) → va_K g.1 vwCl (TY g) s → EV g A s s.heap → (∀ q : Nat, s.heap.size ≤ q → A q) → va_P g.1 vwCl cs.flatten s.heap → va_D A cs.flatten → va_S A s.heap s.heap [] →
      ∀ ls : Array Slot, lv_has ls n (lv_args 0 av) → W p l e rm s m av.toArray below meth c s.heap [] 0 0 Q (F0 m 0 ls [])) : MX g l y cc n ret rm av cs mc ms res := by
  intro sz
  refine vx_ofW (cc := cc) (maxL := n) (ret := ret) hy rfl ?_
  intro p e s m args below meth c s₁ B hml htab hv
  obtain ⟨rfl, hsz, hP, hK, hD0, hE⟩ := hv
  subst hsz
  have hts := atoms_spec (ws := wsM y cc n ret) B.pre
  have hl := lv_entry av (n := n) hn
  rw [lg_entry_eq]
  exact body p e s m below meth c (va_A cs.flatten s.heap.size) _ rfl B.exec B.bytes B.returns hml (findClass_of_methodNamed B.named) (fun w hw => hts w (List.mem_cons_of_mem _ hw)) B.notSynchronized htab hK hE (fun q h => Or.inr h) hP hD0.self va_S.rf _ hl
section XENDS
variable {p : Program} {l : Launch} {e : Env} {R : Room} {s : State} {m : MethodId} {args : Array Value} {below : List Frame} {meth : Method} {c : Code} {H : Heap} {locs : List Loc} {cells slots mc ms : Nat} {cc : ByteArray} {g : GG} {A : Nat → Prop} {cs : List va_W} {res : (Option Value × List va_W) ⊕ (String × List va_W)} {XC : String → State → State → Prop}
theorem jx_iret {v : Int32} {ty : FieldType} {pc : Nat} {ls : Array Slot} (hx : p.tables.exec = Jvm.exec) (hb : c.code = cc) (hr : meth.sig.returnType = some ty) (hn : narrow ty (.int v) = .int v) (hlocks : meth.locks = false) (hP : va_P g.1 vwCl cs.flatten H) (hD : va_D A cs.flatten) (hS : va_S A s.heap H locs) (hdg : decode cc pc = .ok (.ireturn, 1)) (hv : res = .inl (some (.int v), cs)) (hc : cells ≤ mc) (hs : slots ≤ ms) :
    W p l e R s m args below meth c H locs cells slots (vx_MQ below (QX g A res) XC args s mc ms A) (F0 m pc ls [.int v]) := by
  refine vx_ret (W.widen hc hs ?_)
  exact W.zret (v := v) hx hb hr hn (fun t ht hW => ⟨⟨_, cs, rfl, hv, by rw [ht]; exact hP, hD⟩, hS.F ht⟩) hS.2.2 hdg hlocks
theorem jx_vret {pc : Nat} {ls : Array Slot} (hx : p.tables.exec = Jvm.exec) (hb : c.code = cc) (hr : meth.sig.returnType = none) (hlocks : meth.locks = false) (hP : va_P g.1 vwCl cs.flatten H) (hD : va_D A cs.flatten) (hS : va_S A s.heap H locs) (hdg : decode cc pc = .ok (.return_, 1)) (hv : res = .inl (none, cs)) (hc : cells ≤ mc) (hs : slots ≤ ms) :
    W p l e R s m args below meth c H locs cells slots (vx_MQ below (QX g A res) XC args s mc ms A) (F0 m pc ls []) := by
  refine vx_ret (W.widen hc hs ?_)
  exact W.vret hx hb hr (fun t ht hW => ⟨⟨_, cs, rfl, hv, by rw [ht]; exact hP, hD⟩, hS.F ht⟩) hS.2.2 hdg hlocks
theorem jx_dret {v : UInt64} {pc : Nat} {ls : Array Slot} (hx : p.tables.exec = Jvm.exec) (hb : c.code = cc) (hr : meth.sig.returnType = some .double) (hlocks : meth.locks = false) (hP : va_P g.1 vwCl cs.flatten H) (hD : va_D A cs.flatten) (hS : va_S A s.heap H locs) (hdg : decode cc pc = .ok (.dreturn, 1)) (hv : res = .inl (some (.double v), cs)) (hc : cells ≤ mc) (hs : slots ≤ ms) :
    W p l e R s m args below meth c H locs cells slots (vx_MQ below (QX g A res) XC args s mc ms A) (F0 m pc ls [.double v]) := by
  refine vx_ret (W.widen hc hs ?_)
  exact W.dret (v := v) hx hb hr (fun t ht hW => ⟨⟨_, cs, rfl, hv, by rw [ht]; exact hP, hD⟩, hS.F ht⟩) hS.2.2 hdg hlocks
theorem jx_fret {v : UInt32} {pc : Nat} {ls : Array Slot} (hx : p.tables.exec = Jvm.exec) (hb : c.code = cc) (hr : meth.sig.returnType = some .float) (hlocks : meth.locks = false) (hP : va_P g.1 vwCl cs.flatten H) (hD : va_D A cs.flatten) (hS : va_S A s.heap H locs) (hdg : decode cc pc = .ok (.freturn, 1)) (hv : res = .inl (some (.float v), cs)) (hc : cells ≤ mc) (hs : slots ≤ ms) :
    W p l e R s m args below meth c H locs cells slots (vx_MQ below (QX g A res) XC args s mc ms A) (F0 m pc ls [.float v]) := by
  refine vx_ret (W.widen hc hs ?_)
  exact W.fret (v := v) hx hb hr (fun t ht hW => ⟨⟨_, cs, rfl, hv, by rw [ht]; exact hP, hD⟩, hS.F ht⟩) hS.2.2 hdg hlocks
/-- a world stays when nothing old is written -/
theorem jx_stay {t : State} (hP : va_P g.1 vwCl cs.flatten H) (hS : va_S A s.heap H locs) (h1 : H.size ≤ t.heap.size) (h2 : ∀ q : Nat, q < H.size → t.heap[q]? = H[q]?) : va_P g.1 vwCl cs.flatten t.heap ∧ va_F A s t :=
  ⟨hP.kept fun k q hk => h2 _ (hP k q hk).lt, Nat.le_trans hS.1 h1, fun q hq hn => (h2 q (Nat.lt_of_lt_of_le hq hS.1)).trans (hS.2.1 q hq hn)⟩
theorem pl_in {L : List Cond} (ps : List Nat) (hp : L = ps.filterMap (fun i => tables_1[i]?)) (hg : L.all goodWord = true) : ∀ w ∈ L, w ∈ WW := by
  intro w hw
  have h1 := List.all_eq_true.mp hg w hw
  rw [hp] at hw
  obtain ⟨i, -, hi⟩ := List.mem_filterMap.mp hw
  exact WT_in i hi h1
/-- the words of a throw in JamBridge: those of all methods, and four beside them -/
def atB (E : String) : List Cond := [.castable E E, .declares ⟨"java/lang/RuntimeException", "<init>", "(Ljava/lang/String;)V"⟩, .declares ⟨"java/lang/Exception", "<init>", "(Ljava/lang/String;)V"⟩, .declares ⟨"java/lang/Throwable", "<init>", "(Ljava/lang/String;)V"⟩]
theorem atB_at {E : String} {U : State} {H : Heap} (hE : EV g A U H) (hk : (E, E) ∈ caW) : ∀ w ∈ atB E, w.before args U = true := by
  have hN := hE.2.2.2.2.2.2
  intro w hw
  simp only [atB, List.mem_cons, List.not_mem_nil, or_false] at hw
  rcases hw with rfl | rfl | rfl | rfl
  · exact va_Nw.use rfl (hN.2.2.2.2.2.1 _ hk)
  · exact va_Nw.use rfl (hN.2.2.2.2.2.2 _ (by simp [deW]))
  · exact va_Nw.use rfl (hN.2.2.2.2.2.2 _ (by simp [deW]))
  · exact va_Nw.use rfl (hN.2.2.2.2.2.2 _ (by simp [deW]))
abbrev exN : List String := ["java/lang/RuntimeException", "java/lang/Exception"]
/-- what is needed of an exception's class at a site of JamBridge -/
def ThW (ik ic : Nat) (E : String) : Prop := Bundle.fit E = true ∧ Cond.classLink RX4 ik E ∈ WW ∧ Cond.initialized E ∈ WW ∧ (∀ w ∈ (vx_atS RX4 ic E exN).filter goodWord, w ∈ WW) ∧ (∀ w ∈ (vx_atS RX4 ic E exN).filter (fun w => !goodWord w), w ∈ atB E) ∧ (E, E) ∈ caW ∧ (∀ w ∈ Cond.classLink RX4 ik E :: Cond.initialized E :: vx_atS RX4 ic E exN, vx_ot w = true)
theorem jx_throwW {pc ik ic is : Nat} {E text : String} {ls : Array Slot} {rest : List Value} (hst : l.stackTraces = false) (hT : ThW ik ic E) (hx : p.tables.exec = Jvm.exec) (hb : c.code = cc) (hml : c.maxLocals = ls.size) (hown : s.vm.findClass RX4 = some m.cls) (hts : ∀ w ∈ WW, w.before args s = true) (hE : EV g A s s.heap) (htab : ∀ x ∈ c.exceptionTable.toList, False) (hlocks : meth.locks = false)
    (k : Nat) (hk : strW[k]? = some (RX4, is, text)) (hP : va_P g.1 vwCl cs.flatten H) (hD : va_D A cs.flatten) (hS : va_S A s.heap H locs)
    (d0 : decode cc pc = .ok (.new ik, 3)) (d3 : decode cc (pc + 3) = .ok (.dup, 1)) (d4 : decode cc (pc + 4) = .ok (.ldc_w is, 3)) (d7 : decode cc (pc + 7) = .ok (.invokespecial ic, 3)) (d10 : decode cc (pc + 10) = .ok (.athrow, 1))
    (hR : 5 < R.frames ∧ (rest.map fun v => v.category).sum + 82 ≤ R.locals ∧ cells + 1 ≤ R.cells ∧ slots + 6 ≤ R.slots) (hc : cells + 1 ≤ mc) (hs : slots + 6 ≤ ms) (hv : res = .inr (E, cs)) :
    W p l e R s m args below meth c H locs cells slots (vx_MQ below (QX g A res) (XX g A res) args s mc ms A) (F0 m pc ls rest) := by
  obtain ⟨t1, t2, t3, t4, t5, t6, t7⟩ := hT
  obtain ⟨sa, hsa⟩ := hE.2.2.2.2.2.2.2.2.1 _ (List.mem_of_getElem? hk)
  exact vx_throwSW hx hb hst hown t1 (by decide) (hts _ t2) (hts _ t3) hsa (vx_hat (fun w hw => hts w (t4 w hw)) t5 (atB_at hE t6)) t7 hE.1 hE.2.1 hS hml.symm d0 d3 d4 d7 d10 (fun x hx => (htab x hx).elim) hR.1 hR.2.1 hR.2.2.1 hR.2.2.2 hlocks
    (fun t ht h1 h2 => by
      obtain ⟨a1, a2⟩ := jx_stay hP hS h1 h2
      exact ⟨⟨cs, hv, a1, hD⟩, a2⟩) hS.2.2 hc hs
theorem jx_throwN {pc ik ic is : Nat} {E text : String} {ls : Array Slot} {rest : List Value} (hst : l.stackTraces = false) (hT : ThW ik ic E) (hx : p.tables.exec = Jvm.exec) (hb : c.code = cc) (hml : c.maxLocals = ls.size) (hown : s.vm.findClass RX4 = some m.cls) (hts : ∀ w ∈ WW, w.before args s = true) (hE : EV g A s s.heap) (htab : ∀ x ∈ c.exceptionTable.toList, False) (hlocks : meth.locks = false)
    (k : Nat) (hk : strW[k]? = some (RX4, is, text)) (hP : va_P g.1 vwCl cs.flatten H) (hD : va_D A cs.flatten) (hS : va_S A s.heap H locs)
    (d0 : decode cc pc = .ok (.new ik, 3)) (d3 : decode cc (pc + 3) = .ok (.dup, 1)) (d4 : decode cc (pc + 4) = .ok (.ldc is, 2)) (d6 : decode cc (pc + 6) = .ok (.invokespecial ic, 3)) (d9 : decode cc (pc + 9) = .ok (.athrow, 1))
    (hR : 5 < R.frames ∧ (rest.map fun v => v.category).sum + 82 ≤ R.locals ∧ cells + 1 ≤ R.cells ∧ slots + 6 ≤ R.slots) (hc : cells + 1 ≤ mc) (hs : slots + 6 ≤ ms) (hv : res = .inr (E, cs)) :
    W p l e R s m args below meth c H locs cells slots (vx_MQ below (QX g A res) (XX g A res) args s mc ms A) (F0 m pc ls rest) := by
  obtain ⟨t1, t2, t3, t4, t5, t6, t7⟩ := hT
  obtain ⟨sa, hsa⟩ := hE.2.2.2.2.2.2.2.2.1 _ (List.mem_of_getElem? hk)
  exact vx_throwS hx hb hst hown t1 (by decide) (hts _ t2) (hts _ t3) hsa (vx_hat (fun w hw => hts w (t4 w hw)) t5 (atB_at hE t6)) t7 hE.1 hE.2.1 hS hml.symm d0 d3 d4 d6 d9 (fun x hx => (htab x hx).elim) hR.1 hR.2.1 hR.2.2.1 hR.2.2.2 hlocks
    (fun t ht h1 h2 => by
      obtain ⟨a1, a2⟩ := jx_stay hP hS h1 h2
      exact ⟨⟨cs, hv, a1, hD⟩, a2⟩) hS.2.2 hc hs
end XENDS
section XCALLS
variable {p : Program} {l : Launch} {e : Env} {R : Room} {s : State} {m : MethodId} {args : Array Value} {below : List Frame} {meth : Method} {c : Code} {H : Heap} {locs : List Loc} {cells slots : Nat} {Q : State → Prop}
  {cc bytes : ByteArray} {nL maxL index n mc ms pc : Nat} {own C : String} {y : MethodName} {ret : Option FieldType} {rm : Room} {b : Addr} {As rest st0 : List Value} {ls : Array Slot} {g : GG} {A : Nat → Prop} {cs csC csR csN csF : List va_W} {lv : List (Nat × Value)} {v : Option Value} {E : String}
/-- a call that comes back -/
theorem cx_n (hx : p.tables.exec = Jvm.exec) (hb : c.code = cc) (hml : c.maxLocals = nL) (hown : s.vm.findClass own = some m.cls) (hts : ∀ w ∈ WW, w.before args s = true) (hK : va_K g.1 vwCl (TY g) s) (hE : EV g A s s.heap) (hA : ∀ q : Nat, s.heap.size ≤ q → A q) (hl : lv_has ls nL lv)
    (hP : va_P g.1 vwCl cs.flatten H) (hD : va_D A cs.flatten) (hS : va_S A s.heap H locs) (hM : MX g l y bytes maxL ret rm (.ref b :: As) csC mc ms (.inl (v, csN))) (isC isR isF : List Nat) (hJ : CJ cs csC csR csN csF isC isR isF) (hR : RV csC b C) (n : Nat)
    (hG : GoodIn WW (wsV own index C y (wsM y bytes maxL ret))) (hrm : rm.cells = mc ∧ rm.slots = ms) (hd : y.cls = C ∧ y.cls ≠ "java/lang/invoke/MethodHandle" ∧ y.cls ≠ "java/lang/invoke/VarHandle" ∧ (parseMethodDescriptor y.desc).map (fun d => d.parameters.length) = some n)
    (hRm : (rm.frames + 1 ≤ R.frames ∧ 8 + (maxL + 11) + rm.locals ≤ R.locals) ∧ cells + mc ≤ R.cells ∧ slots + ms ≤ R.slots) (hst : As.length = n ∧ st0 = As.reverse ++ .ref b :: rest) (hW : (rest.map fun v => v.category).sum ≤ 8) (hdg : decode cc pc = .ok (.invokevirtual index, 3))
    (kk : ∀ (H1 : Heap) (locs1 : List Loc), va_P g.1 vwCl csF.flatten H1 → va_D A csF.flatten → va_S A s.heap H1 locs1 → W p l e R s m args below meth c H1 locs1 (cells + mc) (slots + ms) Q (F0 m (pc + 3) ls (v.toList ++ rest))) : W p l e R s m args below meth c H locs cells slots Q (F0 m pc ls st0) := by
  obtain ⟨j1, j2, j3, j4, j5, j6, j7⟩ := hJ
  obtain ⟨q0, ci, q, fs, r1, r2, rfl⟩ := hR
  have hPc := fr_sub hP isC j1
  have hDc := fr_subD hD isC j2 j1
  have hFc := fr_free hD hS hA isC j1
  have hr := vx_runV (e := e) (m := m) (below := below) (meth := meth) (locs := locs) (g := F0 m pc ls st0) (As := As) (rest := rest) ⟨hx, hb, hml, hown, hts⟩ (hM H.size) (cwV n hts hG rfl hrm.1 hrm.2 hd hRm.1) ⟨PRE.blind, va_recv hK hPc r2 r1, PRE.go hPc hK hDc hE hS hFc⟩ rfl hst.1 hl.1 hst.2 (lv_room hW) hdg hRm.2
  intro T hT X
  rcases hr T hT X with ⟨v2, st₀, t, T', L, h0, X', hL, e1, e2, ⟨⟨v3, cs3, hv, hres, hp, hdd⟩, hF⟩, st⟩ | ⟨q, st₀, t, T', L, E, ce, h0, X', hL, e1, e2, ⟨⟨cs3, hres, -, -⟩, -⟩, -⟩
  · cases hv
    cases hres
    obtain ⟨k1, k2, k3⟩ := vx_keep h0 e1 hS (fun q _ h => hFc q h) hFc hL hF
    rw [← e1] at hp
    obtain ⟨hP2, hD2⟩ := fr_join hP hD isC isR j1 j3 j4 j5 k2 hFc hp hdd
    obtain ⟨t2, a1, b1⟩ := kk T'.heap (locs ++ L) (fr_sub hP2 isF j6) (fr_subD hD2 isF j7 j6) k3 T' rfl X'
    exact ⟨t2, st t2 a1, b1⟩
  · cases hres
/-- a call that throws -/
theorem cx_x (hx : p.tables.exec = Jvm.exec) (hb : c.code = cc) (hml : c.maxLocals = nL) (hown : s.vm.findClass own = some m.cls) (hts : ∀ w ∈ WW, w.before args s = true) (hK : va_K g.1 vwCl (TY g) s) (hE : EV g A s s.heap) (hA : ∀ q : Nat, s.heap.size ≤ q → A q) (hl : lv_has ls nL lv)
    (hP : va_P g.1 vwCl cs.flatten H) (hD : va_D A cs.flatten) (hS : va_S A s.heap H locs) (hM : MX g l y bytes maxL ret rm (.ref b :: As) csC mc ms (.inr (E, csN))) (isC isR isF : List Nat) (hJ : CJ cs csC csR csN csF isC isR isF) (hR : RV csC b C) (n : Nat)
    (hG : GoodIn WW (wsV own index C y (wsM y bytes maxL ret))) (hrm : rm.cells = mc ∧ rm.slots = ms) (hd : y.cls = C ∧ y.cls ≠ "java/lang/invoke/MethodHandle" ∧ y.cls ≠ "java/lang/invoke/VarHandle" ∧ (parseMethodDescriptor y.desc).map (fun d => d.parameters.length) = some n)
    (hRm : (rm.frames + 1 ≤ R.frames ∧ 8 + (maxL + 11) + rm.locals ≤ R.locals) ∧ cells + mc ≤ R.cells ∧ slots + ms ≤ R.slots) (hst : As.length = n ∧ st0 = As.reverse ++ .ref b :: rest) (hW : (rest.map fun v => v.category).sum ≤ 8) (hdg : decode cc pc = .ok (.invokevirtual index, 3))
    (kk : ∀ (H1 : Heap) (locs1 : List Loc) (q9 : Addr) (ce : Cell), va_P g.1 vwCl csF.flatten H1 → va_D A csF.flatten → va_S A s.heap H1 locs1 → H1[q9]? = some ce → ce.vm = .none → s.vm.findClass E = some ce.cls → vx_W p l e R s m args below meth c H1 locs1 (cells + mc) (slots + ms) Q (F0 m pc ls rest) q9) : W p l e R s m args below meth c H locs cells slots Q (F0 m pc ls st0) := by
  obtain ⟨j1, j2, j3, j4, j5, j6, j7⟩ := hJ
  obtain ⟨q0, ci, q, fs, r1, r2, rfl⟩ := hR
  have hPc := fr_sub hP isC j1
  have hDc := fr_subD hD isC j2 j1
  have hFc := fr_free hD hS hA isC j1
  have hr := vx_runV (e := e) (m := m) (below := below) (meth := meth) (locs := locs) (g := F0 m pc ls st0) (As := As) (rest := rest) ⟨hx, hb, hml, hown, hts⟩ (hM H.size) (cwV n hts hG rfl hrm.1 hrm.2 hd hRm.1) ⟨PRE.blind, va_recv hK hPc r2 r1, PRE.go hPc hK hDc hE hS hFc⟩ rfl hst.1 hl.1 hst.2 (lv_room hW) hdg hRm.2
  intro T hT X
  rcases hr T hT X with ⟨v2, st₀, t, T', L, h0, X', hL, e1, e2, ⟨⟨v3, cs3, hv, hres, -, -⟩, -⟩, -⟩ | ⟨q, st₀, t, T', L, E2, ce, h0, X', hL, e1, e2, ⟨⟨cs3, hres, hp, hdd⟩, hF⟩, hce, hcv, hcl, st⟩
  · cases hres
  · cases hres
    obtain ⟨k1, k2, k3⟩ := vx_keep h0 e1 hS (fun q _ h => hFc q h) hFc hL hF
    rw [← e1] at hp
    obtain ⟨hP2, hD2⟩ := fr_join hP hD isC isR j1 j3 j4 j5 k2 hFc hp hdd
    obtain ⟨t2, a1, b1⟩ := kk T'.heap (locs ++ L) q ce (fr_sub hP2 isF j6) (fr_subD hD2 isF j7 j6) k3 (by rw [e1]; exact hce) hcv hcl T' rfl X'
    exact ⟨t2, st.trans a1, b1⟩
/-- what was thrown goes on to the caller -/
theorem jx_out {res : (Option Value × List va_W) ⊕ (String × List va_W)} {mc ms : Nat} {q9 : Addr} {ce : Cell} (htab : ∀ x ∈ c.exceptionTable.toList, False) (hlocks : meth.locks = false) (hP : va_P g.1 vwCl cs.flatten H) (hD : va_D A cs.flatten) (hS : va_S A s.heap H locs) (h1 : H[q9]? = some ce) (h2 : ce.vm = .none) (h3 : s.vm.findClass E = some ce.cls) (hv : res = .inr (E, cs)) (hc : cells ≤ mc) (hs : slots ≤ ms) :
    vx_W p l e R s m args below meth c H locs cells slots (vx_MQ below (QX g A res) (XX g A res) args s mc ms A) (F0 m pc ls rest) q9 :=
  vx_out (fun x hx => (htab x hx).elim) hlocks h1 h2 h3 (fun t ht hW => ⟨⟨cs, hv, by rw [ht]; exact hP, hD⟩, hS.F ht⟩) hS.2.2 hc hs
end XCALLS
