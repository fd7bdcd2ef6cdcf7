theorem inJ4 : ∀ w ∈ u_ws RJ4 TJ4 4, w ∈ WW := by
  intro w hw
  obtain ⟨k, hk, rfl⟩ := List.mem_map.mp hw
  have hk := List.mem_range.mp hk
  match k, hk with
  | 0, _ => exact WT_in 213 (by decide +kernel) (by decide +kernel)
  | 1, _ => exact WT_in 215 (by decide +kernel) (by decide +kernel)
  | 2, _ => exact WT_in 217 (by decide +kernel) (by decide +kernel)
  | 3, _ => exact WT_in 219 (by decide +kernel) (by decide +kernel)
  | k + 4, h => exact absurd h (by omega)
/-! the line's methods call two private methods of a superclass: two words more -/
def WW2 : List Cond := Cond.selects RJ4 yJ5_ensureCapacityInternal_d00df yJ5_ensureCapacityInternal_d00df :: Cond.selects RJ4 yJ5_newCapacity_0f7a4 yJ5_newCapacity_0f7a4 :: WW
theorem w2_in {w : Cond} (h : w ∈ WW) : w ∈ WW2 := List.mem_cons_of_mem _ (List.mem_cons_of_mem _ h)
theorem w2_s1 : Cond.selects RJ4 yJ5_ensureCapacityInternal_d00df yJ5_ensureCapacityInternal_d00df ∈ WW2 := List.mem_cons_self
theorem w2_s2 : Cond.selects RJ4 yJ5_newCapacity_0f7a4 yJ5_newCapacity_0f7a4 ∈ WW2 := List.mem_cons_of_mem _ List.mem_cons_self
theorem w2_good {w : Cond} (h : w ∈ WW2) : goodWord w = true := by
  rcases List.mem_cons.mp h with rfl | h
  · rfl
  rcases List.mem_cons.mp h with rfl | h
  · rfl
  · exact (List.mem_filter.mp h).2
def wsL (y : MethodName) (cc : ByteArray) (n : Nat) (ret : Option FieldType) : List Cond := Cond.code y cc n ret :: WW2
theorem jb_gi2 {y : MethodName} {cc : ByteArray} {n : Nat} {ret : Option FieldType} (h : Cond.code y cc n ret ∈ WW) : GoodIn WW2 (wsL y cc n ret) := by
  intro w hw
  rcases List.mem_cons.mp hw with e | e
  · rw [e]; exact ⟨w2_in h, good_of_word (w2_good (w2_in h))⟩
  · exact ⟨e, good_of_word (w2_good e)⟩
theorem jb_open2 {g : GG} {l : Launch} {y : MethodName} {cc : ByteArray} {n : Nat} {ret : Option FieldType} {rm : Room} {av : List Value} {cs : List va_W} {mc ms sz : Nat} {Qf : (Nat → Prop) → Array Value → State → Outcome → State → Prop} (hy : plainName y.cls = true) (hn : (lg_sl av).length ≤ n)
    (body : ∀ (p : Program) (e : Env) (s : State) (m : MethodId) (below : List Frame) (meth : Method) (c : Code) (A : Nat → Prop), p.tables.exec = Jvm.exec → c.code = cc → meth.sig.returnType = ret → c.maxLocals = n → s.vm.findClass y.cls = some m.cls → (∀ w ∈ WW2, w.before av.toArray s = true) → meth.locks = false → meth.name = y.name → va_K g.1 vwCl (TY g) s → EV g A s s.heap → (∀ q : Nat, s.heap.size ≤ q → A q) → va_P g.1 vwCl cs.flatten s.heap → va_D A cs.flatten → va_S A s.heap s.heap [] →
      ∀ ls : Array Slot, lv_has ls n (lv_args 0 av) → W p l e rm s m av.toArray below meth c s.heap [] 0 0 (MQ below (Qf A) av.toArray s mc ms A) (F0 m 0 ls [])) :
    Met l y (wsL y cc n ret) rm (va_Pc av (PRE g cs sz)) (Qf (va_A cs.flatten sz)) mc ms (va_A cs.flatten sz) := by
  refine Met.ofW (cc := cc) (maxL := n) (ret := ret) hy rfl ?_
  intro p e s m args below meth c s₁ B hml hv
  obtain ⟨rfl, hsz, hP, hK, hD0, hE⟩ := hv
  subst hsz
  have hts := atoms_spec (ws := wsL y cc n ret) B.pre
  have hl := lv_entry av (n := n) hn
  rw [lg_entry_eq]
  exact body p e s m below meth c (va_A cs.flatten s.heap.size) B.exec B.bytes B.returns hml (findClass_of_methodNamed B.named) (fun w hw => hts w (List.mem_cons_of_mem _ hw)) B.notSynchronized (name_of_methodNamed B.named B.method).1 hK hE (fun q h => Or.inr h) hP hD0.self va_S.rf _ hl
/-! contracts whose end speaks of a world that it makes: res, world and facts by a value of G -/
def QG {G : Type} (g : GG) (rs : G → Option Value) (f : G → List va_W) (Pr : G → Prop) (A : Nat → Prop) : Array Value → State → Outcome → State → Prop := fun _ st oc t => (∃ x : G, oc = .returned (rs x) ∧ Pr x ∧ va_P g.1 vwCl (f x).flatten t.heap ∧ va_D A (f x).flatten) ∧ va_F A st t
def MG {G : Type} (g : GG) (l : Launch) (y : MethodName) (cc : ByteArray) (n : Nat) (ret : Option FieldType) (rm : Room) (av : List Value) (cs : List va_W) (mc ms : Nat) (rs : G → Option Value) (f : G → List va_W) (Pr : G → Prop) : Prop :=
  ∀ sz : Nat, Met l y (wsL y cc n ret) rm (va_Pc av (PRE g cs sz)) (QG g rs f Pr (va_A cs.flatten sz)) mc ms (va_A cs.flatten sz)
theorem MG.bg {G : Type} {g : GG} {l : Launch} {y : MethodName} {cc : ByteArray} {n : Nat} {ret : Option FieldType} {rm : Room} {av : List Value} {cs : List va_W} {mc ms : Nat} {rs : G → Option Value} {f : G → List va_W} {Pr : G → Prop} (hy : plainName y.cls = true) (hn : (lg_sl av).length ≤ n)
    (body : ∀ (p : Program) (e : Env) (s : State) (m : MethodId) (below : List Frame) (meth : Method) (c : Code) (A : Nat → Prop) (Q : State → Prop), Q = (MQ below (QG g rs f Pr A) av.toArray s mc ms A) → p.tables.exec = Jvm.exec → c.code = cc → meth.sig.returnType = ret → c.maxLocals = n → s.vm.findClass y.cls = some m.cls → (∀ w ∈ WW, w.before av.toArray s = true) → (∀ w ∈ WW2, w.before av.toArray s = true) → meth.locks = false → meth.name = y.name → va_K g.1 vwCl (TY g) s → EV g A s s.heap → (∀ q : Nat, s.heap.size ≤ q → A q) → va_P g.1 vwCl cs.flatten s.heap → va_D A cs.flatten → va_S A s.heap s.heap [] →
      ∀ ls : Array Slot, lv_has ls n (lv_args 0 av) → W p l e rm s m av.toArray below meth c s.heap [] 0 0 Q (F0 m 0 ls [])) : MG g l y cc n ret rm av cs mc ms rs f Pr :=
  fun _ => jb_open2 (Qf := fun A => QG g rs f Pr A) hy hn (fun p e s m below meth c A h1 h2 h3 h4 h5 h6 => body p e s m below meth c A _ rfl h1 h2 h3 h4 h5 (fun w hw => h6 w (w2_in hw)) h6)
section GENDS
variable {p : Program} {l : Launch} {e : Env} {R : Room} {s : State} {m : MethodId} {args : Array Value} {below : List Frame} {meth : Method} {c : Code} {H : Heap} {locs : List Loc} {cells slots mc ms : Nat} {cc : ByteArray} {g : GG} {A : Nat → Prop} {G : Type} {rs : G → Option Value} {f : G → List va_W} {Pr : G → Prop} {Q : State → Prop} {pc : Nat} {ls : Array Slot} {rest : List Value}
theorem jt_i {x y : Int32} (h : x = y) (k : W p l e R s m args below meth c H locs cells slots Q (F0 m pc ls (.int y :: rest))) : W p l e R s m args below meth c H locs cells slots Q (F0 m pc ls (.int x :: rest)) := by
  rw [h]; exact k
theorem jg_zret {v : Int32} {ty : FieldType} (hx : p.tables.exec = Jvm.exec) (hb : c.code = cc) (hr : meth.sig.returnType = some ty) (hn : narrow ty (.int v) = .int v) (hlocks : meth.locks = false) (x : G) (hP : va_P g.1 vwCl (f x).flatten H) (hD : va_D A (f x).flatten) (hS : va_S A s.heap H locs) (hdg : decode cc pc = .ok (.ireturn, 1)) (hv : rs x = some (.int v)) (hp : Pr x) (hc : cells ≤ mc) (hs : slots ≤ ms) :
    W p l e R s m args below meth c H locs cells slots (MQ below (QG g rs f Pr A) args s mc ms A) (F0 m pc ls [.int v]) := by
  refine W.widen hc hs ?_
  exact W.zret (v := v) hx hb hr hn (fun t ht hW => ⟨⟨x, by rw [hv], hp, by rw [ht]; exact hP, hD⟩, hS.F ht⟩) hS.2.2 hdg hlocks
theorem jg_vret (hx : p.tables.exec = Jvm.exec) (hb : c.code = cc) (hr : meth.sig.returnType = none) (hlocks : meth.locks = false) (x : G) (hP : va_P g.1 vwCl (f x).flatten H) (hD : va_D A (f x).flatten) (hS : va_S A s.heap H locs) (hdg : decode cc pc = .ok (.return_, 1)) (hv : rs x = none) (hp : Pr x) (hc : cells ≤ mc) (hs : slots ≤ ms) :
    W p l e R s m args below meth c H locs cells slots (MQ below (QG g rs f Pr A) args s mc ms A) (F0 m pc ls []) := by
  refine W.widen hc hs ?_
  exact W.vret hx hb hr (fun t ht hW => ⟨⟨x, by rw [hv], hp, by rw [ht]; exact hP, hD⟩, hS.F ht⟩) hS.2.2 hdg hlocks
theorem jg_aret {rt : FieldType} {q : Nat} (hx : p.tables.exec = Jvm.exec) (hb : c.code = cc) (hr : meth.sig.returnType = some rt) (hrt : (∃ n, rt = .object n) ∨ ∃ t, rt = .array t) (hlocks : meth.locks = false) (x : G) (hP : va_P g.1 vwCl (f x).flatten H) (hD : va_D A (f x).flatten) (hS : va_S A s.heap H locs) (hdg : decode cc pc = .ok (.areturn, 1)) (hv : rs x = some (.ref q)) (hp : Pr x) (hc : cells ≤ mc) (hs : slots ≤ ms) :
    W p l e R s m args below meth c H locs cells slots (MQ below (QG g rs f Pr A) args s mc ms A) (F0 m pc ls [.ref q]) := by
  refine W.widen hc hs ?_
  exact W.aret (v := .ref q) hx hb hr hrt (Or.inr ⟨_, rfl⟩) (fun t ht hW => ⟨⟨x, by rw [hv], hp, by rw [ht]; exact hP, hD⟩, hS.F ht⟩) hS.2.2 hdg hlocks
end GENDS
section GCALLS
variable {p : Program} {l : Launch} {e : Env} {R : Room} {s : State} {m : MethodId} {args : Array Value} {below : List Frame} {meth : Method} {c : Code} {H : Heap} {locs : List Loc} {cells slots : Nat} {Q : State → Prop}
  {cc bytes : ByteArray} {nL maxL index n mc ms pc : Nat} {own C : String} {y : MethodName} {ret : Option FieldType} {rm : Room} {b : Addr} {As rest st0 : List Value} {ls : Array Slot} {g : GG} {A : Nat → Prop} {cs csC csR : List va_W} {lv : List (Nat × Value)} {G : Type} {rs : G → Option Value} {csN csF : G → List va_W} {Pr : G → Prop} {Qa : State → Outcome → State → Prop}
/-- what a call of such a method gives -/
theorem cg_go {fr : Nat → Prop} (hr : va_Run p l e R s m args below meth c H locs cells slots mc ms (F0 m pc ls st0) rest Qa fr) (hq : ∀ st oc t, Qa st oc t → QG g rs csN Pr (va_A csC.flatten H.size) #[] st oc t) (hfr : ∀ q, fr q → va_A csC.flatten H.size q)
    (hA : ∀ q : Nat, s.heap.size ≤ q → A q) (hP : va_P g.1 vwCl cs.flatten H) (hD : va_D A cs.flatten) (hS : va_S A s.heap H locs) (isC isR isF : List Nat) (hJ : ∀ x, CJ cs csC csR (csN x) (csF x) isC isR isF)
    (kk : ∀ (x : G) (H1 : Heap) (locs1 : List Loc), Pr x → va_P g.1 vwCl (csF x).flatten H1 → va_D A (csF x).flatten → va_S A s.heap H1 locs1 → W p l e R s m args below meth c H1 locs1 (cells + mc) (slots + ms) Q (F0 m (pc + 3) ls ((rs x).toList ++ rest))) : W p l e R s m args below meth c H locs cells slots Q (F0 m pc ls st0) := by
  intro T hT X
  obtain ⟨v2, st₀, t, T', L, h0, X', hL, e1, e2, hQ, st⟩ := hr T hT X
  obtain ⟨⟨x, hv, hpr, hp, hdd⟩, hF⟩ := hq _ _ _ hQ
  cases hv
  obtain ⟨j1, j2, j3, j4, j5, j6, j7⟩ := hJ x
  have hFc := fr_free hD hS hA isC j1
  obtain ⟨k1, k2, k3⟩ := vx_keep h0 e1 hS (fun q _ h => hFc q h) (fun q h => hFc q (hfr q h)) hL hF
  rw [← e1] at hp
  obtain ⟨hP2, hD2⟩ := fr_join hP hD isC isR j1 j3 j4 j5 k2 hFc hp hdd
  obtain ⟨t2, a1, b1⟩ := kk x T'.heap (locs ++ L) hpr (fr_sub hP2 isF j6) (fr_subD hD2 isF j7 j6) k3 T' rfl X'
  exact ⟨t2, st t2 a1, b1⟩
/-- a virtual method of the receiver's own class -/
theorem cg_V (hx : p.tables.exec = Jvm.exec) (hb : c.code = cc) (hml : c.maxLocals = nL) (hown : s.vm.findClass own = some m.cls) (hts : ∀ w ∈ WW2, w.before args s = true) (hK : va_K g.1 vwCl (TY g) s) (hE : EV g A s s.heap) (hA : ∀ q : Nat, s.heap.size ≤ q → A q) (hl : lv_has ls nL lv)
    (hP : va_P g.1 vwCl cs.flatten H) (hD : va_D A cs.flatten) (hS : va_S A s.heap H locs) (hM : MG g l y bytes maxL ret rm (.ref b :: As) csC mc ms rs csN Pr) (isC isR isF : List Nat) (hCs : isC.map (fun i => cs[i]?) = csC.map some ∧ va_nd isC = true) (hJ : ∀ x, CJ cs csC csR (csN x) (csF x) isC isR isF) (hR : RV csC b C) (n : Nat)
    (hG : GoodIn WW2 (wsV own index C y (wsL y bytes maxL ret))) (hrm : rm.cells = mc ∧ rm.slots = ms) (hd : y.cls = C ∧ y.cls ≠ "java/lang/invoke/MethodHandle" ∧ y.cls ≠ "java/lang/invoke/VarHandle" ∧ (parseMethodDescriptor y.desc).map (fun d => d.parameters.length) = some n)
    (hRm : (rm.frames + 1 ≤ R.frames ∧ 8 + (maxL + 11) + rm.locals ≤ R.locals) ∧ cells + mc ≤ R.cells ∧ slots + ms ≤ R.slots) (hst : As.length = n ∧ st0 = As.reverse ++ .ref b :: rest) (hW : (rest.map fun v => v.category).sum ≤ 8) (hdg : decode cc pc = .ok (.invokevirtual index, 3))
    (kk : ∀ (x : G) (H1 : Heap) (locs1 : List Loc), Pr x → va_P g.1 vwCl (csF x).flatten H1 → va_D A (csF x).flatten → va_S A s.heap H1 locs1 → W p l e R s m args below meth c H1 locs1 (cells + mc) (slots + ms) Q (F0 m (pc + 3) ls ((rs x).toList ++ rest))) : W p l e R s m args below meth c H locs cells slots Q (F0 m pc ls st0) := by
  obtain ⟨q0, ci, q, fs, r1, r2, rfl⟩ := hR
  have hPc := fr_sub hP isC hCs.1
  have hDc := fr_subD hD isC hCs.2 hCs.1
  have hFc := fr_free hD hS hA isC hCs.1
  exact cg_go (va_runV (As := As) (rest := rest) ⟨hx, hb, hml, hown, hts⟩ (hM H.size) (cwV n hts hG rfl hrm.1 hrm.2 hd hRm.1) ⟨PRE.blind, va_recv hK hPc r2 r1, PRE.go hPc hK hDc hE hS hFc⟩ rfl hst.1 hl.1 hst.2 (lv_room hW) hdg hRm.2) (fun _ _ _ h => h) (fun _ h => h) hA hP hD hS isC isR isF hJ kk
/-- a method that the receiver's class inherits -/
theorem cg_U {owner : String} (hx : p.tables.exec = Jvm.exec) (hb : c.code = cc) (hml : c.maxLocals = nL) (hown : s.vm.findClass own = some m.cls) (hts : ∀ w ∈ WW2, w.before args s = true) (hK : va_K g.1 vwCl (TY g) s) (hE : EV g A s s.heap) (hA : ∀ q : Nat, s.heap.size ≤ q → A q) (hl : lv_has ls nL lv)
    (hP : va_P g.1 vwCl cs.flatten H) (hD : va_D A cs.flatten) (hS : va_S A s.heap H locs) (hM : MG g l y bytes maxL ret rm (.ref b :: As) csC mc ms rs csN Pr) (isC isR isF : List Nat) (hCs : isC.map (fun i => cs[i]?) = csC.map some ∧ va_nd isC = true) (hJ : ∀ x, CJ cs csC csR (csN x) (csF x) isC isR isF) (hR : RV csC b C) (n : Nat)
    (hG : GoodIn WW2 (va_wsU own index C owner y y (wsL y bytes maxL ret))) (hrm : rm.cells = mc ∧ rm.slots = ms) (hyx : y = ⟨owner, y.name, y.desc⟩) (hd : owner ≠ "java/lang/invoke/MethodHandle" ∧ owner ≠ "java/lang/invoke/VarHandle" ∧ (parseMethodDescriptor y.desc).map (fun d => d.parameters.length) = some n)
    (hRm : (rm.frames + 1 ≤ R.frames ∧ 8 + (maxL + 11) + rm.locals ≤ R.locals) ∧ cells + mc ≤ R.cells ∧ slots + ms ≤ R.slots) (hst : As.length = n ∧ st0 = As.reverse ++ .ref b :: rest) (hW : (rest.map fun v => v.category).sum ≤ 8) (hdg : decode cc pc = .ok (.invokevirtual index, 3))
    (kk : ∀ (x : G) (H1 : Heap) (locs1 : List Loc), Pr x → va_P g.1 vwCl (csF x).flatten H1 → va_D A (csF x).flatten → va_S A s.heap H1 locs1 → W p l e R s m args below meth c H1 locs1 (cells + mc) (slots + ms) Q (F0 m (pc + 3) ls ((rs x).toList ++ rest))) : W p l e R s m args below meth c H locs cells slots Q (F0 m pc ls st0) := by
  obtain ⟨q0, ci, q, fs, r1, r2, rfl⟩ := hR
  have hPc := fr_sub hP isC hCs.1
  have hDc := fr_subD hD isC hCs.2 hCs.1
  have hFc := fr_free hD hS hA isC hCs.1
  exact cg_go (va_runU (As := As) (rest := rest) ⟨hx, hb, hml, hown, hts⟩ (hM H.size) (va_cwU n hts hG rfl hrm.1 hrm.2 hyx hd hRm.1) ⟨PRE.blind, va_recv hK hPc r2 r1, PRE.go hPc hK hDc hE hS hFc⟩ rfl hst.1 hl.1 hst.2 (lv_room hW) hdg hRm.2) (fun _ _ _ h => h) (fun _ h => h) hA hP hD hS isC isR isF hJ kk
/-- super.m(..) -/
theorem cg_SU {cC : ClassId} (hat : ClassAt s C cC) (hx : p.tables.exec = Jvm.exec) (hb : c.code = cc) (hml : c.maxLocals = nL) (hown : s.vm.findClass own = some m.cls) (hts : ∀ w ∈ WW2, w.before args s = true) (hK : va_K g.1 vwCl (TY g) s) (hE : EV g A s s.heap) (hA : ∀ q : Nat, s.heap.size ≤ q → A q) (hl : lv_has ls nL lv)
    (hP : va_P g.1 vwCl cs.flatten H) (hD : va_D A cs.flatten) (hS : va_S A s.heap H locs) (hM : MG g l y bytes maxL ret rm (.ref b :: As) csC mc ms rs csN Pr) (isC isR isF : List Nat) (hCs : isC.map (fun i => cs[i]?) = csC.map some ∧ va_nd isC = true) (hJ : ∀ x, CJ cs csC csR (csN x) (csF x) isC isR isF) (hR : RV csC b C) (n : Nat)
    (hG : GoodIn WW2 (va_wsSU own index y (wsL y bytes maxL ret))) (hrm : rm.cells = mc ∧ rm.slots = ms) (hd : y.name ≠ "<init>" ∧ (parseMethodDescriptor y.desc).map (fun d => d.parameters.length) = some n)
    (hRm : (rm.frames + 1 ≤ R.frames ∧ 8 + (maxL + 11) + rm.locals ≤ R.locals) ∧ cells + mc ≤ R.cells ∧ slots + ms ≤ R.slots) (hst : As.length = n ∧ st0 = As.reverse ++ .ref b :: rest) (hW : (rest.map fun v => v.category).sum ≤ 8) (hdg : decode cc pc = .ok (.invokespecial index, 3))
    (kk : ∀ (x : G) (H1 : Heap) (locs1 : List Loc), Pr x → va_P g.1 vwCl (csF x).flatten H1 → va_D A (csF x).flatten → va_S A s.heap H1 locs1 → W p l e R s m args below meth c H1 locs1 (cells + mc) (slots + ms) Q (F0 m (pc + 3) ls ((rs x).toList ++ rest))) : W p l e R s m args below meth c H locs cells slots Q (F0 m pc ls st0) := by
  obtain ⟨q0, ci, q, fs, r1, r2, rfl⟩ := hR
  have hPc := fr_sub hP isC hCs.1
  have hDc := fr_subD hD isC hCs.2 hCs.1
  have hFc := fr_free hD hS hA isC hCs.1
  exact cg_go (va_runSU (As := As) (rest := rest) hat ⟨hx, hb, hml, hown, hts⟩ (hM H.size) (va_cwSU n hts hG rfl hrm.1 hrm.2 hd hRm.1) ⟨PRE.blind, va_recv hK hPc r2 r1, PRE.go hPc hK hDc hE hS hFc⟩ rfl hst.1 hl.1 hst.2 (lv_room hW) hdg hRm.2) (fun _ _ _ h => h) (fun _ h => h) hA hP hD hS isC isR isF hJ kk
/-- a static method of any class -/
theorem cg_S (hx : p.tables.exec = Jvm.exec) (hb : c.code = cc) (hml : c.maxLocals = nL) (hown : s.vm.findClass own = some m.cls) (hts : ∀ w ∈ WW2, w.before args s = true) (hK : va_K g.1 vwCl (TY g) s) (hE : EV g A s s.heap) (hA : ∀ q : Nat, s.heap.size ≤ q → A q) (hl : lv_has ls nL lv)
    (hP : va_P g.1 vwCl cs.flatten H) (hD : va_D A cs.flatten) (hS : va_S A s.heap H locs) (hM : MG g l y bytes maxL ret rm As csC mc ms rs csN Pr) (isC isR isF : List Nat) (hCs : isC.map (fun i => cs[i]?) = csC.map some ∧ va_nd isC = true) (hJ : ∀ x, CJ cs csC csR (csN x) (csF x) isC isR isF) (n : Nat)
    (hG : GoodIn WW2 (va_wsS own index y (wsL y bytes maxL ret))) (hrm : rm.cells = mc ∧ rm.slots = ms) (hd : y.cls ≠ "java/lang/invoke/MethodHandle" ∧ y.cls ≠ "java/lang/invoke/VarHandle" ∧ (parseMethodDescriptor y.desc).map (fun d => d.parameters.length) = some n)
    (hRm : (rm.frames + 1 ≤ R.frames ∧ 8 + (maxL + 11) + rm.locals ≤ R.locals) ∧ cells + mc ≤ R.cells ∧ slots + ms ≤ R.slots) (hst : As.length = n ∧ st0 = As.reverse ++ rest) (hW : (rest.map fun v => v.category).sum ≤ 8) (hdg : decode cc pc = .ok (.invokestatic index, 3))
    (kk : ∀ (x : G) (H1 : Heap) (locs1 : List Loc), Pr x → va_P g.1 vwCl (csF x).flatten H1 → va_D A (csF x).flatten → va_S A s.heap H1 locs1 → W p l e R s m args below meth c H1 locs1 (cells + mc) (slots + ms) Q (F0 m (pc + 3) ls ((rs x).toList ++ rest))) : W p l e R s m args below meth c H locs cells slots Q (F0 m pc ls st0) := by
  have hPc := fr_sub hP isC hCs.1
  have hDc := fr_subD hD isC hCs.2 hCs.1
  have hFc := fr_free hD hS hA isC hCs.1
  exact cg_go (va_runS (As := As) (rest := rest) ⟨hx, hb, hml, hown, hts⟩ (hM H.size) (va_cwS n hts hG rfl hrm.1 hrm.2 hd hRm.1) ⟨PRE.blind, PRE.go hPc hK hDc hE hS hFc⟩ rfl hst.1 hl.1 hst.2 (lv_room hW) hdg hRm.2) (fun _ _ _ h => h) (fun _ h => h) hA hP hD hS isC isR isF hJ kk
end GCALLS
theorem jb_gi2h {L : List Cond} (h : ∀ w ∈ L, w ∈ WW2) {ws : List Cond} (hs : GoodIn WW2 ws) : GoodIn WW2 (L ++ ws) := by
  intro w hw
  rcases List.mem_append.mp hw with h1 | h1
  · exact ⟨h w h1, good_of_word (w2_good (h w h1))⟩
  · exact hs w h1
theorem jb_giU {own C owner : String} {idx : Nat} {y : MethodName} {cc : ByteArray} {n : Nat} {ret : Option FieldType} (hl : Cond.methodLink own idx y ∈ WW) (hm : Cond.sameMethod y.cls owner y.name y.desc ∈ WW) (hs : Cond.selects C y y ∈ WW2) (hi : Cond.instanceMethod y ∈ WW) (hn : Cond.initialized y.cls ∈ WW) (hc : Cond.code y cc n ret ∈ WW) : GoodIn WW2 (va_wsU own idx C owner y y (wsL y cc n ret)) := by
  refine jb_gi2h (fun w h => ?_) (jb_gi2 hc)
  simp only [List.mem_cons, List.not_mem_nil, or_false] at h
  rcases h with rfl | rfl | rfl | rfl | rfl
  · exact w2_in hl
  · exact w2_in hm
  · exact hs
  · exact w2_in hi
  · exact w2_in hn
theorem jb_giSU {own : String} {idx : Nat} {y : MethodName} {cc : ByteArray} {n : Nat} {ret : Option FieldType} (hl : Cond.methodLink own idx y ∈ WW) (hm : Cond.sameMethod y.cls y.cls y.name y.desc ∈ WW) (hs : Cond.superclass own y.cls ∈ WW) (hi : Cond.instanceMethod y ∈ WW) (hn : Cond.initialized y.cls ∈ WW) (hc : Cond.code y cc n ret ∈ WW) : GoodIn WW2 (va_wsSU own idx y (wsL y cc n ret)) := by
  refine jb_gi2h (fun w h => ?_) (jb_gi2 hc)
  simp only [List.mem_cons, List.not_mem_nil, or_false] at h
  rcases h with rfl | rfl | rfl | rfl | rfl <;> exact w2_in (by assumption)
theorem jb_giG2 {own : String} {idx : Nat} {y : MethodName} {cc : ByteArray} {n : Nat} {ret : Option FieldType} (hl : Cond.methodLink own idx y ∈ WW) (hi : Cond.static y ∈ WW) (hn : Cond.initialized y.cls ∈ WW) (hc : Cond.code y cc n ret ∈ WW) : GoodIn WW2 (va_wsS own idx y (wsL y cc n ret)) := by
  refine jb_gi2h (fun w h => ?_) (jb_gi2 hc)
  simp only [List.mem_cons, List.not_mem_nil, or_false] at h
  rcases h with rfl | rfl | rfl <;> exact w2_in (by assumption)
theorem jb_giV2 {own C : String} {idx : Nat} {y : MethodName} {cc : ByteArray} {n : Nat} {ret : Option FieldType} (hl : Cond.methodLink own idx y ∈ WW) (hi : Cond.instanceMethod y ∈ WW) (hs : Cond.selects C y y ∈ WW) (hn : Cond.initialized C ∈ WW) (hc : Cond.code y cc n ret ∈ WW) : GoodIn WW2 (wsV own idx C y (wsL y cc n ret)) := by
  refine jb_gi2h (fun w h => ?_) (jb_gi2 hc)
  simp only [List.mem_cons, List.not_mem_nil, or_false] at h
  rcases h with rfl | rfl | rfl | rfl <;> exact w2_in (by assumption)
/-! StringBuilder: the line that is written. x = (where the bytes lie, the bytes, how many, maybeLatin1) -/
abbrev LG : Type := Nat × (Nat → Int32) × Nat × Int32
def wA8 (g : GG) (q : Nat) (m : Nat) (f : Nat → Int32) : va_W := [(q, .inl (g.2.1 2, m, .inl f))]
def wLo (a q : Nat) (ml n : Int32) : va_W := [(a, .inr (1, [.ref q, .int 0, .int ml, .int n]))]
def wLc (g : GG) (a q : Nat) (f : Nat → Int32) (m : Nat) (ml n : Int32) : va_W := [(a, .inr (1, [.ref q, .int 0, .int ml, .int n])), (q, .inl (g.2.1 2, m, .inl f))]
def wL (g : GG) (a : Nat) (n : Int32) (x : LG) : va_W := wLc g a x.1 x.2.1 x.2.2.1 x.2.2.2 n
def LK (t : Nat → Nat) (n : Nat) (x : LG) : Prop := n ≤ x.2.2.1 ∧ x.2.2.1 ≤ 402 ∧ sb_Lat t n x.2.1 ∧ sb_Fit x.2.1
theorem sl_selP {args : Array Value} {s : State} {C : String} {y : MethodName} {n : Nat} {z : MethodName} (hy : y.cls ≠ "java/lang/invoke/MethodHandle" ∧ y.cls ≠ "java/lang/invoke/VarHandle")
    (hz : (Cond.selects C z z).before args s = true) (hzi : (Cond.instanceMethod z).before args s = true) (hc : z.cls = y.cls) (hpriv : (Cond.privateMethod y).before args s = true) (hinst : (Cond.instanceMethod y).before args s = true) :
    (Cond.selects C y y).before args s = true := by
  obtain ⟨mk, methM, hnamed, hmethM, -, -⟩ := Cond.instanceMethod_spec hinst
  obtain ⟨mz, methZ, hnamedZ, -, -, -⟩ := Cond.instanceMethod_spec hzi
  have hcls : mk.cls = mz.cls := Option.some.inj ((findClass_of_methodNamed hnamed).symm.trans (by rw [← hc]; exact findClass_of_methodNamed hnamedZ))
  have hfound : s.methodFound? y.cls y.name y.desc = some mk := State.methodFound?_of_named hnamed hy
  obtain ⟨c2, r2, m2, q1, q2, q3, q4, kP, hkP, hkPi⟩ := Cond.selects_spec hz
  cases q3.symm.trans hnamedZ
  have hsel : selectMethod {} s.vm c2 mk = .method mk := selectMethod_private hmethM (Cond.privateMethod_at hpriv mk methM hnamed hmethM)
  simp only [Cond.before, Cond.holds, Cond.value, q1, hfound, hnamed, hsel, hcls, hkP]
  simp [hkPi]
theorem sc_isLatin1 (g : GG) (l : Launch) (a : Nat) (n : Int32) (x : LG) : MG (G := Unit) g l yJ5_isLatin1_aae02 cJ5_isLatin1_aae02 1 (some .boolean) ({ frames := 0, cells := 0, slots := 0, locals := 0 } : Room) [.ref a] [wL g a n x] 0 0 (fun _ => some (.int 1)) (fun _ => [wL g a n x]) (fun _ => True) := by
  refine MG.bg (by decide) (Nat.le_of_ble_eq_true rfl) ?_
  intro p e s m below meth c A Q hQ hx hb hr hml hown hts hts2 hlocks hmn hK hE hA hP hD hS ls hl
  have hl : lv_has ls 1 [(0, .ref a)] := hl
  refine va_gets hx hb hE.2.2.2.2.2.1.1 hS hown (hts _ (WT_in 199 (by decide +kernel) (by decide +kernel))) (fun _ h9 => h9) dJ5_isLatin1_aae02_0 ?_
  refine lv_if_eq (tgt := 17) hx hb dJ5_isLatin1_aae02_3 (by decide) (fun c1 => absurd c1 (by decide)) (fun _ => ?_)
  refine lv_aload_n hx hb dJ5_isLatin1_aae02_6 rfl (lv_at hl 0 rfl) ?_
  refine va_get (D := g.1) (ci := 1) (v := .int 0) (C := RJ4) (T := TJ4) (N := 4) hx hb hts inJ4 hown hK hP 0 rfl rfl 1 (by decide) (hts _ (WT_in 209 (by decide +kernel) (by decide +kernel))) (fun _ h9 => h9) rfl dJ5_isLatin1_aae02_7 ?_
  refine lv_if_ne (tgt := 17) hx hb dJ5_isLatin1_aae02_10 (by decide) (fun c1 => absurd rfl c1) (fun _ => ?_)
  refine lv_iconst (v := 1) hx hb dJ5_isLatin1_aae02_13 (by decide) ?_
  refine lv_goto (tgt := 18) hx hb dJ5_isLatin1_aae02_14 (by decide) ?_
  rw [hQ]
  exact jg_zret hx hb hr rfl hlocks () hP hD hS dJ5_isLatin1_aae02_18 rfl trivial (Nat.le_of_ble_eq_true rfl) (Nat.le_of_ble_eq_true rfl)
theorem sc_canEncode (g : GG) (l : Launch) (ch : Nat) (hc : ch < 256) : MG (G := Unit) g l yJ1_canEncode_fc78d cJ1_canEncode_fc78d 1 (some .boolean) ({ frames := 0, cells := 0, slots := 0, locals := 0 } : Room) [.int (nI ch)] [] 0 0 (fun _ => some (.int 1)) (fun _ => []) (fun _ => True) := by
  refine MG.bg (by decide) (Nat.le_of_ble_eq_true rfl) ?_
  intro p e s m below meth c A Q hQ hx hb hr hml hown hts hts2 hlocks hmn hK hE hA hP hD hS ls hl
  have hl : lv_has ls 1 [(0, .int (nI ch))] := hl
  refine lv_iload_n hx hb dJ1_canEncode_fc78d_0 rfl (lv_at hl 0 rfl) ?_
  refine lv_sipush (v := 255) hx hb dJ1_canEncode_fc78d_1 (by decide) ?_
  refine lv_icmp_gt (tgt := 11) hx hb dJ1_canEncode_fc78d_4 (by decide) (fun c1 => absurd c1 (nI_nlt (a := 255) (b := ch) (by omega) (by omega))) (fun _ => ?_)
  refine lv_iconst (v := 1) hx hb dJ1_canEncode_fc78d_7 (by decide) ?_
  refine lv_goto (tgt := 12) hx hb dJ1_canEncode_fc78d_8 (by decide) ?_
  rw [hQ]
  exact jg_zret hx hb hr rfl hlocks () hP hD hS dJ1_canEncode_fc78d_12 rfl trivial (Nat.le_of_ble_eq_true rfl) (Nat.le_of_ble_eq_true rfl)
theorem sc_newLength (g : GG) (l : Launch) (m0 d r : Nat) (h : m0 + d + r < 2 ^ 28) (h0 : 0 < r) : MG (G := Unit) g l yJ8_newLength_cabcc cJ8_newLength_cabcc 4 (some .int) ({ frames := 1, cells := 0, slots := 0, locals := 20 } : Room) [.int (nI m0), .int (nI d), .int (nI r)] [] 0 0 (fun _ => some (.int (nI (m0 + (if d < r then r else d))))) (fun _ => []) (fun _ => True) := by
  refine MG.bg (by decide) (Nat.le_of_ble_eq_true rfl) ?_
  intro p e s m below meth c A Q hQ hx hb hr hml hown hts hts2 hlocks hmn hK hE hA hP hD hS ls hl
  have hl : lv_has ls 4 [(0, .int (nI m0)), (1, .int (nI d)), (2, .int (nI r))] := hl
  refine lv_iload_n hx hb dJ8_newLength_cabcc_0 rfl (lv_at hl 0 rfl) ?_
  refine lv_iload_n hx hb dJ8_newLength_cabcc_1 rfl (lv_at hl 1 rfl) ?_
  refine lv_iload_n hx hb dJ8_newLength_cabcc_2 rfl (lv_at hl 2 rfl) ?_
  refine va_mmax hx hb (hml.trans hl.1.symm) hown (hts _ (WT_in 364 (by decide +kernel) (by decide +kernel))) (hts _ (WT_in 297 (by decide +kernel) (by decide +kernel))) (hts _ (WT_in 11 (by decide +kernel) (by decide +kernel))) (hts _ (WT_in 298 (by decide +kernel) (by decide +kernel))) (Nat.le_of_ble_eq_true rfl) (Nat.le_of_ble_eq_true rfl) (Nat.le_of_ble_eq_true rfl) (Nat.le_of_ble_eq_true rfl) dJ8_newLength_cabcc_3 ?_
  have e1 : (if nI d < nI r then nI r else nI d) = nI (if d < r then r else d) := by
    by_cases h2 : d < r
    · rw [if_pos h2, if_pos (nI_lt h2 (by omega))]
    · rw [if_neg h2, if_neg (nI_nlt (by omega) (by omega))]
  generalize hz : (if d < r then r else d) = z at e1
  have hz1 : 0 < z ∧ m0 + z < 2 ^ 28 := by rw [← hz]; split <;> omega
  refine jt_i e1 ?_
  refine lv_iadd hx hb dJ8_newLength_cabcc_6 (jt_i (nI_add m0 z) ?_)
  refine lv_istore_n (lv' := [(3, .int (nI (m0 + z))), (0, .int (nI m0)), (1, .int (nI d)), (2, .int (nI r))]) hx hb dJ8_newLength_cabcc_7 rfl hl (by decide) rfl (fun ls hl => ?_)
  refine lv_iconst (v := 0) hx hb dJ8_newLength_cabcc_8 (by decide) ?_
  refine lv_iload_n hx hb dJ8_newLength_cabcc_9 rfl (lv_at hl 0 rfl) ?_
  refine lv_icmp_ge (tgt := 21) hx hb dJ8_newLength_cabcc_10 (by decide) (fun c1 => absurd c1 (nI_nle (by omega) (by omega))) (fun _ => ?_)
  refine lv_iload_n hx hb dJ8_newLength_cabcc_13 rfl (lv_at hl 0 rfl) ?_
  refine lv_ldc (v := 2147483639) hx hb hown (hts _ (WT_in 365 (by decide +kernel) (by decide +kernel))) dJ8_newLength_cabcc_14 ?_
  refine lv_icmp_gt (tgt := 21) hx hb dJ8_newLength_cabcc_16 (by decide) (fun c1 => absurd c1 (nI_nlt (a := 2147483639) (b := m0 + z) (by omega) (by decide))) (fun _ => ?_)
  refine lv_iload_n hx hb dJ8_newLength_cabcc_19 rfl (lv_at hl 0 rfl) ?_
  rw [hQ]
  exact jg_zret hx hb hr rfl hlocks () hP hD hS dJ8_newLength_cabcc_20 (by rw [hz]) trivial (Nat.le_of_ble_eq_true rfl) (Nat.le_of_ble_eq_true rfl)
theorem sl_cap {q m : Nat} (h : m < q) : m + (if q - m < m + 2 then m + 2 else q - m) = sb_cap q m := by
  unfold sb_cap
  (repeat' split) <;> omega
theorem sc_newCapacity (g : GG) (l : Launch) (a : Nat) (n : Int32) (x : LG) (q : Nat) (hq : x.2.2.1 < q) (hb2 : q < 2 ^ 26) : MG (G := Unit) g l yJ5_newCapacity_0f7a4 cJ5_newCapacity_0f7a4 6 (some .int) ({ frames := 2, cells := 0, slots := 0, locals := 50 } : Room) [.ref a, .int (nI q)] [wL g a n x] 0 0 (fun _ => some (.int (nI (sb_cap q x.2.2.1)))) (fun _ => [wL g a n x]) (fun _ => True) := by
  refine MG.bg (by decide) (Nat.le_of_ble_eq_true rfl) ?_
  intro p e s m below meth c A Q hQ hx hb hr hml hown hts hts2 hlocks hmn hK hE hA hP hD hS ls hl
  obtain ⟨q0, f, m0, ml⟩ := x
  have hq : m0 < q := hq
  have hl : lv_has ls 6 [(0, .ref a), (1, .int (nI q))] := hl
  refine lv_aload_n hx hb dJ5_newCapacity_0f7a4_0 rfl (lv_at hl 0 rfl) ?_
  refine va_get (D := g.1) (ci := 1) (v := .ref q0) (C := RJ4) (T := TJ4) (N := 4) hx hb hts inJ4 hown hK hP 0 rfl rfl 0 (by decide) (hts _ (WT_in 208 (by decide +kernel) (by decide +kernel))) (fun _ h9 => h9) rfl dJ5_newCapacity_0f7a4_1 ?_
  refine va_alen hx hb hK hP 1 2 rfl rfl (v := nI m0) rfl dJ5_newCapacity_0f7a4_4 ?_
  refine lv_istore_n (lv' := [(2, .int (nI m0)), (0, .ref a), (1, .int (nI q))]) hx hb dJ5_newCapacity_0f7a4_5 rfl hl (by decide) rfl (fun ls hl => ?_)
  refine lv_iload_n hx hb dJ5_newCapacity_0f7a4_6 rfl (lv_at hl 2 rfl) ?_
  refine lv_aload_n hx hb dJ5_newCapacity_0f7a4_7 rfl (lv_at hl 1 rfl) ?_
  refine va_get (D := g.1) (ci := 1) (v := .int 0) (C := RJ4) (T := TJ4) (N := 4) hx hb hts inJ4 hown hK hP 0 rfl rfl 1 (by decide) (hts _ (WT_in 209 (by decide +kernel) (by decide +kernel))) (fun _ h9 => h9) rfl dJ5_newCapacity_0f7a4_8 ?_
  refine lv_ishl hx hb dJ5_newCapacity_0f7a4_11 (jt_i (sb_shl0 _) ?_)
  refine lv_istore_n (lv' := [(3, .int (nI q)), (2, .int (nI m0)), (0, .ref a), (1, .int (nI q))]) hx hb dJ5_newCapacity_0f7a4_12 rfl hl (by decide) rfl (fun ls hl => ?_)
  refine lv_iload_n hx hb dJ5_newCapacity_0f7a4_13 rfl (lv_at hl 0 rfl) ?_
  refine lv_iload_n hx hb dJ5_newCapacity_0f7a4_14 rfl (lv_at hl 1 rfl) ?_
  refine lv_isub hx hb dJ5_newCapacity_0f7a4_15 (jt_i (y := nI (q - m0)) (pk_sub (by omega)) ?_)
  refine lv_istore (lv' := [(4, .int (nI (q - m0))), (3, .int (nI q)), (2, .int (nI m0)), (0, .ref a), (1, .int (nI q))]) hx hb dJ5_newCapacity_0f7a4_16 hl (by decide) rfl (fun ls hl => ?_)
  refine lv_iload_n hx hb dJ5_newCapacity_0f7a4_18 rfl (lv_at hl 2 rfl) ?_
  refine lv_iload hx hb dJ5_newCapacity_0f7a4_19 (lv_at hl 0 rfl) ?_
  refine lv_iload_n hx hb dJ5_newCapacity_0f7a4_21 rfl (lv_at hl 2 rfl) ?_
  refine lv_iconst (v := 2) hx hb dJ5_newCapacity_0f7a4_22 (by decide) ?_
  refine lv_aload_n hx hb dJ5_newCapacity_0f7a4_23 rfl (lv_at hl 3 rfl) ?_
  refine va_get (D := g.1) (ci := 1) (v := .int 0) (C := RJ4) (T := TJ4) (N := 4) hx hb hts inJ4 hown hK hP 0 rfl rfl 1 (by decide) (hts _ (WT_in 209 (by decide +kernel) (by decide +kernel))) (fun _ h9 => h9) rfl dJ5_newCapacity_0f7a4_24 ?_
  refine lv_ishl hx hb dJ5_newCapacity_0f7a4_27 (jt_i (y := nI 2) (sb_shl0 _) ?_)
  refine lv_iadd hx hb dJ5_newCapacity_0f7a4_28 (jt_i (nI_add m0 2) ?_)
  refine cg_S (csR := [wL g a n (q0, f, m0, ml)]) (csF := fun _ => [wL g a n (q0, f, m0, ml)]) (rest := []) hx hb hml hown hts2 hK hE hA hl hP hD hS (sc_newLength g l m0 (q - m0) (m0 + 2) (by omega) (by omega)) [] [0] [0] ⟨rfl, rfl⟩ (fun _ => ⟨rfl, rfl, rfl, rfl, rfl, rfl, rfl⟩) 3 (jb_giG2 (WT_in 361 (by decide +kernel) (by decide +kernel)) (WT_in 362 (by decide +kernel) (by decide +kernel)) (WT_in 26 (by decide +kernel) (by decide +kernel)) (WT_in 363 (by decide +kernel) (by decide +kernel))) ⟨rfl, rfl⟩ (by decide +kernel) ⟨⟨(Nat.le_of_ble_eq_true rfl), (Nat.le_of_ble_eq_true rfl)⟩, (Nat.le_of_ble_eq_true rfl), (Nat.le_of_ble_eq_true rfl)⟩ ⟨rfl, rfl⟩ (Nat.le_of_ble_eq_true rfl) dJ5_newCapacity_0f7a4_29 (fun _ H locs _ hP hD hS => ?_)
  refine jt_i (rest := []) (congrArg nI (sl_cap hq)) ?_
  have hcp : sb_cap q m0 < 2 ^ 27 := by rw [← sl_cap hq]; split <;> omega
  refine lv_istore (lv' := [(5, .int (nI (sb_cap q m0))), (4, .int (nI (q - m0))), (3, .int (nI q)), (2, .int (nI m0)), (0, .ref a), (1, .int (nI q))]) hx hb dJ5_newCapacity_0f7a4_32 hl (by decide) rfl (fun ls hl => ?_)
  refine lv_iload hx hb dJ5_newCapacity_0f7a4_34 (lv_at hl 0 rfl) ?_
  refine lv_ldc (v := 2147483647) hx hb hown (hts _ (WT_in 369 (by decide +kernel) (by decide +kernel))) dJ5_newCapacity_0f7a4_36 ?_
  refine lv_icmp_ne (tgt := 51) hx hb dJ5_newCapacity_0f7a4_38 (by decide) (fun _ => ?_) (fun c1 => absurd ((nI_eq (a := sb_cap q m0) (b := 2147483647) (by omega) (by decide)).mp c1) (by omega))
  refine lv_iload hx hb dJ5_newCapacity_0f7a4_51 (lv_at hl 0 rfl) ?_
  refine lv_aload_n hx hb dJ5_newCapacity_0f7a4_53 rfl (lv_at hl 4 rfl) ?_
  refine va_get (D := g.1) (ci := 1) (v := .int 0) (C := RJ4) (T := TJ4) (N := 4) hx hb hts inJ4 hown hK hP 0 rfl rfl 1 (by decide) (hts _ (WT_in 209 (by decide +kernel) (by decide +kernel))) (fun _ h9 => h9) rfl dJ5_newCapacity_0f7a4_54 ?_
  refine lv_ishr hx hb dJ5_newCapacity_0f7a4_57 (jt_i (sb_shr0 _) ?_)
  rw [hQ]
  exact jg_zret hx hb hr rfl hlocks () hP hD hS dJ5_newCapacity_0f7a4_58 rfl trivial (Nat.le_of_ble_eq_true rfl) (Nat.le_of_ble_eq_true rfl)
theorem sl_same {g : GG} {s : State} {cA : ClassId} {ty : FieldType} (hK : va_K g.1 vwCl (TY g ++ [(cA, ty)]) s) {k : Nat} {cB : ClassId} (hty : va_RA s cA ty = (s.vm.findClass ("[" ++ ty.toString) = some cA)) (hty2 : va_RA s cB ty = (s.vm.findClass ("[" ++ ty.toString) = some cB)) (hk : (TY g)[k]? = some (cB, ty)) : cA = cB := by
  have hlt : k < (TY g).length := (List.getElem?_eq_some_iff.mp hk).1
  have h1 := (hK.2 6 (cA, ty) rfl).2
  have h2 := (hK.2 k (cB, ty) (by rw [List.getElem?_append_left hlt]; exact hk)).2
  rw [hty] at h1
  rw [hty2] at h2
  exact Option.some.inj (h1.symm.trans h2)
theorem sc_copyOf (g : GG) (l : Launch) (q1 : Nat) (f : Nat → Int32) (m0 q : Nat) (h : m0 < q) (hq : q ≤ 65536) (hf : sb_Fit f) : MG (G := Nat) g l yJ7_copyOf_9075b cJ7_copyOf_9075b 3 (some (.array .byte)) ({ frames := 1, cells := 1, slots := q, locals := 50 } : Room) [.ref q1, .int (nI q)] [wA8 g q1 m0 f] 1 q (fun x => some (.ref x)) (fun x => [wA8 g q1 m0 f, wA8 g x q (va_cpy f (fun _ => 0) 0 0 m0)]) (fun _ => True) := by
  refine MG.bg (by decide) (Nat.le_of_ble_eq_true rfl) ?_
  intro p e s m below meth c A Q hQ hx hb hr hml hown hts hts2 hlocks hmn hK hE hA hP hD hS ls hl
  have hl : lv_has ls 3 [(0, .ref q1), (1, .int (nI q))] := hl
  refine lv_iload_n hx hb dJ7_copyOf_9075b_0 rfl (lv_at hl 1 rfl) ?_
  refine lv_aload_n hx hb dJ7_copyOf_9075b_1 rfl (lv_at hl 0 rfl) ?_
  refine va_alen hx hb hK hP 0 2 rfl rfl (v := nI m0) rfl dJ7_copyOf_9075b_2 ?_
  refine lv_icmp_ne (tgt := 14) hx hb dJ7_copyOf_9075b_3 (by decide) (fun _ => ?_) (fun c1 => absurd ((nI_eq (a := q) (b := m0) (by omega) (by omega)).mp c1) (by omega))
  refine lv_iload_n hx hb dJ7_copyOf_9075b_14 rfl (lv_at hl 1 rfl) ?_
  refine va_newa (atype := .byte) (ty := .byte) (a0 := (q, .inl (fun _ => 0))) hx hb (hts _ (WT_in 222 (by decide +kernel) (by decide +kernel))) rfl hK hP hD hS hA (fun _ => rfl) (nI_pos (by omega)) (nI_clamp (by omega)) (by show q * 1 ≤ _; omega) (Nat.le_of_ble_eq_true rfl) (by show 0 + q ≤ q; omega) dJ7_copyOf_9075b_15 (fun q9 cA H hK9 hP hD hS => ?_)
  have e9 : cA = g.2.1 2 := sl_same hK9 (k := 2) rfl rfl rfl
  subst e9
  refine lv_astore_n (lv' := [(2, .ref q9), (0, .ref q1), (1, .int (nI q))]) hx hb dJ7_copyOf_9075b_17 rfl hl (by decide) rfl (fun ls hl => ?_)
  refine lv_aload_n hx hb dJ7_copyOf_9075b_18 rfl (lv_at hl 1 rfl) ?_
  refine lv_iconst (v := 0) hx hb dJ7_copyOf_9075b_19 (by decide) ?_
  refine lv_aload_n hx hb dJ7_copyOf_9075b_20 rfl (lv_at hl 0 rfl) ?_
  refine lv_iconst (v := 0) hx hb dJ7_copyOf_9075b_21 (by decide) ?_
  refine lv_aload_n hx hb dJ7_copyOf_9075b_22 rfl (lv_at hl 1 rfl) ?_
  refine va_alen hx hb hK hP 0 2 rfl rfl (v := nI m0) rfl dJ7_copyOf_9075b_23 ?_
  refine lv_iload_n hx hb dJ7_copyOf_9075b_24 rfl (lv_at hl 2 rfl) ?_
  refine va_mmin hx hb (hml.trans hl.1.symm) hown (hts _ (WT_in 380 (by decide +kernel) (by decide +kernel))) (hts _ (WT_in 293 (by decide +kernel) (by decide +kernel))) (hts _ (WT_in 11 (by decide +kernel) (by decide +kernel))) (hts _ (WT_in 294 (by decide +kernel) (by decide +kernel))) (Nat.le_of_ble_eq_true rfl) (Nat.le_of_ble_eq_true rfl) (Nat.le_of_ble_eq_true rfl) (by show 0 + q ≤ q; omega) dJ7_copyOf_9075b_25 ?_
  refine jt_i (y := nI m0) (if_neg (nI_nlt (by omega) (by omega))) ?_
  refine va_copyi hx hb (hml.trans hl.1.symm) hown (hts _ (WT_in 381 (by decide +kernel) (by decide +kernel))) (hts _ (WT_in 383 (by decide +kernel) (by decide +kernel))) (hts _ (WT_in 382 (by decide +kernel) (by decide +kernel))) (hts _ (WT_in 18 (by decide +kernel) (by decide +kernel))) hK hP hD hS 0 1 2 2 rfl rfl rfl rfl rfl (by decide) (by decide) (nI_pos (by omega)) (by rw [sb_cl0, nI_clamp (by omega)]; omega) (by rw [sb_cl0, nI_clamp (by omega)]; omega) (fun i _ => hf _) (Nat.le_of_ble_eq_true rfl) (by show 0 + (nativeFrameWords "java/lang/System" "arraycopy" 5 + 11) ≤ 50; decide +kernel) dJ7_copyOf_9075b_28 (fun H locs hP hD hS => ?_)
  rw [sb_cl0, nI_clamp (by omega)] at hP hD
  refine lv_aload_n hx hb dJ7_copyOf_9075b_31 rfl (lv_at hl 0 rfl) ?_
  rw [hQ]
  exact jg_aret hx hb hr (Or.inr ⟨_, rfl⟩) hlocks q9 hP hD hS dJ7_copyOf_9075b_32 rfl trivial (Nat.le_of_ble_eq_true rfl) (by show 0 + q ≤ q; omega)
theorem sc_ensure (g : GG) (l : Launch) (a : Nat) (n : Int32) (x : LG) (q : Nat) (hm : x.2.2.1 ≤ 402) (hq : q ≤ 1000) (hf : sb_Fit x.2.1) : MG (G := LG) g l yJ5_ensureCapacityInternal_d00df cJ5_ensureCapacityInternal_d00df 3 none ({ frames := 3, cells := sb_cap q x.2.2.1 - x.2.2.1, slots := 2 * (sb_cap q x.2.2.1 - x.2.2.1), locals := 80 } : Room) [.ref a, .int (nI q)] [wL g a n x] (sb_cap q x.2.2.1 - x.2.2.1) (2 * (sb_cap q x.2.2.1 - x.2.2.1)) (fun _ => none) (fun x' => [wL g a n x']) (fun x' => sb_Fit x'.2.1 ∧ (∀ j, j < x.2.2.1 → x'.2.1 j = x.2.1 j) ∧ x'.2.2.1 = sb_cap q x.2.2.1 ∧ x'.2.2.2 = x.2.2.2) := by
  refine MG.bg (by decide) (Nat.le_of_ble_eq_true rfl) ?_
  intro p e s m below meth c A Q hQ hx hb hr hml hown hts hts2 hlocks hmn hK hE hA hP hD hS ls hl
  obtain ⟨q0, f, m0, ml⟩ := x
  have hm : m0 ≤ 402 := hm
  have hf : sb_Fit f := hf
  have hl : lv_has ls 3 [(0, .ref a), (1, .int (nI q))] := hl
  refine lv_aload_n hx hb dJ5_ensureCapacityInternal_d00df_0 rfl (lv_at hl 0 rfl) ?_
  refine va_get (D := g.1) (ci := 1) (v := .ref q0) (C := RJ4) (T := TJ4) (N := 4) hx hb hts inJ4 hown hK hP 0 rfl rfl 0 (by decide) (hts _ (WT_in 208 (by decide +kernel) (by decide +kernel))) (fun _ h9 => h9) rfl dJ5_ensureCapacityInternal_d00df_1 ?_
  refine va_alen hx hb hK hP 1 2 rfl rfl (v := nI m0) rfl dJ5_ensureCapacityInternal_d00df_4 ?_
  refine lv_aload_n hx hb dJ5_ensureCapacityInternal_d00df_5 rfl (lv_at hl 0 rfl) ?_
  refine va_get (D := g.1) (ci := 1) (v := .int 0) (C := RJ4) (T := TJ4) (N := 4) hx hb hts inJ4 hown hK hP 0 rfl rfl 1 (by decide) (hts _ (WT_in 209 (by decide +kernel) (by decide +kernel))) (fun _ h9 => h9) rfl dJ5_ensureCapacityInternal_d00df_6 ?_
  refine lv_ishr hx hb dJ5_ensureCapacityInternal_d00df_9 (jt_i (sb_shr0 _) ?_)
  refine lv_istore_n (lv' := [(2, .int (nI m0)), (0, .ref a), (1, .int (nI q))]) hx hb dJ5_ensureCapacityInternal_d00df_10 rfl hl (by decide) rfl (fun ls hl => ?_)
  refine lv_iload_n hx hb dJ5_ensureCapacityInternal_d00df_11 rfl (lv_at hl 2 rfl) ?_
  refine lv_iload_n hx hb dJ5_ensureCapacityInternal_d00df_12 rfl (lv_at hl 0 rfl) ?_
  have e1 : (nI q - nI m0).toInt = (q : Int) - m0 := pk_sub_toInt (by omega) (by omega)
  refine lv_isub hx hb dJ5_ensureCapacityInternal_d00df_13 ?_
  refine lv_if_le (tgt := 38) hx hb dJ5_ensureCapacityInternal_d00df_14 (by decide) (fun c1 => ?_) (fun c1 => ?_)
  · have h : q ≤ m0 := by
      rw [Int32.le_iff_toInt_le, e1, Int32.toInt_zero] at c1
      omega
    have hc : sb_cap q m0 = m0 := if_pos h
    rw [hQ]
    exact jg_vret hx hb hr hlocks (q0, f, m0, ml) hP hD hS dJ5_ensureCapacityInternal_d00df_38 rfl ⟨hf, fun _ _ => rfl, hc.symm, rfl⟩ (Nat.zero_le _) (Nat.zero_le _)
  · have h : m0 < q := by
      rw [Int32.le_iff_toInt_le, e1, Int32.toInt_zero] at c1
      omega
    have hcap := sl_cap h
    have hc1 : m0 + 2 ≤ sb_cap q m0 - m0 ∧ sb_cap q m0 ≤ 2 * (sb_cap q m0 - m0) ∧ m0 < sb_cap q m0 ∧ sb_cap q m0 ≤ 2000 := by
      generalize sb_cap q m0 = k at hcap ⊢
      split at hcap <;> omega
    refine lv_aload_n hx hb dJ5_ensureCapacityInternal_d00df_17 rfl (lv_at hl 1 rfl) ?_
    refine lv_aload_n hx hb dJ5_ensureCapacityInternal_d00df_18 rfl (lv_at hl 1 rfl) ?_
    refine va_get (D := g.1) (ci := 1) (v := .ref q0) (C := RJ4) (T := TJ4) (N := 4) hx hb hts inJ4 hown hK hP 0 rfl rfl 0 (by decide) (hts _ (WT_in 208 (by decide +kernel) (by decide +kernel))) (fun _ h9 => h9) rfl dJ5_ensureCapacityInternal_d00df_19 ?_
    refine lv_aload_n hx hb dJ5_ensureCapacityInternal_d00df_22 rfl (lv_at hl 1 rfl) ?_
    refine lv_iload_n hx hb dJ5_ensureCapacityInternal_d00df_23 rfl (lv_at hl 2 rfl) ?_
    refine cg_U (owner := RJ5) (csR := []) (csF := fun _ => [wL g a n (q0, f, m0, ml)]) (rest := [.ref q0, .ref a]) hx hb hml hown hts2 hK hE hA hl hP hD hS (sc_newCapacity g l a n (q0, f, m0, ml) q h (by omega)) [0] [] [0] ⟨rfl, rfl⟩ (fun _ => ⟨rfl, rfl, rfl, rfl, rfl, rfl, rfl⟩) ⟨0, 1, _, _, rfl, rfl, rfl⟩ 1 (jb_giU (WT_in 357 (by decide +kernel) (by decide +kernel)) (WT_in 1764 (by decide +kernel) (by decide +kernel)) w2_s2 (WT_in 359 (by decide +kernel) (by decide +kernel)) (WT_in 6 (by decide +kernel) (by decide +kernel)) (WT_in 360 (by decide +kernel) (by decide +kernel))) ⟨rfl, rfl⟩ rfl (by decide +kernel) ⟨⟨(Nat.le_of_ble_eq_true rfl), (Nat.le_of_ble_eq_true rfl)⟩, (Nat.zero_le _), (Nat.zero_le _)⟩ ⟨rfl, rfl⟩ (Nat.le_of_ble_eq_true rfl) dJ5_ensureCapacityInternal_d00df_24 (fun _ H locs _ hP hD hS => ?_)
    refine lv_aload_n hx hb dJ5_ensureCapacityInternal_d00df_27 rfl (lv_at hl 1 rfl) ?_
    refine va_get (D := g.1) (ci := 1) (v := .int 0) (C := RJ4) (T := TJ4) (N := 4) hx hb hts inJ4 hown hK hP 0 rfl rfl 1 (by decide) (hts _ (WT_in 209 (by decide +kernel) (by decide +kernel))) (fun _ h9 => h9) rfl dJ5_ensureCapacityInternal_d00df_28 ?_
    refine lv_ishl hx hb dJ5_ensureCapacityInternal_d00df_31 (jt_i (sb_shl0 _) ?_)
    have hP : va_P g.1 vwCl ([wLo a q0 ml n, wA8 g q0 m0 f] : List va_W).flatten _ := hP
    have hD : va_D A ([wLo a q0 ml n, wA8 g q0 m0 f] : List va_W).flatten := hD
    refine cg_S (csR := [wLo a q0 ml n]) (csF := fun x => [wLo a q0 ml n, wA8 g x (sb_cap q m0) (va_cpy f (fun _ => 0) 0 0 m0)]) (rest := [.ref a]) hx hb hml hown hts2 hK hE hA hl hP hD hS (sc_copyOf g l q0 f m0 (sb_cap q m0) (by omega) (by omega) hf) [1] [0] [0, 2] ⟨rfl, rfl⟩ (fun _ => ⟨rfl, rfl, rfl, rfl, rfl, rfl, rfl⟩) 2 (jb_giG2 (WT_in 370 (by decide +kernel) (by decide +kernel)) (WT_in 371 (by decide +kernel) (by decide +kernel)) (WT_in 27 (by decide +kernel) (by decide +kernel)) (WT_in 372 (by decide +kernel) (by decide +kernel))) ⟨rfl, rfl⟩ (by decide +kernel) ⟨⟨(Nat.le_of_ble_eq_true rfl), (Nat.le_of_ble_eq_true rfl)⟩, by show 0 + 0 + 1 ≤ sb_cap q m0 - m0; omega, by show 0 + 0 + sb_cap q m0 ≤ 2 * (sb_cap q m0 - m0); omega⟩ ⟨rfl, rfl⟩ (Nat.le_of_ble_eq_true rfl) dJ5_ensureCapacityInternal_d00df_32 (fun q9 H locs _ hP hD hS => ?_)
    refine va_put (D := g.1) (ci := 1) (v := .ref q9) (ty := .array .byte) (C := RJ4) (T := TJ4) (N := 4) hx hb hts inJ4 tyJ4 tyJ4_ok nmJ4 hown hK hP hD hS 0 rfl rfl 0 (by decide) (hts _ (WT_in 208 (by decide +kernel) (by decide +kernel))) (fun _ h9 => h9) rfl (by decide +kernel) rfl rfl (Nat.le_of_ble_eq_true rfl) dJ5_ensureCapacityInternal_d00df_35 (fun H locs hP hD hS => ?_)
    rw [hQ]
    exact jg_vret hx hb hr hlocks (q9, va_cpy f (fun _ => 0) 0 0 m0, sb_cap q m0, ml) hP hD hS dJ5_ensureCapacityInternal_d00df_38 rfl ⟨sb_fitC hf sb_fit0, fun j hj => (sb_cpy0 hj : va_cpy f (fun _ => 0) 0 0 m0 j = f j), rfl, rfl⟩ (by show 0 + 0 + 1 ≤ sb_cap q m0 - m0; omega) (by show 0 + 0 + sb_cap q m0 ≤ 2 * (sb_cap q m0 - m0); omega)
theorem sc_appendC5 (g : GG) (l : Launch) (a : Nat) (t : Nat → Nat) (n : Nat) (x : LG) (ch : Nat) (hn : n < 200) (hc : ch < 256) (hk : LK t n x) : MG (G := LG) g l yJ5_append_3fe6f cJ5_append_3fe6f 2 (some (.object "java/lang/AbstractStringBuilder")) ({ frames := 4, cells := sb_cap (n + 1) x.2.2.1 - x.2.2.1, slots := 2 * (sb_cap (n + 1) x.2.2.1 - x.2.2.1), locals := 110 } : Room) [.ref a, .int (nI ch)] [wL g a (nI n) x] (sb_cap (n + 1) x.2.2.1 - x.2.2.1) (2 * (sb_cap (n + 1) x.2.2.1 - x.2.2.1)) (fun _ => some (.ref a)) (fun x' => [wL g a (nI (n + 1)) x']) (fun x' => LK (sb_cat t n (fun _ => ch)) (n + 1) x' ∧ x'.2.2.1 = sb_cap (n + 1) x.2.2.1) := by
  refine MG.bg (by decide) (Nat.le_of_ble_eq_true rfl) ?_
  intro p e s m below meth c A Q hQ hx hb hr hml hown hts hts2 hlocks hmn hK hE hA hP hD hS ls hl
  obtain ⟨q0, f, m0, ml⟩ := x
  obtain ⟨k1, k2, k3, k4⟩ := hk
  have k1 : n ≤ m0 := k1
  have k2 : m0 ≤ 402 := k2
  have hl : lv_has ls 2 [(0, .ref a), (1, .int (nI ch))] := hl
  refine lv_aload_n hx hb dJ5_append_3fe6f_0 rfl (lv_at hl 0 rfl) ?_
  refine lv_aload_n hx hb dJ5_append_3fe6f_1 rfl (lv_at hl 0 rfl) ?_
  refine va_get (D := g.1) (ci := 1) (v := .int (nI n)) (C := RJ4) (T := TJ4) (N := 4) hx hb hts inJ4 hown hK hP 0 rfl rfl 3 (by decide) (hts _ (WT_in 212 (by decide +kernel) (by decide +kernel))) (fun _ h9 => h9) rfl dJ5_append_3fe6f_2 ?_
  refine lv_iconst (v := 1) hx hb dJ5_append_3fe6f_5 (by decide) ?_
  refine lv_iadd hx hb dJ5_append_3fe6f_6 (jt_i (nI_1 n) ?_)
  refine cg_U (owner := RJ5) (csR := []) (csF := fun x => [wL g a (nI n) x]) (rest := []) hx hb hml hown hts2 hK hE hA hl hP hD hS (sc_ensure g l a (nI n) (q0, f, m0, ml) (n + 1) k2 (by omega) k4) [0] [] [0] ⟨rfl, rfl⟩ (fun _ => ⟨rfl, rfl, rfl, rfl, rfl, rfl, rfl⟩) ⟨0, 1, _, _, rfl, rfl, rfl⟩ 1 (jb_giU (WT_in 353 (by decide +kernel) (by decide +kernel)) (WT_in 1763 (by decide +kernel) (by decide +kernel)) w2_s1 (WT_in 355 (by decide +kernel) (by decide +kernel)) (WT_in 6 (by decide +kernel) (by decide +kernel)) (WT_in 356 (by decide +kernel) (by decide +kernel))) ⟨rfl, rfl⟩ rfl (by decide +kernel) ⟨⟨(Nat.le_of_ble_eq_true rfl), (Nat.le_of_ble_eq_true rfl)⟩, (by (try dsimp only); omega), (by (try dsimp only); omega)⟩ ⟨rfl, rfl⟩ (Nat.le_of_ble_eq_true rfl) dJ5_append_3fe6f_7 (fun x H locs hx9 hP hD hS => ?_)
  obtain ⟨q1, f1, m1, ml1⟩ := x
  obtain ⟨e1, e2, e3, e4⟩ := hx9
  have e3 : m1 = sb_cap (n + 1) m0 := e3
  have hge := sb_cap_ge (n + 1) m0
  have hcle : sb_cap (n + 1) m0 ≤ 402 := by
    unfold sb_cap
    (repeat' split) <;> omega
  refine lv_aload_n hx hb dJ5_append_3fe6f_10 rfl (lv_at hl 0 rfl) ?_
  refine cg_U (owner := RJ5) (csR := []) (csF := fun _ => [wL g a (nI n) (q1, f1, m1, ml1)]) (rest := []) hx hb hml hown hts2 hK hE hA hl hP hD hS (sc_isLatin1 g l a (nI n) (q1, f1, m1, ml1)) [0] [] [0] ⟨rfl, rfl⟩ (fun _ => ⟨rfl, rfl, rfl, rfl, rfl, rfl, rfl⟩) ⟨0, 1, _, _, rfl, rfl, rfl⟩ 0 (jb_giU (WT_in 384 (by decide +kernel) (by decide +kernel)) (WT_in 386 (by decide +kernel) (by decide +kernel)) (w2_in (WT_in 387 (by decide +kernel) (by decide +kernel))) (WT_in 385 (by decide +kernel) (by decide +kernel)) (WT_in 6 (by decide +kernel) (by decide +kernel)) (WT_in 388 (by decide +kernel) (by decide +kernel))) ⟨rfl, rfl⟩ rfl (by decide +kernel) ⟨⟨(Nat.le_of_ble_eq_true rfl), (Nat.le_of_ble_eq_true rfl)⟩, (by (try dsimp only); omega), (by (try dsimp only); omega)⟩ ⟨rfl, rfl⟩ (Nat.le_of_ble_eq_true rfl) dJ5_append_3fe6f_11 (fun _ H locs _ hP hD hS => ?_)
  refine lv_if_eq (tgt := 45) hx hb dJ5_append_3fe6f_14 (by decide) (fun c1 => absurd c1 (by decide)) (fun _ => ?_)
  refine lv_iload_n hx hb dJ5_append_3fe6f_17 rfl (lv_at hl 1 rfl) ?_
  refine cg_S (csR := [wL g a (nI n) (q1, f1, m1, ml1)]) (csF := fun _ => [wL g a (nI n) (q1, f1, m1, ml1)]) (rest := []) hx hb hml hown hts2 hK hE hA hl hP hD hS (sc_canEncode g l ch hc) [] [0] [0] ⟨rfl, rfl⟩ (fun _ => ⟨rfl, rfl, rfl, rfl, rfl, rfl, rfl⟩) 1 (jb_giG2 (WT_in 677 (by decide +kernel) (by decide +kernel)) (WT_in 678 (by decide +kernel) (by decide +kernel)) (WT_in 23 (by decide +kernel) (by decide +kernel)) (WT_in 679 (by decide +kernel) (by decide +kernel))) ⟨rfl, rfl⟩ (by decide +kernel) ⟨⟨(Nat.le_of_ble_eq_true rfl), (Nat.le_of_ble_eq_true rfl)⟩, (by (try dsimp only); omega), (by (try dsimp only); omega)⟩ ⟨rfl, rfl⟩ (Nat.le_of_ble_eq_true rfl) dJ5_append_3fe6f_18 (fun _ H locs _ hP hD hS => ?_)
  refine lv_if_eq (tgt := 45) hx hb dJ5_append_3fe6f_21 (by decide) (fun c1 => absurd c1 (by decide)) (fun _ => ?_)
  refine lv_aload_n hx hb dJ5_append_3fe6f_24 rfl (lv_at hl 0 rfl) ?_
  refine va_get (D := g.1) (ci := 1) (v := .ref q1) (C := RJ4) (T := TJ4) (N := 4) hx hb hts inJ4 hown hK hP 0 rfl rfl 0 (by decide) (hts _ (WT_in 208 (by decide +kernel) (by decide +kernel))) (fun _ h9 => h9) rfl dJ5_append_3fe6f_25 ?_
  refine lv_aload_n hx hb dJ5_append_3fe6f_28 rfl (lv_at hl 0 rfl) ?_
  refine lv_dup hx hb dJ5_append_3fe6f_29 rfl ?_
  refine va_get (D := g.1) (ci := 1) (v := .int (nI n)) (C := RJ4) (T := TJ4) (N := 4) hx hb hts inJ4 hown hK hP 0 rfl rfl 3 (by decide) (hts _ (WT_in 212 (by decide +kernel) (by decide +kernel))) (fun _ h9 => h9) rfl dJ5_append_3fe6f_30 ?_
  refine lv_dup_x1 hx hb dJ5_append_3fe6f_33 rfl rfl ?_
  refine lv_iconst (v := 1) hx hb dJ5_append_3fe6f_34 (by decide) ?_
  refine lv_iadd hx hb dJ5_append_3fe6f_35 (jt_i (nI_1 n) ?_)
  refine va_put (D := g.1) (ci := 1) (v := .int (nI (n + 1))) (ty := .int) (C := RJ4) (T := TJ4) (N := 4) hx hb hts inJ4 tyJ4 tyJ4_ok nmJ4 hown hK hP hD hS 0 rfl rfl 3 (by decide) (hts _ (WT_in 212 (by decide +kernel) (by decide +kernel))) (fun _ h9 => h9) rfl (by decide +kernel) rfl rfl (Nat.le_of_ble_eq_true rfl) dJ5_append_3fe6f_36 (fun H locs hP hD hS => ?_)
  have hP : va_P g.1 vwCl ([wLc g a q1 f1 m1 ml1 (nI (n + 1))] : List va_W).flatten _ := hP
  have hD : va_D A ([wLc g a q1 f1 m1 ml1 (nI (n + 1))] : List va_W).flatten := hD
  refine lv_iload_n hx hb dJ5_append_3fe6f_39 rfl (lv_at hl 1 rfl) ?_
  refine lv_i2b (v := sb_b ch) hx hb dJ5_append_3fe6f_40 rfl ?_
  refine va_bast hx hb hK hP hD hS 1 2 rfl rfl (vp_in_nI (by omega) (by omega)) dJ5_append_3fe6f_41 (fun H locs hP hD hS => ?_)
  rw [nI_clamp (n := n) (by omega), show vp_nar .byte (sb_b ch) = sb_b ch from pk_vb _] at hP hD
  refine lv_goto (tgt := 75) hx hb dJ5_append_3fe6f_42 (by decide) ?_
  refine lv_aload_n hx hb dJ5_append_3fe6f_75 rfl (lv_at hl 0 rfl) ?_
  rw [hQ]
  refine jg_aret hx hb hr (Or.inl ⟨_, rfl⟩) hlocks (q1, upd f1 n (sb_b ch), m1, ml1) hP hD hS dJ5_append_3fe6f_76 rfl ⟨⟨by show n + 1 ≤ m1; omega, by show m1 ≤ 402; omega, sb_latPut k3 (fun j hj => ?_) (fun i hi => ?_), sb_fitU e1 (sb_fitB ch)⟩, e3⟩ (by (try dsimp only); omega) (by (try dsimp only); omega)
  · show upd f1 n (sb_b ch) j = f j
    rw [pk_un (by omega)]
    exact e2 j (by show j < m0; omega)
  · obtain rfl : i = 0 := by omega
    exact ⟨hc, pk_us⟩
theorem sc_appendC (g : GG) (l : Launch) (a : Nat) (t : Nat → Nat) (n : Nat) (x : LG) (ch : Nat) (hn : n < 200) (hc : ch < 256) (hk : LK t n x) : MG (G := LG) g l yJ4_append_cf468 cJ4_append_cf468 2 (some (.object "java/lang/StringBuilder")) ({ frames := 5, cells := sb_cap (n + 1) x.2.2.1 - x.2.2.1, slots := 2 * (sb_cap (n + 1) x.2.2.1 - x.2.2.1), locals := 140 } : Room) [.ref a, .int (nI ch)] [wL g a (nI n) x] (sb_cap (n + 1) x.2.2.1 - x.2.2.1) (2 * (sb_cap (n + 1) x.2.2.1 - x.2.2.1)) (fun _ => some (.ref a)) (fun x' => [wL g a (nI (n + 1)) x']) (fun x' => LK (sb_cat t n (fun _ => ch)) (n + 1) x' ∧ x'.2.2.1 = sb_cap (n + 1) x.2.2.1) := by
  refine MG.bg (by decide) (Nat.le_of_ble_eq_true rfl) ?_
  intro p e s m below meth c A Q hQ hx hb hr hml hown hts hts2 hlocks hmn hK hE hA hP hD hS ls hl
  have hl : lv_has ls 2 [(0, .ref a), (1, .int (nI ch))] := hl
  refine lv_aload_n hx hb dJ4_append_cf468_0 rfl (lv_at hl 0 rfl) ?_
  refine lv_iload_n hx hb dJ4_append_cf468_1 rfl (lv_at hl 1 rfl) ?_
  refine cg_SU (hK.1 1 _ rfl).2 (csR := []) (csF := fun x' => [wL g a (nI (n + 1)) x']) (rest := []) hx hb hml hown hts2 hK hE hA hl hP hD hS (sc_appendC5 g l a t n x ch hn hc hk) [0] [] [0] ⟨rfl, rfl⟩ (fun _ => ⟨rfl, rfl, rfl, rfl, rfl, rfl, rfl⟩) ⟨0, 1, _, _, rfl, rfl, rfl⟩ 1 (jb_giSU (WT_in 674 (by decide +kernel) (by decide +kernel)) (WT_in 1770 (by decide +kernel) (by decide +kernel)) (WT_in 221 (by decide +kernel) (by decide +kernel)) (WT_in 675 (by decide +kernel) (by decide +kernel)) (WT_in 6 (by decide +kernel) (by decide +kernel)) (WT_in 676 (by decide +kernel) (by decide +kernel))) ⟨rfl, rfl⟩ (by decide +kernel) ⟨⟨(Nat.le_of_ble_eq_true rfl), (Nat.le_of_ble_eq_true rfl)⟩, (by (try dsimp only); omega), (by (try dsimp only); omega)⟩ ⟨rfl, rfl⟩ (Nat.le_of_ble_eq_true rfl) dJ4_append_cf468_2 (fun x' H locs hx9 hP hD hS => ?_)
  refine lv_pop hx hb dJ4_append_cf468_5 rfl ?_
  refine lv_aload_n hx hb dJ4_append_cf468_6 rfl (lv_at hl 0 rfl) ?_
  rw [hQ]
  exact jg_aret hx hb hr (Or.inl ⟨_, rfl⟩) hlocks x' hP hD hS dJ4_append_cf468_7 rfl hx9 (by (try dsimp only); omega) (by (try dsimp only); omega)
theorem sc_length5 (g : GG) (l : Launch) (a : Nat) (n : Int32) (x : LG) : MG (G := Unit) g l yJ5_length_8abf5 cJ5_length_8abf5 1 (some .int) ({ frames := 0, cells := 0, slots := 0, locals := 0 } : Room) [.ref a] [wL g a n x] 0 0 (fun _ => some (.int n)) (fun _ => [wL g a n x]) (fun _ => True) := by
  refine MG.bg (by decide) (Nat.le_of_ble_eq_true rfl) ?_
  intro p e s m below meth c A Q hQ hx hb hr hml hown hts hts2 hlocks hmn hK hE hA hP hD hS ls hl
  have hl : lv_has ls 1 [(0, .ref a)] := hl
  refine lv_aload_n hx hb dJ5_length_8abf5_0 rfl (lv_at hl 0 rfl) ?_
  refine va_get (D := g.1) (ci := 1) (v := .int n) (C := RJ4) (T := TJ4) (N := 4) hx hb hts inJ4 hown hK hP 0 rfl rfl 3 (by decide) (hts _ (WT_in 212 (by decide +kernel) (by decide +kernel))) (fun _ h9 => h9) rfl dJ5_length_8abf5_1 ?_
  rw [hQ]
  exact jg_zret hx hb hr rfl hlocks () hP hD hS dJ5_length_8abf5_4 rfl trivial (Nat.le_of_ble_eq_true rfl) (Nat.le_of_ble_eq_true rfl)
theorem sc_length (g : GG) (l : Launch) (a : Nat) (n : Int32) (x : LG) : MG (G := Unit) g l yJ4_length_8abf5 cJ4_length_8abf5 1 (some .int) ({ frames := 1, cells := 0, slots := 0, locals := 30 } : Room) [.ref a] [wL g a n x] 0 0 (fun _ => some (.int n)) (fun _ => [wL g a n x]) (fun _ => True) := by
  refine MG.bg (by decide) (Nat.le_of_ble_eq_true rfl) ?_
  intro p e s m below meth c A Q hQ hx hb hr hml hown hts hts2 hlocks hmn hK hE hA hP hD hS ls hl
  have hl : lv_has ls 1 [(0, .ref a)] := hl
  refine lv_aload_n hx hb dJ4_length_8abf5_0 rfl (lv_at hl 0 rfl) ?_
  refine cg_SU (hK.1 1 _ rfl).2 (csR := []) (csF := fun _ => [wL g a n x]) (rest := []) hx hb hml hown hts2 hK hE hA hl hP hD hS (sc_length5 g l a n x) [0] [] [0] ⟨rfl, rfl⟩ (fun _ => ⟨rfl, rfl, rfl, rfl, rfl, rfl, rfl⟩) ⟨0, 1, _, _, rfl, rfl, rfl⟩ 0 (jb_giSU (WT_in 507 (by decide +kernel) (by decide +kernel)) (WT_in 503 (by decide +kernel) (by decide +kernel)) (WT_in 221 (by decide +kernel) (by decide +kernel)) (WT_in 502 (by decide +kernel) (by decide +kernel)) (WT_in 6 (by decide +kernel) (by decide +kernel)) (WT_in 508 (by decide +kernel) (by decide +kernel))) ⟨rfl, rfl⟩ (by decide +kernel) ⟨⟨(Nat.le_of_ble_eq_true rfl), (Nat.le_of_ble_eq_true rfl)⟩, (Nat.le_of_ble_eq_true rfl), (Nat.le_of_ble_eq_true rfl)⟩ ⟨rfl, rfl⟩ (Nat.le_of_ble_eq_true rfl) dJ4_length_8abf5_1 (fun _ H locs _ hP hD hS => ?_)
  rw [hQ]
  exact jg_zret hx hb hr rfl hlocks () hP hD hS dJ4_length_8abf5_4 rfl trivial (Nat.le_of_ble_eq_true rfl) (Nat.le_of_ble_eq_true rfl)
theorem sc_setLength5 (g : GG) (l : Launch) (a : Nat) (t : Nat → Nat) (n : Nat) (x : LG) (hk : LK t n x) : MG (G := LG) g l yJ5_setLength_d00df cJ5_setLength_d00df 2 none ({ frames := 4, cells := 0, slots := 0, locals := 110 } : Room) [.ref a, .int (nI 0)] [wL g a (nI n) x] 0 0 (fun _ => none) (fun x' => [wL g a (nI 0) x']) (fun x' => x'.2.2.1 = x.2.2.1 ∧ sb_Fit x'.2.1) := by
  refine MG.bg (by decide) (Nat.le_of_ble_eq_true rfl) ?_
  intro p e s m below meth c A Q hQ hx hb hr hml hown hts hts2 hlocks hmn hK hE hA hP hD hS ls hl
  obtain ⟨q0, f, m0, ml⟩ := x
  obtain ⟨k1, k2, k3, k4⟩ := hk
  have k1 : n ≤ m0 := k1
  have k2 : m0 ≤ 402 := k2
  have hl : lv_has ls 2 [(0, .ref a), (1, .int (nI 0))] := hl
  refine lv_iload_n hx hb dJ5_setLength_d00df_0 rfl (lv_at hl 1 rfl) ?_
  refine lv_if_ge (tgt := 13) hx hb dJ5_setLength_d00df_1 (by decide) (fun _ => ?_) (fun c1 => absurd (by decide) c1)
  refine lv_aload_n hx hb dJ5_setLength_d00df_13 rfl (lv_at hl 0 rfl) ?_
  refine lv_iload_n hx hb dJ5_setLength_d00df_14 rfl (lv_at hl 1 rfl) ?_
  have hcap : sb_cap 0 m0 = m0 := if_pos (Nat.zero_le _)
  refine cg_U (owner := RJ5) (csR := []) (csF := fun x => [wL g a (nI n) x]) (rest := []) hx hb hml hown hts2 hK hE hA hl hP hD hS (sc_ensure g l a (nI n) (q0, f, m0, ml) 0 k2 (by omega) k4) [0] [] [0] ⟨rfl, rfl⟩ (fun _ => ⟨rfl, rfl, rfl, rfl, rfl, rfl, rfl⟩) ⟨0, 1, _, _, rfl, rfl, rfl⟩ 1 (jb_giU (WT_in 353 (by decide +kernel) (by decide +kernel)) (WT_in 1763 (by decide +kernel) (by decide +kernel)) w2_s1 (WT_in 355 (by decide +kernel) (by decide +kernel)) (WT_in 6 (by decide +kernel) (by decide +kernel)) (WT_in 356 (by decide +kernel) (by decide +kernel))) ⟨rfl, rfl⟩ rfl (by decide +kernel) ⟨⟨(Nat.le_of_ble_eq_true rfl), (Nat.le_of_ble_eq_true rfl)⟩, (by (try dsimp only); omega), (by (try dsimp only); omega)⟩ ⟨rfl, rfl⟩ (Nat.le_of_ble_eq_true rfl) dJ5_setLength_d00df_15 (fun x H locs hx9 hP hD hS => ?_)
  obtain ⟨q1, f1, m1, ml1⟩ := x
  obtain ⟨e1, e2, e3, e4⟩ := hx9
  have e3 : m1 = m0 := (show m1 = sb_cap 0 m0 from e3).trans hcap
  rw [show (0 + (sb_cap 0 (q0, f, m0, ml).2.2.1 - (q0, f, m0, ml).2.2.1)) = 0 by (try dsimp only); omega, show (0 + 2 * (sb_cap 0 (q0, f, m0, ml).2.2.1 - (q0, f, m0, ml).2.2.1)) = 0 by (try dsimp only); omega]
  have fin : ∀ (ml : Int32) (H : Heap) (locs : List Loc), va_P g.1 vwCl ([wL g a (nI n) (q1, f1, m1, ml)] : List va_W).flatten H → va_D A ([wL g a (nI n) (q1, f1, m1, ml)] : List va_W).flatten → va_S A s.heap H locs → W p l e ({ frames := 4, cells := 0, slots := 0, locals := 110 } : Room) s m ([.ref a, .int (nI 0)] : List Value).toArray below meth c H locs 0 0 Q (F0 m 76 ls []) := by
    intro ml H locs hP hD hS
    refine lv_aload_n hx hb dJ5_setLength_d00df_76 rfl (lv_at hl 0 rfl) ?_
    refine lv_iload_n hx hb dJ5_setLength_d00df_77 rfl (lv_at hl 1 rfl) ?_
    refine va_put (D := g.1) (ci := 1) (v := .int (nI 0)) (ty := .int) (C := RJ4) (T := TJ4) (N := 4) hx hb hts inJ4 tyJ4 tyJ4_ok nmJ4 hown hK hP hD hS 0 rfl rfl 3 (by decide) (hts _ (WT_in 212 (by decide +kernel) (by decide +kernel))) (fun _ h9 => h9) rfl (by decide +kernel) rfl rfl (Nat.le_of_ble_eq_true rfl) dJ5_setLength_d00df_78 (fun H locs hP hD hS => ?_)
    rw [hQ]
    exact jg_vret hx hb hr hlocks (q1, f1, m1, ml) hP hD hS dJ5_setLength_d00df_81 rfl ⟨e3, e1⟩ (Nat.le_of_ble_eq_true rfl) (Nat.le_of_ble_eq_true rfl)
  refine lv_aload_n hx hb dJ5_setLength_d00df_18 rfl (lv_at hl 0 rfl) ?_
  refine va_get (D := g.1) (ci := 1) (v := .int (nI n)) (C := RJ4) (T := TJ4) (N := 4) hx hb hts inJ4 hown hK hP 0 rfl rfl 3 (by decide) (hts _ (WT_in 212 (by decide +kernel) (by decide +kernel))) (fun _ h9 => h9) rfl dJ5_setLength_d00df_19 ?_
  refine lv_iload_n hx hb dJ5_setLength_d00df_22 rfl (lv_at hl 1 rfl) ?_
  refine lv_icmp_ge (tgt := 63) hx hb dJ5_setLength_d00df_23 (by decide) (fun _ => ?_) (fun c1 => absurd (nI_le (Nat.zero_le n) (by omega)) c1)
  refine lv_aload_n hx hb dJ5_setLength_d00df_63 rfl (lv_at hl 0 rfl) ?_
  refine va_get (D := g.1) (ci := 1) (v := .int (nI n)) (C := RJ4) (T := TJ4) (N := 4) hx hb hts inJ4 hown hK hP 0 rfl rfl 3 (by decide) (hts _ (WT_in 212 (by decide +kernel) (by decide +kernel))) (fun _ h9 => h9) rfl dJ5_setLength_d00df_64 ?_
  refine lv_iload_n hx hb dJ5_setLength_d00df_67 rfl (lv_at hl 1 rfl) ?_
  refine lv_icmp_le (tgt := 76) hx hb dJ5_setLength_d00df_68 (by decide) (fun _ => fin ml1 H locs hP hD hS) (fun _ => ?_)
  refine lv_aload_n hx hb dJ5_setLength_d00df_71 rfl (lv_at hl 0 rfl) ?_
  refine lv_iconst (v := 1) hx hb dJ5_setLength_d00df_72 (by decide) ?_
  refine va_put (D := g.1) (ci := 1) (v := .int 1) (ty := .boolean) (C := RJ4) (T := TJ4) (N := 4) hx hb hts inJ4 tyJ4 tyJ4_ok nmJ4 hown hK hP hD hS 0 rfl rfl 2 (by decide) (hts _ (WT_in 210 (by decide +kernel) (by decide +kernel))) (fun _ h9 => h9) rfl (by decide +kernel) rfl rfl (Nat.le_of_ble_eq_true rfl) dJ5_setLength_d00df_73 (fun H locs hP hD hS => ?_)
  exact fin 1 H locs hP hD hS
theorem sc_setLength (g : GG) (l : Launch) (a : Nat) (t : Nat → Nat) (n : Nat) (x : LG) (hk : LK t n x) : MG (G := LG) g l yJ4_setLength_d00df cJ4_setLength_d00df 2 none ({ frames := 5, cells := 0, slots := 0, locals := 140 } : Room) [.ref a, .int (nI 0)] [wL g a (nI n) x] 0 0 (fun _ => none) (fun x' => [wL g a (nI 0) x']) (fun x' => x'.2.2.1 = x.2.2.1 ∧ sb_Fit x'.2.1) := by
  refine MG.bg (by decide) (Nat.le_of_ble_eq_true rfl) ?_
  intro p e s m below meth c A Q hQ hx hb hr hml hown hts hts2 hlocks hmn hK hE hA hP hD hS ls hl
  have hl : lv_has ls 2 [(0, .ref a), (1, .int (nI 0))] := hl
  refine lv_aload_n hx hb dJ4_setLength_d00df_0 rfl (lv_at hl 0 rfl) ?_
  refine lv_iload_n hx hb dJ4_setLength_d00df_1 rfl (lv_at hl 1 rfl) ?_
  refine cg_SU (hK.1 1 _ rfl).2 (csR := []) (csF := fun x' => [wL g a (nI 0) x']) (rest := []) hx hb hml hown hts2 hK hE hA hl hP hD hS (sc_setLength5 g l a t n x hk) [0] [] [0] ⟨rfl, rfl⟩ (fun _ => ⟨rfl, rfl, rfl, rfl, rfl, rfl, rfl⟩) ⟨0, 1, _, _, rfl, rfl, rfl⟩ 1 (jb_giSU (WT_in 331 (by decide +kernel) (by decide +kernel)) (WT_in 1760 (by decide +kernel) (by decide +kernel)) (WT_in 221 (by decide +kernel) (by decide +kernel)) (WT_in 332 (by decide +kernel) (by decide +kernel)) (WT_in 6 (by decide +kernel) (by decide +kernel)) (WT_in 333 (by decide +kernel) (by decide +kernel))) ⟨rfl, rfl⟩ (by decide +kernel) ⟨⟨(Nat.le_of_ble_eq_true rfl), (Nat.le_of_ble_eq_true rfl)⟩, (Nat.le_of_ble_eq_true rfl), (Nat.le_of_ble_eq_true rfl)⟩ ⟨rfl, rfl⟩ (Nat.le_of_ble_eq_true rfl) dJ4_setLength_d00df_2 (fun x' H locs hx9 hP hD hS => ?_)
  rw [hQ]
  exact jg_vret hx hb hr hlocks x' hP hD hS dJ4_setLength_d00df_5 rfl hx9 (Nat.le_of_ble_eq_true rfl) (Nat.le_of_ble_eq_true rfl)
theorem sc_charAt5 (g : GG) (l : Launch) (a : Nat) (t : Nat → Nat) (n : Nat) (x : LG) (i : Nat) (hk : LK t n x) (hi : i < n) : MG (G := Unit) g l yJ5_charAt_5068e cJ5_charAt_5068e 5 (some .char) ({ frames := 2, cells := 0, slots := 0, locals := 60 } : Room) [.ref a, .int (nI i)] [wL g a (nI n) x] 0 0 (fun _ => some (.int (nI (t i)))) (fun _ => [wL g a (nI n) x]) (fun _ => True) := by
  refine MG.bg (by decide) (Nat.le_of_ble_eq_true rfl) ?_
  intro p e s m below meth c A Q hQ hx hb hr hml hown hts hts2 hlocks hmn hK hE hA hP hD hS ls hl
  obtain ⟨q0, f, m0, ml⟩ := x
  obtain ⟨k1, k2, k3, k4⟩ := hk
  have k1 : n ≤ m0 := k1
  have k2 : m0 ≤ 402 := k2
  obtain ⟨h1, h2⟩ := k3 i hi
  obtain ⟨b1, b2, -⟩ := sb_byte _ h1
  have h2 : f i = sb_b (t i) := h2
  have hl : lv_has ls 5 [(0, .ref a), (1, .int (nI i))] := hl
  refine lv_aload_n hx hb dJ5_charAt_5068e_0 rfl (lv_at hl 0 rfl) ?_
  refine va_get (D := g.1) (ci := 1) (v := .int 0) (C := RJ4) (T := TJ4) (N := 4) hx hb hts inJ4 hown hK hP 0 rfl rfl 1 (by decide) (hts _ (WT_in 209 (by decide +kernel) (by decide +kernel))) (fun _ h9 => h9) rfl dJ5_charAt_5068e_1 ?_
  refine lv_istore_n (lv' := [(2, .int 0), (0, .ref a), (1, .int (nI i))]) hx hb dJ5_charAt_5068e_4 rfl hl (by decide) rfl (fun ls hl => ?_)
  refine lv_aload_n hx hb dJ5_charAt_5068e_5 rfl (lv_at hl 1 rfl) ?_
  refine va_get (D := g.1) (ci := 1) (v := .ref q0) (C := RJ4) (T := TJ4) (N := 4) hx hb hts inJ4 hown hK hP 0 rfl rfl 0 (by decide) (hts _ (WT_in 208 (by decide +kernel) (by decide +kernel))) (fun _ h9 => h9) rfl dJ5_charAt_5068e_6 ?_
  refine lv_astore_n (lv' := [(3, .ref q0), (2, .int 0), (0, .ref a), (1, .int (nI i))]) hx hb dJ5_charAt_5068e_9 rfl hl (by decide) rfl (fun ls hl => ?_)
  refine lv_aload_n hx hb dJ5_charAt_5068e_10 rfl (lv_at hl 2 rfl) ?_
  refine va_get (D := g.1) (ci := 1) (v := .int (nI n)) (C := RJ4) (T := TJ4) (N := 4) hx hb hts inJ4 hown hK hP 0 rfl rfl 3 (by decide) (hts _ (WT_in 212 (by decide +kernel) (by decide +kernel))) (fun _ h9 => h9) rfl dJ5_charAt_5068e_11 ?_
  refine lv_aload_n hx hb dJ5_charAt_5068e_14 rfl (lv_at hl 0 rfl) ?_
  refine va_alen hx hb hK hP 1 2 rfl rfl (v := nI m0) rfl dJ5_charAt_5068e_15 ?_
  refine lv_iload_n hx hb dJ5_charAt_5068e_16 rfl (lv_at hl 1 rfl) ?_
  refine lv_ishr hx hb dJ5_charAt_5068e_17 (jt_i (sb_shr0 _) ?_)
  refine va_mmin hx hb (hml.trans hl.1.symm) hown (hts _ (WT_in 1255 (by decide +kernel) (by decide +kernel))) (hts _ (WT_in 293 (by decide +kernel) (by decide +kernel))) (hts _ (WT_in 11 (by decide +kernel) (by decide +kernel))) (hts _ (WT_in 294 (by decide +kernel) (by decide +kernel))) (Nat.le_of_ble_eq_true rfl) (Nat.le_of_ble_eq_true rfl) (Nat.le_of_ble_eq_true rfl) (Nat.le_of_ble_eq_true rfl) dJ5_charAt_5068e_18 ?_
  refine jt_i (y := nI n) (if_neg (nI_nlt (by omega) (by omega))) ?_
  refine lv_istore (lv' := [(4, .int (nI n)), (3, .ref q0), (2, .int 0), (0, .ref a), (1, .int (nI i))]) hx hb dJ5_charAt_5068e_21 hl (by decide) rfl (fun ls hl => ?_)
  refine lv_iload_n hx hb dJ5_charAt_5068e_23 rfl (lv_at hl 4 rfl) ?_
  refine lv_iload hx hb dJ5_charAt_5068e_24 (lv_at hl 0 rfl) ?_
  refine cl_svG (csR := [wL g a (nI n) (q0, f, m0, ml)]) (csF := [wL g a (nI n) (q0, f, m0, ml)]) (rest := []) hx hb hml hown hts hK hE hA hl hP hD hS (c_J0_checkIndex g l (nI i) (nI n) (nI_pos (by omega)) (nI_lt hi (by omega))) [] [0] [0] ⟨rfl, rfl, rfl, rfl, rfl, rfl, rfl⟩ 2 (jb_giG (WT_in 1256 (by decide +kernel) (by decide +kernel)) (WT_in 687 (by decide +kernel) (by decide +kernel)) (WT_in 8 (by decide +kernel) (by decide +kernel)) (WT_in 688 (by decide +kernel) (by decide +kernel))) ⟨rfl, rfl⟩ (by decide +kernel) ⟨⟨(Nat.le_of_ble_eq_true rfl), (Nat.le_of_ble_eq_true rfl)⟩, (Nat.le_of_ble_eq_true rfl), (Nat.le_of_ble_eq_true rfl)⟩ ⟨rfl, rfl⟩ (Nat.le_of_ble_eq_true rfl) dJ5_charAt_5068e_26 (fun H locs hP hD hS => ?_)
  refine lv_iload_n hx hb dJ5_charAt_5068e_29 rfl (lv_at hl 2 rfl) ?_
  refine lv_if_ne (tgt := 42) hx hb dJ5_charAt_5068e_30 (by decide) (fun c1 => absurd rfl c1) (fun _ => ?_)
  refine lv_aload_n hx hb dJ5_charAt_5068e_33 rfl (lv_at hl 1 rfl) ?_
  refine lv_iload_n hx hb dJ5_charAt_5068e_34 rfl (lv_at hl 4 rfl) ?_
  refine va_bald hx hb hK hP 1 2 rfl rfl (vp_in_nI (by omega) (by omega)) dJ5_charAt_5068e_35 ?_
  refine jt_i (y := sb_b (t i)) (by rw [nI_clamp (by omega)]; exact h2) ?_
  refine lv_sipush (v := 255) hx hb dJ5_charAt_5068e_36 (by decide) ?_
  refine lv_iand hx hb dJ5_charAt_5068e_39 (jt_i b1 ?_)
  refine lv_i2c (v := nI (t i)) hx hb dJ5_charAt_5068e_40 b2 ?_
  rw [hQ]
  exact jg_zret hx hb hr (by rw [← b2]; exact pk_nc _) hlocks () hP hD hS dJ5_charAt_5068e_41 rfl trivial (Nat.le_of_ble_eq_true rfl) (Nat.le_of_ble_eq_true rfl)
theorem sc_charAt (g : GG) (l : Launch) (a : Nat) (t : Nat → Nat) (n : Nat) (x : LG) (i : Nat) (hk : LK t n x) (hi : i < n) : MG (G := Unit) g l yJ4_charAt_5068e cJ4_charAt_5068e 2 (some .char) ({ frames := 3, cells := 0, slots := 0, locals := 90 } : Room) [.ref a, .int (nI i)] [wL g a (nI n) x] 0 0 (fun _ => some (.int (nI (t i)))) (fun _ => [wL g a (nI n) x]) (fun _ => True) := by
  refine MG.bg (by decide) (Nat.le_of_ble_eq_true rfl) ?_
  intro p e s m below meth c A Q hQ hx hb hr hml hown hts hts2 hlocks hmn hK hE hA hP hD hS ls hl
  obtain ⟨h1, h2⟩ := hk.2.2.1 i hi
  obtain ⟨b1, b2, -⟩ := sb_byte _ h1
  have hl : lv_has ls 2 [(0, .ref a), (1, .int (nI i))] := hl
  refine lv_aload_n hx hb dJ4_charAt_5068e_0 rfl (lv_at hl 0 rfl) ?_
  refine lv_iload_n hx hb dJ4_charAt_5068e_1 rfl (lv_at hl 1 rfl) ?_
  refine cg_SU (hK.1 1 _ rfl).2 (csR := []) (csF := fun _ => [wL g a (nI n) x]) (rest := []) hx hb hml hown hts2 hK hE hA hl hP hD hS (sc_charAt5 g l a t n x i hk hi) [0] [] [0] ⟨rfl, rfl⟩ (fun _ => ⟨rfl, rfl, rfl, rfl, rfl, rfl, rfl⟩) ⟨0, 1, _, _, rfl, rfl, rfl⟩ 1 (jb_giSU (WT_in 1252 (by decide +kernel) (by decide +kernel)) (WT_in 1772 (by decide +kernel) (by decide +kernel)) (WT_in 221 (by decide +kernel) (by decide +kernel)) (WT_in 1253 (by decide +kernel) (by decide +kernel)) (WT_in 6 (by decide +kernel) (by decide +kernel)) (WT_in 1254 (by decide +kernel) (by decide +kernel))) ⟨rfl, rfl⟩ (by decide +kernel) ⟨⟨(Nat.le_of_ble_eq_true rfl), (Nat.le_of_ble_eq_true rfl)⟩, (Nat.le_of_ble_eq_true rfl), (Nat.le_of_ble_eq_true rfl)⟩ ⟨rfl, rfl⟩ (Nat.le_of_ble_eq_true rfl) dJ4_charAt_5068e_2 (fun _ H locs _ hP hD hS => ?_)
  rw [hQ]
  exact jg_zret hx hb hr (by rw [← b2]; exact pk_nc _) hlocks () hP hD hS dJ4_charAt_5068e_5 rfl trivial (Nat.le_of_ble_eq_true rfl) (Nat.le_of_ble_eq_true rfl)
theorem sl_dg1 {v : Nat} (h1 : 0 ≤ v) (h2 : v < 10) : sb_dg v = 1 := by
  rw [sb_dg, if_pos h2]
theorem sl_dg2 {v : Nat} (h1 : 10 ≤ v) (h2 : v < 100) : sb_dg v = 2 := by
  rw [sb_dg, if_neg (show ¬ v < 10 by omega), if_pos h2]
theorem sl_dg3 {v : Nat} (h1 : 100 ≤ v) (h2 : v < 1000) : sb_dg v = 3 := by
  rw [sb_dg, if_neg (show ¬ v < 10 by omega), if_neg (show ¬ v < 100 by omega), if_pos h2]
theorem sl_dg4 {v : Nat} (h1 : 1000 ≤ v) (h2 : v < 10000) : sb_dg v = 4 := by
  rw [sb_dg, if_neg (show ¬ v < 10 by omega), if_neg (show ¬ v < 100 by omega), if_neg (show ¬ v < 1000 by omega), if_pos h2]
theorem sl_dg5 {v : Nat} (h1 : 10000 ≤ v) (h2 : v < 100000) : sb_dg v = 5 := by
  rw [sb_dg, if_neg (show ¬ v < 10 by omega), if_neg (show ¬ v < 100 by omega), if_neg (show ¬ v < 1000 by omega), if_neg (show ¬ v < 10000 by omega), if_pos h2]
theorem sl_dg6 {v : Nat} (h1 : 100000 ≤ v) (h2 : v < 1000000) : sb_dg v = 6 := by
  rw [sb_dg, if_neg (show ¬ v < 10 by omega), if_neg (show ¬ v < 100 by omega), if_neg (show ¬ v < 1000 by omega), if_neg (show ¬ v < 10000 by omega), if_neg (show ¬ v < 100000 by omega), if_pos h2]
theorem sl_dg7 {v : Nat} (h1 : 1000000 ≤ v) (h2 : v < 10000000) : sb_dg v = 7 := by
  rw [sb_dg, if_neg (show ¬ v < 10 by omega), if_neg (show ¬ v < 100 by omega), if_neg (show ¬ v < 1000 by omega), if_neg (show ¬ v < 10000 by omega), if_neg (show ¬ v < 100000 by omega), if_neg (show ¬ v < 1000000 by omega), if_pos h2]
theorem sl_dg8 {v : Nat} (h1 : 10000000 ≤ v) (h2 : v < 100000000) : sb_dg v = 8 := by
  rw [sb_dg, if_neg (show ¬ v < 10 by omega), if_neg (show ¬ v < 100 by omega), if_neg (show ¬ v < 1000 by omega), if_neg (show ¬ v < 10000 by omega), if_neg (show ¬ v < 100000 by omega), if_neg (show ¬ v < 1000000 by omega), if_neg (show ¬ v < 10000000 by omega), if_pos h2]
theorem sl_dg9 {v : Nat} (h1 : 100000000 ≤ v) (h2 : v < 1000000000) : sb_dg v = 9 := by
  rw [sb_dg, if_neg (show ¬ v < 10 by omega), if_neg (show ¬ v < 100 by omega), if_neg (show ¬ v < 1000 by omega), if_neg (show ¬ v < 10000 by omega), if_neg (show ¬ v < 100000 by omega), if_neg (show ¬ v < 1000000 by omega), if_neg (show ¬ v < 10000000 by omega), if_neg (show ¬ v < 100000000 by omega), if_pos h2]
theorem sl_dg10 {v : Nat} (h1 : 1000000000 ≤ v) (h2 : True) : sb_dg v = 10 := by
  rw [sb_dg, if_neg (show ¬ v < 10 by omega), if_neg (show ¬ v < 100 by omega), if_neg (show ¬ v < 1000 by omega), if_neg (show ¬ v < 10000 by omega), if_neg (show ¬ v < 100000 by omega), if_neg (show ¬ v < 1000000 by omega), if_neg (show ¬ v < 10000000 by omega), if_neg (show ¬ v < 100000000 by omega), if_neg (show ¬ v < 1000000000 by omega)]
set_option maxHeartbeats 4000000 in
theorem sc_stringSize (g : GG) (l : Launch) (v : Nat) (hv : v < 2 ^ 31) : MG (G := Unit) g l yJ6_stringSize_0f7a4 cJ6_stringSize_0f7a4 4 (some .int) ({ frames := 0, cells := 0, slots := 0, locals := 0 } : Room) [.int (nI v)] [] 0 0 (fun _ => some (.int (nI (sb_dg v)))) (fun _ => []) (fun _ => True) := by
  refine MG.bg (by decide) (Nat.le_of_ble_eq_true rfl) ?_
  intro p e s m below meth c A Q hQ hx hb hr hml hown hts hts2 hlocks hmn hK hE hA hP hD hS ls hl
  have hl : lv_has ls 4 [(0, .int (nI v))] := hl
  refine lv_iconst (v := 1) hx hb dJ6_stringSize_0f7a4_0 (by decide) ?_
  refine lv_istore_n (lv' := [(1, .int 1), (0, .int (nI v))]) hx hb dJ6_stringSize_0f7a4_1 rfl hl (by decide) rfl (fun ls hl => ?_)
  refine lv_iload_n hx hb dJ6_stringSize_0f7a4_2 rfl (lv_at hl 1 rfl) ?_
  refine lv_if_lt (tgt := 11) hx hb dJ6_stringSize_0f7a4_3 (by decide) (fun c1 => absurd c1 (nI_pos hv)) (fun _ => ?_)
  refine lv_iconst (v := 0) hx hb dJ6_stringSize_0f7a4_6 (by decide) ?_
  refine lv_istore_n (lv' := [(1, .int 0), (0, .int (nI v))]) hx hb dJ6_stringSize_0f7a4_7 rfl hl (by decide) rfl (fun ls hl => ?_)
  refine lv_iload_n hx hb dJ6_stringSize_0f7a4_8 rfl (lv_at hl 1 rfl) ?_
  refine lv_ineg hx hb dJ6_stringSize_0f7a4_9 ?_
  refine lv_istore_n (lv' := [(0, .int (-nI v)), (1, .int 0)]) hx hb dJ6_stringSize_0f7a4_10 rfl hl (by decide) rfl (fun ls hl => ?_)
  refine lv_bipush (v := (-10)) hx hb dJ6_stringSize_0f7a4_11 (by decide) ?_
  refine lv_istore_n (lv' := [(2, .int (-10)), (0, .int (-nI v)), (1, .int 0)]) hx hb dJ6_stringSize_0f7a4_13 rfl hl (by decide) rfl (fun ls hl => ?_)
  refine lv_iconst (v := 1) hx hb dJ6_stringSize_0f7a4_14 (by decide) ?_
  refine lv_istore_n (lv' := [(3, .int 1), (2, .int (-10)), (0, .int (-nI v)), (1, .int 0)]) hx hb dJ6_stringSize_0f7a4_15 rfl hl (by decide) rfl (fun ls hl => ?_)
  refine lv_iload_n hx hb dJ6_stringSize_0f7a4_16 rfl (lv_at hl 0 rfl) ?_
  refine lv_bipush (v := 10) hx hb dJ6_stringSize_0f7a4_17 (by decide) ?_
  refine lv_icmp_ge (tgt := 42) hx hb dJ6_stringSize_0f7a4_19 (by decide) (fun c1 => absurd c1 (by decide)) (fun _ => ?_)
  refine lv_iload_n hx hb dJ6_stringSize_0f7a4_22 rfl (lv_at hl 2 rfl) ?_
  refine lv_iload_n hx hb dJ6_stringSize_0f7a4_23 rfl (lv_at hl 1 rfl) ?_
  refine lv_icmp_le (tgt := 31) hx hb dJ6_stringSize_0f7a4_24 (by decide) (fun c1 => ?_) (fun c1 => ?_)
  rotate_left
  · have c9 : ¬ 10 ≤ v := fun z9 => c1 (show -nI v ≤ -nI 10 from (sb_nle hv (by decide)).mpr z9)
    have hdg : sb_dg v = 1 := sl_dg1 (by omega) (by omega)
    refine lv_iload_n hx hb dJ6_stringSize_0f7a4_27 rfl (lv_at hl 0 rfl) ?_
    refine lv_iload_n hx hb dJ6_stringSize_0f7a4_28 rfl (lv_at hl 3 rfl) ?_
    refine lv_iadd hx hb dJ6_stringSize_0f7a4_29 (jt_i (y := nI (sb_dg v)) (by rw [hdg]; decide) ?_)
    rw [hQ]
    exact jg_zret hx hb hr rfl hlocks () hP hD hS dJ6_stringSize_0f7a4_30 rfl trivial (Nat.le_of_ble_eq_true rfl) (Nat.le_of_ble_eq_true rfl)
  have c1 : 10 ≤ v := (sb_nle hv (by decide)).mp (show -nI v ≤ -nI 10 from c1)
  refine lv_bipush (v := 10) hx hb dJ6_stringSize_0f7a4_31 (by decide) ?_
  refine lv_iload_n hx hb dJ6_stringSize_0f7a4_33 rfl (lv_at hl 1 rfl) ?_
  refine lv_imul hx hb dJ6_stringSize_0f7a4_34 (jt_i (y := (-100)) (by decide) ?_)
  refine lv_istore_n (lv' := [(2, .int (-100)), (3, .int 1), (0, .int (-nI v)), (1, .int 0)]) hx hb dJ6_stringSize_0f7a4_35 rfl hl (by decide) rfl (fun ls hl => ?_)
  refine lv_iinc (v := 2) (lv' := [(3, .int 2), (2, .int (-100)), (0, .int (-nI v)), (1, .int 0)]) hx hb dJ6_stringSize_0f7a4_36 hl (k := 1) rfl (by decide) (by decide) rfl (fun ls hl => ?_)
  refine lv_goto (tgt := 16) hx hb dJ6_stringSize_0f7a4_39 (by decide) ?_
  refine lv_iload_n hx hb dJ6_stringSize_0f7a4_16 rfl (lv_at hl 0 rfl) ?_
  refine lv_bipush (v := 10) hx hb dJ6_stringSize_0f7a4_17 (by decide) ?_
  refine lv_icmp_ge (tgt := 42) hx hb dJ6_stringSize_0f7a4_19 (by decide) (fun c1 => absurd c1 (by decide)) (fun _ => ?_)
  refine lv_iload_n hx hb dJ6_stringSize_0f7a4_22 rfl (lv_at hl 2 rfl) ?_
  refine lv_iload_n hx hb dJ6_stringSize_0f7a4_23 rfl (lv_at hl 1 rfl) ?_
  refine lv_icmp_le (tgt := 31) hx hb dJ6_stringSize_0f7a4_24 (by decide) (fun c2 => ?_) (fun c2 => ?_)
  rotate_left
  · have c9 : ¬ 100 ≤ v := fun z9 => c2 (show -nI v ≤ -nI 100 from (sb_nle hv (by decide)).mpr z9)
    have hdg : sb_dg v = 2 := sl_dg2 (by omega) (by omega)
    refine lv_iload_n hx hb dJ6_stringSize_0f7a4_27 rfl (lv_at hl 0 rfl) ?_
    refine lv_iload_n hx hb dJ6_stringSize_0f7a4_28 rfl (lv_at hl 3 rfl) ?_
    refine lv_iadd hx hb dJ6_stringSize_0f7a4_29 (jt_i (y := nI (sb_dg v)) (by rw [hdg]; decide) ?_)
    rw [hQ]
    exact jg_zret hx hb hr rfl hlocks () hP hD hS dJ6_stringSize_0f7a4_30 rfl trivial (Nat.le_of_ble_eq_true rfl) (Nat.le_of_ble_eq_true rfl)
  have c2 : 100 ≤ v := (sb_nle hv (by decide)).mp (show -nI v ≤ -nI 100 from c2)
  refine lv_bipush (v := 10) hx hb dJ6_stringSize_0f7a4_31 (by decide) ?_
  refine lv_iload_n hx hb dJ6_stringSize_0f7a4_33 rfl (lv_at hl 1 rfl) ?_
  refine lv_imul hx hb dJ6_stringSize_0f7a4_34 (jt_i (y := (-1000)) (by decide) ?_)
  refine lv_istore_n (lv' := [(2, .int (-1000)), (3, .int 2), (0, .int (-nI v)), (1, .int 0)]) hx hb dJ6_stringSize_0f7a4_35 rfl hl (by decide) rfl (fun ls hl => ?_)
  refine lv_iinc (v := 3) (lv' := [(3, .int 3), (2, .int (-1000)), (0, .int (-nI v)), (1, .int 0)]) hx hb dJ6_stringSize_0f7a4_36 hl (k := 1) rfl (by decide) (by decide) rfl (fun ls hl => ?_)
  refine lv_goto (tgt := 16) hx hb dJ6_stringSize_0f7a4_39 (by decide) ?_
  refine lv_iload_n hx hb dJ6_stringSize_0f7a4_16 rfl (lv_at hl 0 rfl) ?_
  refine lv_bipush (v := 10) hx hb dJ6_stringSize_0f7a4_17 (by decide) ?_
  refine lv_icmp_ge (tgt := 42) hx hb dJ6_stringSize_0f7a4_19 (by decide) (fun c1 => absurd c1 (by decide)) (fun _ => ?_)
  refine lv_iload_n hx hb dJ6_stringSize_0f7a4_22 rfl (lv_at hl 2 rfl) ?_
  refine lv_iload_n hx hb dJ6_stringSize_0f7a4_23 rfl (lv_at hl 1 rfl) ?_
  refine lv_icmp_le (tgt := 31) hx hb dJ6_stringSize_0f7a4_24 (by decide) (fun c3 => ?_) (fun c3 => ?_)
  rotate_left
  · have c9 : ¬ 1000 ≤ v := fun z9 => c3 (show -nI v ≤ -nI 1000 from (sb_nle hv (by decide)).mpr z9)
    have hdg : sb_dg v = 3 := sl_dg3 (by omega) (by omega)
    refine lv_iload_n hx hb dJ6_stringSize_0f7a4_27 rfl (lv_at hl 0 rfl) ?_
    refine lv_iload_n hx hb dJ6_stringSize_0f7a4_28 rfl (lv_at hl 3 rfl) ?_
    refine lv_iadd hx hb dJ6_stringSize_0f7a4_29 (jt_i (y := nI (sb_dg v)) (by rw [hdg]; decide) ?_)
    rw [hQ]
    exact jg_zret hx hb hr rfl hlocks () hP hD hS dJ6_stringSize_0f7a4_30 rfl trivial (Nat.le_of_ble_eq_true rfl) (Nat.le_of_ble_eq_true rfl)
  have c3 : 1000 ≤ v := (sb_nle hv (by decide)).mp (show -nI v ≤ -nI 1000 from c3)
  refine lv_bipush (v := 10) hx hb dJ6_stringSize_0f7a4_31 (by decide) ?_
  refine lv_iload_n hx hb dJ6_stringSize_0f7a4_33 rfl (lv_at hl 1 rfl) ?_
  refine lv_imul hx hb dJ6_stringSize_0f7a4_34 (jt_i (y := (-10000)) (by decide) ?_)
  refine lv_istore_n (lv' := [(2, .int (-10000)), (3, .int 3), (0, .int (-nI v)), (1, .int 0)]) hx hb dJ6_stringSize_0f7a4_35 rfl hl (by decide) rfl (fun ls hl => ?_)
  refine lv_iinc (v := 4) (lv' := [(3, .int 4), (2, .int (-10000)), (0, .int (-nI v)), (1, .int 0)]) hx hb dJ6_stringSize_0f7a4_36 hl (k := 1) rfl (by decide) (by decide) rfl (fun ls hl => ?_)
  refine lv_goto (tgt := 16) hx hb dJ6_stringSize_0f7a4_39 (by decide) ?_
  refine lv_iload_n hx hb dJ6_stringSize_0f7a4_16 rfl (lv_at hl 0 rfl) ?_
  refine lv_bipush (v := 10) hx hb dJ6_stringSize_0f7a4_17 (by decide) ?_
  refine lv_icmp_ge (tgt := 42) hx hb dJ6_stringSize_0f7a4_19 (by decide) (fun c1 => absurd c1 (by decide)) (fun _ => ?_)
  refine lv_iload_n hx hb dJ6_stringSize_0f7a4_22 rfl (lv_at hl 2 rfl) ?_
  refine lv_iload_n hx hb dJ6_stringSize_0f7a4_23 rfl (lv_at hl 1 rfl) ?_
  refine lv_icmp_le (tgt := 31) hx hb dJ6_stringSize_0f7a4_24 (by decide) (fun c4 => ?_) (fun c4 => ?_)
  rotate_left
  · have c9 : ¬ 10000 ≤ v := fun z9 => c4 (show -nI v ≤ -nI 10000 from (sb_nle hv (by decide)).mpr z9)
    have hdg : sb_dg v = 4 := sl_dg4 (by omega) (by omega)
    refine lv_iload_n hx hb dJ6_stringSize_0f7a4_27 rfl (lv_at hl 0 rfl) ?_
    refine lv_iload_n hx hb dJ6_stringSize_0f7a4_28 rfl (lv_at hl 3 rfl) ?_
    refine lv_iadd hx hb dJ6_stringSize_0f7a4_29 (jt_i (y := nI (sb_dg v)) (by rw [hdg]; decide) ?_)
    rw [hQ]
    exact jg_zret hx hb hr rfl hlocks () hP hD hS dJ6_stringSize_0f7a4_30 rfl trivial (Nat.le_of_ble_eq_true rfl) (Nat.le_of_ble_eq_true rfl)
  have c4 : 10000 ≤ v := (sb_nle hv (by decide)).mp (show -nI v ≤ -nI 10000 from c4)
  refine lv_bipush (v := 10) hx hb dJ6_stringSize_0f7a4_31 (by decide) ?_
  refine lv_iload_n hx hb dJ6_stringSize_0f7a4_33 rfl (lv_at hl 1 rfl) ?_
  refine lv_imul hx hb dJ6_stringSize_0f7a4_34 (jt_i (y := (-100000)) (by decide) ?_)
  refine lv_istore_n (lv' := [(2, .int (-100000)), (3, .int 4), (0, .int (-nI v)), (1, .int 0)]) hx hb dJ6_stringSize_0f7a4_35 rfl hl (by decide) rfl (fun ls hl => ?_)
  refine lv_iinc (v := 5) (lv' := [(3, .int 5), (2, .int (-100000)), (0, .int (-nI v)), (1, .int 0)]) hx hb dJ6_stringSize_0f7a4_36 hl (k := 1) rfl (by decide) (by decide) rfl (fun ls hl => ?_)
  refine lv_goto (tgt := 16) hx hb dJ6_stringSize_0f7a4_39 (by decide) ?_
  refine lv_iload_n hx hb dJ6_stringSize_0f7a4_16 rfl (lv_at hl 0 rfl) ?_
  refine lv_bipush (v := 10) hx hb dJ6_stringSize_0f7a4_17 (by decide) ?_
  refine lv_icmp_ge (tgt := 42) hx hb dJ6_stringSize_0f7a4_19 (by decide) (fun c1 => absurd c1 (by decide)) (fun _ => ?_)
  refine lv_iload_n hx hb dJ6_stringSize_0f7a4_22 rfl (lv_at hl 2 rfl) ?_
  refine lv_iload_n hx hb dJ6_stringSize_0f7a4_23 rfl (lv_at hl 1 rfl) ?_
  refine lv_icmp_le (tgt := 31) hx hb dJ6_stringSize_0f7a4_24 (by decide) (fun c5 => ?_) (fun c5 => ?_)
  rotate_left
  · have c9 : ¬ 100000 ≤ v := fun z9 => c5 (show -nI v ≤ -nI 100000 from (sb_nle hv (by decide)).mpr z9)
    have hdg : sb_dg v = 5 := sl_dg5 (by omega) (by omega)
    refine lv_iload_n hx hb dJ6_stringSize_0f7a4_27 rfl (lv_at hl 0 rfl) ?_
    refine lv_iload_n hx hb dJ6_stringSize_0f7a4_28 rfl (lv_at hl 3 rfl) ?_
    refine lv_iadd hx hb dJ6_stringSize_0f7a4_29 (jt_i (y := nI (sb_dg v)) (by rw [hdg]; decide) ?_)
    rw [hQ]
    exact jg_zret hx hb hr rfl hlocks () hP hD hS dJ6_stringSize_0f7a4_30 rfl trivial (Nat.le_of_ble_eq_true rfl) (Nat.le_of_ble_eq_true rfl)
  have c5 : 100000 ≤ v := (sb_nle hv (by decide)).mp (show -nI v ≤ -nI 100000 from c5)
  refine lv_bipush (v := 10) hx hb dJ6_stringSize_0f7a4_31 (by decide) ?_
  refine lv_iload_n hx hb dJ6_stringSize_0f7a4_33 rfl (lv_at hl 1 rfl) ?_
  refine lv_imul hx hb dJ6_stringSize_0f7a4_34 (jt_i (y := (-1000000)) (by decide) ?_)
  refine lv_istore_n (lv' := [(2, .int (-1000000)), (3, .int 5), (0, .int (-nI v)), (1, .int 0)]) hx hb dJ6_stringSize_0f7a4_35 rfl hl (by decide) rfl (fun ls hl => ?_)
  refine lv_iinc (v := 6) (lv' := [(3, .int 6), (2, .int (-1000000)), (0, .int (-nI v)), (1, .int 0)]) hx hb dJ6_stringSize_0f7a4_36 hl (k := 1) rfl (by decide) (by decide) rfl (fun ls hl => ?_)
  refine lv_goto (tgt := 16) hx hb dJ6_stringSize_0f7a4_39 (by decide) ?_
  refine lv_iload_n hx hb dJ6_stringSize_0f7a4_16 rfl (lv_at hl 0 rfl) ?_
  refine lv_bipush (v := 10) hx hb dJ6_stringSize_0f7a4_17 (by decide) ?_
  refine lv_icmp_ge (tgt := 42) hx hb dJ6_stringSize_0f7a4_19 (by decide) (fun c1 => absurd c1 (by decide)) (fun _ => ?_)
  refine lv_iload_n hx hb dJ6_stringSize_0f7a4_22 rfl (lv_at hl 2 rfl) ?_
  refine lv_iload_n hx hb dJ6_stringSize_0f7a4_23 rfl (lv_at hl 1 rfl) ?_
  refine lv_icmp_le (tgt := 31) hx hb dJ6_stringSize_0f7a4_24 (by decide) (fun c6 => ?_) (fun c6 => ?_)
  rotate_left
  · have c9 : ¬ 1000000 ≤ v := fun z9 => c6 (show -nI v ≤ -nI 1000000 from (sb_nle hv (by decide)).mpr z9)
    have hdg : sb_dg v = 6 := sl_dg6 (by omega) (by omega)
    refine lv_iload_n hx hb dJ6_stringSize_0f7a4_27 rfl (lv_at hl 0 rfl) ?_
    refine lv_iload_n hx hb dJ6_stringSize_0f7a4_28 rfl (lv_at hl 3 rfl) ?_
    refine lv_iadd hx hb dJ6_stringSize_0f7a4_29 (jt_i (y := nI (sb_dg v)) (by rw [hdg]; decide) ?_)
    rw [hQ]
    exact jg_zret hx hb hr rfl hlocks () hP hD hS dJ6_stringSize_0f7a4_30 rfl trivial (Nat.le_of_ble_eq_true rfl) (Nat.le_of_ble_eq_true rfl)
  have c6 : 1000000 ≤ v := (sb_nle hv (by decide)).mp (show -nI v ≤ -nI 1000000 from c6)
  refine lv_bipush (v := 10) hx hb dJ6_stringSize_0f7a4_31 (by decide) ?_
  refine lv_iload_n hx hb dJ6_stringSize_0f7a4_33 rfl (lv_at hl 1 rfl) ?_
  refine lv_imul hx hb dJ6_stringSize_0f7a4_34 (jt_i (y := (-10000000)) (by decide) ?_)
  refine lv_istore_n (lv' := [(2, .int (-10000000)), (3, .int 6), (0, .int (-nI v)), (1, .int 0)]) hx hb dJ6_stringSize_0f7a4_35 rfl hl (by decide) rfl (fun ls hl => ?_)
  refine lv_iinc (v := 7) (lv' := [(3, .int 7), (2, .int (-10000000)), (0, .int (-nI v)), (1, .int 0)]) hx hb dJ6_stringSize_0f7a4_36 hl (k := 1) rfl (by decide) (by decide) rfl (fun ls hl => ?_)
  refine lv_goto (tgt := 16) hx hb dJ6_stringSize_0f7a4_39 (by decide) ?_
  refine lv_iload_n hx hb dJ6_stringSize_0f7a4_16 rfl (lv_at hl 0 rfl) ?_
  refine lv_bipush (v := 10) hx hb dJ6_stringSize_0f7a4_17 (by decide) ?_
  refine lv_icmp_ge (tgt := 42) hx hb dJ6_stringSize_0f7a4_19 (by decide) (fun c1 => absurd c1 (by decide)) (fun _ => ?_)
  refine lv_iload_n hx hb dJ6_stringSize_0f7a4_22 rfl (lv_at hl 2 rfl) ?_
  refine lv_iload_n hx hb dJ6_stringSize_0f7a4_23 rfl (lv_at hl 1 rfl) ?_
  refine lv_icmp_le (tgt := 31) hx hb dJ6_stringSize_0f7a4_24 (by decide) (fun c7 => ?_) (fun c7 => ?_)
  rotate_left
  · have c9 : ¬ 10000000 ≤ v := fun z9 => c7 (show -nI v ≤ -nI 10000000 from (sb_nle hv (by decide)).mpr z9)
    have hdg : sb_dg v = 7 := sl_dg7 (by omega) (by omega)
    refine lv_iload_n hx hb dJ6_stringSize_0f7a4_27 rfl (lv_at hl 0 rfl) ?_
    refine lv_iload_n hx hb dJ6_stringSize_0f7a4_28 rfl (lv_at hl 3 rfl) ?_
    refine lv_iadd hx hb dJ6_stringSize_0f7a4_29 (jt_i (y := nI (sb_dg v)) (by rw [hdg]; decide) ?_)
    rw [hQ]
    exact jg_zret hx hb hr rfl hlocks () hP hD hS dJ6_stringSize_0f7a4_30 rfl trivial (Nat.le_of_ble_eq_true rfl) (Nat.le_of_ble_eq_true rfl)
  have c7 : 10000000 ≤ v := (sb_nle hv (by decide)).mp (show -nI v ≤ -nI 10000000 from c7)
  refine lv_bipush (v := 10) hx hb dJ6_stringSize_0f7a4_31 (by decide) ?_
  refine lv_iload_n hx hb dJ6_stringSize_0f7a4_33 rfl (lv_at hl 1 rfl) ?_
  refine lv_imul hx hb dJ6_stringSize_0f7a4_34 (jt_i (y := (-100000000)) (by decide) ?_)
  refine lv_istore_n (lv' := [(2, .int (-100000000)), (3, .int 7), (0, .int (-nI v)), (1, .int 0)]) hx hb dJ6_stringSize_0f7a4_35 rfl hl (by decide) rfl (fun ls hl => ?_)
  refine lv_iinc (v := 8) (lv' := [(3, .int 8), (2, .int (-100000000)), (0, .int (-nI v)), (1, .int 0)]) hx hb dJ6_stringSize_0f7a4_36 hl (k := 1) rfl (by decide) (by decide) rfl (fun ls hl => ?_)
  refine lv_goto (tgt := 16) hx hb dJ6_stringSize_0f7a4_39 (by decide) ?_
  refine lv_iload_n hx hb dJ6_stringSize_0f7a4_16 rfl (lv_at hl 0 rfl) ?_
  refine lv_bipush (v := 10) hx hb dJ6_stringSize_0f7a4_17 (by decide) ?_
  refine lv_icmp_ge (tgt := 42) hx hb dJ6_stringSize_0f7a4_19 (by decide) (fun c1 => absurd c1 (by decide)) (fun _ => ?_)
  refine lv_iload_n hx hb dJ6_stringSize_0f7a4_22 rfl (lv_at hl 2 rfl) ?_
  refine lv_iload_n hx hb dJ6_stringSize_0f7a4_23 rfl (lv_at hl 1 rfl) ?_
  refine lv_icmp_le (tgt := 31) hx hb dJ6_stringSize_0f7a4_24 (by decide) (fun c8 => ?_) (fun c8 => ?_)
  rotate_left
  · have c9 : ¬ 100000000 ≤ v := fun z9 => c8 (show -nI v ≤ -nI 100000000 from (sb_nle hv (by decide)).mpr z9)
    have hdg : sb_dg v = 8 := sl_dg8 (by omega) (by omega)
    refine lv_iload_n hx hb dJ6_stringSize_0f7a4_27 rfl (lv_at hl 0 rfl) ?_
    refine lv_iload_n hx hb dJ6_stringSize_0f7a4_28 rfl (lv_at hl 3 rfl) ?_
    refine lv_iadd hx hb dJ6_stringSize_0f7a4_29 (jt_i (y := nI (sb_dg v)) (by rw [hdg]; decide) ?_)
    rw [hQ]
    exact jg_zret hx hb hr rfl hlocks () hP hD hS dJ6_stringSize_0f7a4_30 rfl trivial (Nat.le_of_ble_eq_true rfl) (Nat.le_of_ble_eq_true rfl)
  have c8 : 100000000 ≤ v := (sb_nle hv (by decide)).mp (show -nI v ≤ -nI 100000000 from c8)
  refine lv_bipush (v := 10) hx hb dJ6_stringSize_0f7a4_31 (by decide) ?_
  refine lv_iload_n hx hb dJ6_stringSize_0f7a4_33 rfl (lv_at hl 1 rfl) ?_
  refine lv_imul hx hb dJ6_stringSize_0f7a4_34 (jt_i (y := (-1000000000)) (by decide) ?_)
  refine lv_istore_n (lv' := [(2, .int (-1000000000)), (3, .int 8), (0, .int (-nI v)), (1, .int 0)]) hx hb dJ6_stringSize_0f7a4_35 rfl hl (by decide) rfl (fun ls hl => ?_)
  refine lv_iinc (v := 9) (lv' := [(3, .int 9), (2, .int (-1000000000)), (0, .int (-nI v)), (1, .int 0)]) hx hb dJ6_stringSize_0f7a4_36 hl (k := 1) rfl (by decide) (by decide) rfl (fun ls hl => ?_)
  refine lv_goto (tgt := 16) hx hb dJ6_stringSize_0f7a4_39 (by decide) ?_
  refine lv_iload_n hx hb dJ6_stringSize_0f7a4_16 rfl (lv_at hl 0 rfl) ?_
  refine lv_bipush (v := 10) hx hb dJ6_stringSize_0f7a4_17 (by decide) ?_
  refine lv_icmp_ge (tgt := 42) hx hb dJ6_stringSize_0f7a4_19 (by decide) (fun c1 => absurd c1 (by decide)) (fun _ => ?_)
  refine lv_iload_n hx hb dJ6_stringSize_0f7a4_22 rfl (lv_at hl 2 rfl) ?_
  refine lv_iload_n hx hb dJ6_stringSize_0f7a4_23 rfl (lv_at hl 1 rfl) ?_
  refine lv_icmp_le (tgt := 31) hx hb dJ6_stringSize_0f7a4_24 (by decide) (fun c9 => ?_) (fun c9 => ?_)
  rotate_left
  · have c9 : ¬ 1000000000 ≤ v := fun z9 => c9 (show -nI v ≤ -nI 1000000000 from (sb_nle hv (by decide)).mpr z9)
    have hdg : sb_dg v = 9 := sl_dg9 (by omega) (by omega)
    refine lv_iload_n hx hb dJ6_stringSize_0f7a4_27 rfl (lv_at hl 0 rfl) ?_
    refine lv_iload_n hx hb dJ6_stringSize_0f7a4_28 rfl (lv_at hl 3 rfl) ?_
    refine lv_iadd hx hb dJ6_stringSize_0f7a4_29 (jt_i (y := nI (sb_dg v)) (by rw [hdg]; decide) ?_)
    rw [hQ]
    exact jg_zret hx hb hr rfl hlocks () hP hD hS dJ6_stringSize_0f7a4_30 rfl trivial (Nat.le_of_ble_eq_true rfl) (Nat.le_of_ble_eq_true rfl)
  have c9 : 1000000000 ≤ v := (sb_nle hv (by decide)).mp (show -nI v ≤ -nI 1000000000 from c9)
  refine lv_bipush (v := 10) hx hb dJ6_stringSize_0f7a4_31 (by decide) ?_
  refine lv_iload_n hx hb dJ6_stringSize_0f7a4_33 rfl (lv_at hl 1 rfl) ?_
  refine lv_imul hx hb dJ6_stringSize_0f7a4_34 (jt_i (y := (10 * (-1000000000))) (by rfl) ?_)
  refine lv_istore_n (lv' := [(2, .int (10 * (-1000000000))), (3, .int 9), (0, .int (-nI v)), (1, .int 0)]) hx hb dJ6_stringSize_0f7a4_35 rfl hl (by decide) rfl (fun ls hl => ?_)
  refine lv_iinc (v := 10) (lv' := [(3, .int 10), (2, .int (10 * (-1000000000))), (0, .int (-nI v)), (1, .int 0)]) hx hb dJ6_stringSize_0f7a4_36 hl (k := 1) rfl (by decide) (by decide) rfl (fun ls hl => ?_)
  refine lv_goto (tgt := 16) hx hb dJ6_stringSize_0f7a4_39 (by decide) ?_
  have hdg : sb_dg v = 10 := sl_dg10 (by omega) trivial
  refine lv_iload_n hx hb dJ6_stringSize_0f7a4_16 rfl (lv_at hl 0 rfl) ?_
  refine lv_bipush (v := 10) hx hb dJ6_stringSize_0f7a4_17 (by decide) ?_
  refine lv_icmp_ge (tgt := 42) hx hb dJ6_stringSize_0f7a4_19 (by decide) (fun _ => ?_) (fun c1 => absurd (by decide) c1)
  refine lv_bipush (v := 10) hx hb dJ6_stringSize_0f7a4_42 (by decide) ?_
  refine lv_iload_n hx hb dJ6_stringSize_0f7a4_44 rfl (lv_at hl 3 rfl) ?_
  refine lv_iadd hx hb dJ6_stringSize_0f7a4_45 (jt_i (y := nI (sb_dg v)) (by rw [hdg]; decide) ?_)
  rw [hQ]
  exact jg_zret hx hb hr rfl hlocks () hP hD hS dJ6_stringSize_0f7a4_46 rfl trivial (Nat.le_of_ble_eq_true rfl) (Nat.le_of_ble_eq_true rfl)
theorem sl_dig : ∀ k, k < 100 → vp_nar .byte (dgO k) = sb_b (48 + k % 10) ∧ vp_nar .byte (dgT k) = sb_b (48 + k / 10) := by decide +kernel
theorem sc_getChars (g : GG) (l : Launch) (q1 m0 : Nat) (f : Nat → Int32) (n v : Nat) (hm : m0 ≤ 65536) (hv : v < 2 ^ 31) (hp0 : n + sb_dg v ≤ m0) : MG (G := Nat → Int32) g l yJ6_getChars_ba4f3 cJ6_getChars_ba4f3 7 (some .int) ({ frames := 0, cells := 0, slots := 0, locals := 0 } : Room) [.int (nI v), .int (nI (n + sb_dg v)), .ref q1] [wA8 g q1 m0 f] 0 0 (fun _ => some (.int (nI n))) (fun a' => [wA8 g q1 m0 a']) (fun a' => (∀ j, j < n ∨ n + sb_dg v ≤ j → a' j = f j) ∧ (∀ i, i < sb_dg v → a' (n + sb_dg v - 1 - i) = sb_b (48 + v / 10 ^ i % 10)) ∧ (sb_Fit f → sb_Fit a')) := by
  refine MG.bg (by decide) (Nat.le_of_ble_eq_true rfl) ?_
  intro p e s m below meth c A Q hQ hx hb hr hml hown hts hts2 hlocks hmn hK hE hA hP hD hS ls hl
  have hl : lv_has ls 7 [(0, .int (nI v)), (1, .int (nI (n + sb_dg v))), (2, .ref q1)] := hl
  have hOz := hE.2.2.2.1.1
  have hOt := hE.2.2.2.1.2
  have hTz := hE.2.2.2.2.1.1
  have hTt := hE.2.2.2.2.1.2
  refine lv_iload_n hx hb dJ6_getChars_ba4f3_0 rfl (lv_at hl 1 rfl) ?_
  refine lv_istore (lv' := [(5, .int (nI (n + sb_dg v))), (0, .int (nI v)), (1, .int (nI (n + sb_dg v))), (2, .ref q1)]) hx hb dJ6_getChars_ba4f3_1 hl (by decide) rfl (fun ls hl => ?_)
  refine lv_iload_n hx hb dJ6_getChars_ba4f3_3 rfl (lv_at hl 1 rfl) ?_
  refine lv_if_ge (tgt := 11) hx hb dJ6_getChars_ba4f3_4 (by decide) (fun _ => ?_) (fun c1 => absurd (nI_pos' hv) c1)
  refine lv_iconst (v := 0) hx hb dJ6_getChars_ba4f3_11 (by decide) ?_
  refine lv_istore (lv' := [(6, .int 0), (5, .int (nI (n + sb_dg v))), (0, .int (nI v)), (1, .int (nI (n + sb_dg v))), (2, .ref q1)]) hx hb dJ6_getChars_ba4f3_12 hl (by decide) rfl (fun ls hl => ?_)
  refine lv_iload hx hb dJ6_getChars_ba4f3_14 (lv_at hl 0 rfl) ?_
  refine lv_if_ne (tgt := 22) hx hb dJ6_getChars_ba4f3_16 (by decide) (fun c1 => absurd rfl c1) (fun _ => ?_)
  refine lv_iload_n hx hb dJ6_getChars_ba4f3_19 rfl (lv_at hl 2 rfl) ?_
  refine lv_ineg hx hb dJ6_getChars_ba4f3_20 ?_
  refine lv_istore_n (lv' := [(0, .int (-nI v)), (6, .int 0), (5, .int (nI (n + sb_dg v))), (1, .int (nI (n + sb_dg v))), (2, .ref q1)]) hx hb dJ6_getChars_ba4f3_21 rfl hl (by decide) rfl (fun ls hl => ?_)
  have go : ∀ (fu w p9 : Nat) (fa : Nat → Int32), w < fu → w < 2 ^ 31 → p9 = n + sb_dg w → p9 ≤ m0 →
      (∀ a' : Nat → Int32, (∀ j, j < n ∨ p9 ≤ j → a' j = fa j) → (∀ i, i < sb_dg w → a' (p9 - 1 - i) = sb_b (48 + w / 10 ^ i % 10)) → (sb_Fit fa → sb_Fit a') → ((∀ j, j < n ∨ n + sb_dg v ≤ j → a' j = f j) ∧ (∀ i, i < sb_dg v → a' (n + sb_dg v - 1 - i) = sb_b (48 + v / 10 ^ i % 10)) ∧ (sb_Fit f → sb_Fit a'))) →
      ∀ (H : Heap) (locs : List Loc), va_P g.1 vwCl ([wA8 g q1 m0 fa] : List va_W).flatten H → va_D A ([wA8 g q1 m0 fa] : List va_W).flatten → va_S A s.heap H locs → ∀ ls : Array Slot, lv_has ls 7 [(0, .int (-nI w)), (6, .int 0), (5, .int (nI p9)), (2, .ref q1)] → W p l e ({ frames := 0, cells := 0, slots := 0, locals := 0 } : Room) s m ([.int (nI v), .int (nI (n + sb_dg v)), .ref q1] : List Value).toArray below meth c H locs 0 0 Q (F0 m 22 ls []) := by
    intro fu
    induction fu with
    | zero => intro w p9 fa h; omega
    | succ fu ih =>
      intro w p9 fa hwf hw hp hpm hP9 H locs hP hD hS ls hl
      have hd1 := (sb_dg_in w).1
      have e1 : -(-nI w) = nI w := Int32.neg_neg
      have ew : (nI w).toNatClampNeg = w := nI_clamp hw
      refine lv_iload_n hx hb dJ6_getChars_ba4f3_22 rfl (lv_at hl 0 rfl) ?_
      refine lv_bipush (v := (-100)) hx hb dJ6_getChars_ba4f3_23 (by decide) ?_
      refine lv_icmp_gt (tgt := 72) hx hb dJ6_getChars_ba4f3_25 (by decide) (fun c1 => ?_) (fun c1 => ?_)
      · have h100 : w < 100 := (sb_nlt (by decide) hw).mp (show -nI 100 < -nI w from c1)
        obtain ⟨t1, t2⟩ := sl_dig w h100
        refine lv_aload_n hx hb dJ6_getChars_ba4f3_72 rfl (lv_at hl 3 rfl) ?_
        refine lv_iinc (v := nI (p9 - 1)) (lv' := [(5, .int (nI (p9 - 1))), (0, .int (-nI w)), (6, .int 0), (2, .ref q1)]) hx hb dJ6_getChars_ba4f3_73 hl (k := 2) rfl (sb_m1 (by omega)) (by decide) rfl (fun ls hl => ?_)
        refine lv_iload hx hb dJ6_getChars_ba4f3_76 (lv_at hl 0 rfl) ?_
        refine va_gets hx hb hOz hS hown (hts _ (WT_in 471 (by decide +kernel) (by decide +kernel))) (fun _ h9 => h9) dJ6_getChars_ba4f3_78 ?_
        refine lv_iload_n hx hb dJ6_getChars_ba4f3_81 rfl (lv_at hl 1 rfl) ?_
        refine lv_ineg hx hb dJ6_getChars_ba4f3_82 (jt_i e1 ?_)
        refine va_tb hx hb hOt hS (vp_in_nI h100 (by decide)) rfl dJ6_getChars_ba4f3_83 ?_
        refine va_bast hx hb hK hP hD hS 0 2 rfl rfl (vp_in_nI (by omega) (by omega)) dJ6_getChars_ba4f3_84 (fun H locs hP hD hS => ?_)
        rw [nI_clamp (n := p9 - 1) (by omega), ew, t1] at hP hD
        refine lv_iload_n hx hb dJ6_getChars_ba4f3_85 rfl (lv_at hl 1 rfl) ?_
        refine lv_bipush (v := (-9)) hx hb dJ6_getChars_ba4f3_86 (by decide) ?_
        refine lv_icmp_ge (tgt := 104) hx hb dJ6_getChars_ba4f3_88 (by decide) (fun c2 => ?_) (fun c2 => ?_)
        · have h9 : w < 10 := by
            have := (sb_nle (by decide) hw).mp (show -nI 9 ≤ -nI w from c2)
            omega
          have hd : sb_dg w = 1 := if_pos h9
          refine lv_iload hx hb dJ6_getChars_ba4f3_104 (lv_at hl 2 rfl) ?_
          refine lv_if_eq (tgt := 118) hx hb dJ6_getChars_ba4f3_106 (by decide) (fun _ => ?_) (fun c1 => absurd rfl c1)
          refine lv_iload hx hb dJ6_getChars_ba4f3_118 (lv_at hl 0 rfl) ?_
          rw [hQ]
          refine jg_zret hx hb hr rfl hlocks (upd fa (p9 - 1) (sb_b (48 + w % 10))) hP hD hS dJ6_getChars_ba4f3_120 (by rw [show p9 - 1 = n by omega]) (hP9 _ (fun j hj => pk_un (by omega)) (fun i hi => ?_) (fun hf => sb_fitU hf (sb_fitB _))) (Nat.le_of_ble_eq_true rfl) (Nat.le_of_ble_eq_true rfl)
          obtain rfl : i = 0 := by omega
          rw [Nat.sub_zero, pk_us, Nat.pow_zero, Nat.div_one]
        · have h9 : ¬ w < 10 := fun z9 => c2 (show -nI 9 ≤ -nI w from (sb_nle (by decide) hw).mpr (by omega))
          have hd : sb_dg w = 2 := by rw [sb_dg, if_neg h9, if_pos h100]
          have d2 : w / 10 % 10 = w / 10 := by omega
          refine lv_aload_n hx hb dJ6_getChars_ba4f3_91 rfl (lv_at hl 3 rfl) ?_
          refine lv_iinc (v := nI (p9 - 1 - 1)) (lv' := [(5, .int (nI (p9 - 1 - 1))), (0, .int (-nI w)), (6, .int 0), (2, .ref q1)]) hx hb dJ6_getChars_ba4f3_92 hl (k := 0) rfl (sb_m1 (by omega)) (by decide) rfl (fun ls hl => ?_)
          refine lv_iload hx hb dJ6_getChars_ba4f3_95 (lv_at hl 0 rfl) ?_
          refine va_gets hx hb hTz hS hown (hts _ (WT_in 473 (by decide +kernel) (by decide +kernel))) (fun _ h9 => h9) dJ6_getChars_ba4f3_97 ?_
          refine lv_iload_n hx hb dJ6_getChars_ba4f3_100 rfl (lv_at hl 1 rfl) ?_
          refine lv_ineg hx hb dJ6_getChars_ba4f3_101 (jt_i e1 ?_)
          refine va_tb hx hb hTt hS (vp_in_nI h100 (by decide)) rfl dJ6_getChars_ba4f3_102 ?_
          refine va_bast hx hb hK hP hD hS 0 2 rfl rfl (vp_in_nI (by omega) (by omega)) dJ6_getChars_ba4f3_103 (fun H locs hP hD hS => ?_)
          rw [nI_clamp (n := p9 - 1 - 1) (by omega), ew, t2] at hP hD
          refine lv_iload hx hb dJ6_getChars_ba4f3_104 (lv_at hl 2 rfl) ?_
          refine lv_if_eq (tgt := 118) hx hb dJ6_getChars_ba4f3_106 (by decide) (fun _ => ?_) (fun c1 => absurd rfl c1)
          refine lv_iload hx hb dJ6_getChars_ba4f3_118 (lv_at hl 0 rfl) ?_
          rw [hQ]
          refine jg_zret hx hb hr rfl hlocks (upd (upd fa (p9 - 1) (sb_b (48 + w % 10))) (p9 - 1 - 1) (sb_b (48 + w / 10))) hP hD hS dJ6_getChars_ba4f3_120 (by rw [show p9 - 1 - 1 = n by omega]) (hP9 _ (fun j hj => by rw [pk_un (by omega), pk_un (by omega)]) (fun i hi => ?_) (fun hf => sb_fitU (sb_fitU hf (sb_fitB _)) (sb_fitB _))) (Nat.le_of_ble_eq_true rfl) (Nat.le_of_ble_eq_true rfl)
          obtain rfl | rfl : i = 0 ∨ i = 1 := by omega
          · rw [Nat.sub_zero, pk_un (by omega), pk_us, Nat.pow_zero, Nat.div_one]
          · rw [pk_us, Nat.pow_one, d2]
      · have h100 : ¬ w < 100 := fun z9 => c1 (show -nI 100 < -nI w from (sb_nlt (by decide) hw).mpr z9)
        obtain ⟨t1, t2⟩ := sl_dig (w % 100) (Nat.mod_lt _ (by decide))
        have hd := sb_dg100 (w := w) (by omega) hw
        have hd2 := (sb_dg_in (w / 100)).1
        have er : (nI (w % 100)).toNatClampNeg = w % 100 := nI_clamp (by omega)
        rw [show w % 100 % 10 = w % 10 by omega] at t1
        rw [show w % 100 / 10 = w / 10 % 10 by omega] at t2
        refine lv_iload_n hx hb dJ6_getChars_ba4f3_28 rfl (lv_at hl 0 rfl) ?_
        refine lv_bipush (v := 100) hx hb dJ6_getChars_ba4f3_29 (by decide) ?_
        refine lv_idiv hx hb dJ6_getChars_ba4f3_31 (by decide) (jt_i (sb_ndiv hw) ?_)
        refine lv_istore_n (lv' := [(3, .int (-nI (w / 100))), (0, .int (-nI w)), (6, .int 0), (5, .int (nI p9)), (2, .ref q1)]) hx hb dJ6_getChars_ba4f3_32 rfl hl (by decide) rfl (fun ls hl => ?_)
        refine lv_iload_n hx hb dJ6_getChars_ba4f3_33 rfl (lv_at hl 0 rfl) ?_
        refine lv_bipush (v := 100) hx hb dJ6_getChars_ba4f3_34 (by decide) ?_
        refine lv_imul hx hb dJ6_getChars_ba4f3_36 ?_
        refine lv_iload_n hx hb dJ6_getChars_ba4f3_37 rfl (lv_at hl 1 rfl) ?_
        refine lv_isub hx hb dJ6_getChars_ba4f3_38 (jt_i (sb_nrem hw) ?_)
        refine lv_istore (lv' := [(4, .int (nI (w % 100))), (3, .int (-nI (w / 100))), (0, .int (-nI w)), (6, .int 0), (5, .int (nI p9)), (2, .ref q1)]) hx hb dJ6_getChars_ba4f3_39 hl (by decide) rfl (fun ls hl => ?_)
        refine lv_iload_n hx hb dJ6_getChars_ba4f3_41 rfl (lv_at hl 1 rfl) ?_
        refine lv_istore_n (lv' := [(0, .int (-nI (w / 100))), (4, .int (nI (w % 100))), (3, .int (-nI (w / 100))), (6, .int 0), (5, .int (nI p9)), (2, .ref q1)]) hx hb dJ6_getChars_ba4f3_42 rfl hl (by decide) rfl (fun ls hl => ?_)
        refine lv_aload_n hx hb dJ6_getChars_ba4f3_43 rfl (lv_at hl 5 rfl) ?_
        refine lv_iinc (v := nI (p9 - 1)) (lv' := [(5, .int (nI (p9 - 1))), (0, .int (-nI (w / 100))), (4, .int (nI (w % 100))), (3, .int (-nI (w / 100))), (6, .int 0), (2, .ref q1)]) hx hb dJ6_getChars_ba4f3_44 hl (k := 4) rfl (sb_m1 (by omega)) (by decide) rfl (fun ls hl => ?_)
        refine lv_iload hx hb dJ6_getChars_ba4f3_47 (lv_at hl 0 rfl) ?_
        refine va_gets hx hb hOz hS hown (hts _ (WT_in 471 (by decide +kernel) (by decide +kernel))) (fun _ h9 => h9) dJ6_getChars_ba4f3_49 ?_
        refine lv_iload hx hb dJ6_getChars_ba4f3_52 (lv_at hl 2 rfl) ?_
        refine va_tb hx hb hOt hS (vp_in_nI (by omega) (by decide)) rfl dJ6_getChars_ba4f3_54 ?_
        refine va_bast hx hb hK hP hD hS 0 2 rfl rfl (vp_in_nI (by omega) (by omega)) dJ6_getChars_ba4f3_55 (fun H locs hP hD hS => ?_)
        rw [nI_clamp (n := p9 - 1) (by omega), er, t1] at hP hD
        refine lv_aload_n hx hb dJ6_getChars_ba4f3_56 rfl (lv_at hl 5 rfl) ?_
        refine lv_iinc (v := nI (p9 - 1 - 1)) (lv' := [(5, .int (nI (p9 - 1 - 1))), (0, .int (-nI (w / 100))), (4, .int (nI (w % 100))), (3, .int (-nI (w / 100))), (6, .int 0), (2, .ref q1)]) hx hb dJ6_getChars_ba4f3_57 hl (k := 0) rfl (sb_m1 (by omega)) (by decide) rfl (fun ls hl => ?_)
        refine lv_iload hx hb dJ6_getChars_ba4f3_60 (lv_at hl 0 rfl) ?_
        refine va_gets hx hb hTz hS hown (hts _ (WT_in 473 (by decide +kernel) (by decide +kernel))) (fun _ h9 => h9) dJ6_getChars_ba4f3_62 ?_
        refine lv_iload hx hb dJ6_getChars_ba4f3_65 (lv_at hl 2 rfl) ?_
        refine va_tb hx hb hTt hS (vp_in_nI (by omega) (by decide)) rfl dJ6_getChars_ba4f3_67 ?_
        refine va_bast hx hb hK hP hD hS 0 2 rfl rfl (vp_in_nI (by omega) (by omega)) dJ6_getChars_ba4f3_68 (fun H locs hP hD hS => ?_)
        rw [nI_clamp (n := p9 - 1 - 1) (by omega), er, t2] at hP hD
        refine lv_goto (tgt := 22) hx hb dJ6_getChars_ba4f3_69 (by decide) ?_
        refine ih (w / 100) (p9 - 1 - 1) (upd (upd fa (p9 - 1) (sb_b (48 + w % 10))) (p9 - 1 - 1) (sb_b (48 + w / 10 % 10))) (by omega) (by omega) (by omega) (by omega) (fun a' h1 h2 h3 => ?_) _ _ hP hD hS ls (lv_sub hl [1, 4, 0, 5] rfl)
        refine hP9 a' (fun j hj => by rw [h1 j (by omega), pk_un (by omega), pk_un (by omega)]) (fun i hi => ?_) (fun hf => h3 (sb_fitU (sb_fitU hf (sb_fitB _)) (sb_fitB _)))
        match i, hi with
        | 0, _ => rw [Nat.sub_zero, h1 _ (by omega), pk_un (by omega), pk_us, Nat.pow_zero, Nat.div_one]
        | 1, _ => rw [h1 _ (by omega), pk_us, Nat.pow_one]
        | k + 2, hi =>
          rw [show p9 - 1 - (k + 2) = p9 - 1 - 1 - 1 - k by omega, h2 k (by omega), Nat.div_div_eq_div_mul, show 100 * 10 ^ k = 10 ^ (k + 2) by rw [show k + 2 = k + 1 + 1 from rfl, Nat.pow_succ, Nat.pow_succ]; omega]
  exact go (v + 1) v (n + sb_dg v) f (by omega) hv rfl hp0 (fun a' h1 h2 h3 => ⟨h1, h2, h3⟩) _ _ hP hD hS ls (lv_sub hl [0, 1, 2, 4] rfl)
theorem sc_appendI5 (g : GG) (l : Launch) (a : Nat) (t : Nat → Nat) (n : Nat) (x : LG) (v : Nat) (hn : n + sb_dg v ≤ 200) (hv : v < 2 ^ 31) (hk : LK t n x) : MG (G := LG) g l yJ5_append_c97b9 cJ5_append_c97b9 4 (some (.object "java/lang/AbstractStringBuilder")) ({ frames := 4, cells := sb_cap (n + sb_dg v) x.2.2.1 - x.2.2.1, slots := 2 * (sb_cap (n + sb_dg v) x.2.2.1 - x.2.2.1), locals := 110 } : Room) [.ref a, .int (nI v)] [wL g a (nI n) x] (sb_cap (n + sb_dg v) x.2.2.1 - x.2.2.1) (2 * (sb_cap (n + sb_dg v) x.2.2.1 - x.2.2.1)) (fun _ => some (.ref a)) (fun x' => [wL g a (nI (n + sb_dg v)) x']) (fun x' => LK (sb_cat t n (sb_dec v)) (n + sb_dg v) x' ∧ x'.2.2.1 = sb_cap (n + sb_dg v) x.2.2.1) := by
  refine MG.bg (by decide) (Nat.le_of_ble_eq_true rfl) ?_
  intro p e s m below meth c A Q hQ hx hb hr hml hown hts hts2 hlocks hmn hK hE hA hP hD hS ls hl
  obtain ⟨q0, f, m0, ml⟩ := x
  obtain ⟨k1, k2, k3, k4⟩ := hk
  have k1 : n ≤ m0 := k1
  have k2 : m0 ≤ 402 := k2
  have hd1 := (sb_dg_in v).1
  have hl : lv_has ls 4 [(0, .ref a), (1, .int (nI v))] := hl
  refine lv_aload_n hx hb dJ5_append_c97b9_0 rfl (lv_at hl 0 rfl) ?_
  refine va_get (D := g.1) (ci := 1) (v := .int (nI n)) (C := RJ4) (T := TJ4) (N := 4) hx hb hts inJ4 hown hK hP 0 rfl rfl 3 (by decide) (hts _ (WT_in 212 (by decide +kernel) (by decide +kernel))) (fun _ h9 => h9) rfl dJ5_append_c97b9_1 ?_
  refine lv_istore_n (lv' := [(2, .int (nI n)), (0, .ref a), (1, .int (nI v))]) hx hb dJ5_append_c97b9_4 rfl hl (by decide) rfl (fun ls hl => ?_)
  refine lv_iload_n hx hb dJ5_append_c97b9_5 rfl (lv_at hl 0 rfl) ?_
  refine lv_iload_n hx hb dJ5_append_c97b9_6 rfl (lv_at hl 2 rfl) ?_
  refine cg_S (csR := [wL g a (nI n) (q0, f, m0, ml)]) (csF := fun _ => [wL g a (nI n) (q0, f, m0, ml)]) (rest := [.int (nI n)]) hx hb hml hown hts2 hK hE hA hl hP hD hS (sc_stringSize g l v hv) [] [0] [0] ⟨rfl, rfl⟩ (fun _ => ⟨rfl, rfl, rfl, rfl, rfl, rfl, rfl⟩) 1 (jb_giG2 (WT_in 465 (by decide +kernel) (by decide +kernel)) (WT_in 466 (by decide +kernel) (by decide +kernel)) (WT_in 29 (by decide +kernel) (by decide +kernel)) (WT_in 467 (by decide +kernel) (by decide +kernel))) ⟨rfl, rfl⟩ (by decide +kernel) ⟨⟨(Nat.le_of_ble_eq_true rfl), (Nat.le_of_ble_eq_true rfl)⟩, (by (try dsimp only); omega), (by (try dsimp only); omega)⟩ ⟨rfl, rfl⟩ (Nat.le_of_ble_eq_true rfl) dJ5_append_c97b9_7 (fun _ H locs _ hP hD hS => ?_)
  refine lv_iadd hx hb dJ5_append_c97b9_10 (jt_i (nI_add n (sb_dg v)) ?_)
  refine lv_istore_n (lv' := [(3, .int (nI (n + sb_dg v))), (2, .int (nI n)), (0, .ref a), (1, .int (nI v))]) hx hb dJ5_append_c97b9_11 rfl hl (by decide) rfl (fun ls hl => ?_)
  refine lv_aload_n hx hb dJ5_append_c97b9_12 rfl (lv_at hl 2 rfl) ?_
  refine lv_iload_n hx hb dJ5_append_c97b9_13 rfl (lv_at hl 0 rfl) ?_
  refine cg_U (owner := RJ5) (csR := []) (csF := fun x => [wL g a (nI n) x]) (rest := []) hx hb hml hown hts2 hK hE hA hl hP hD hS (sc_ensure g l a (nI n) (q0, f, m0, ml) (n + sb_dg v) k2 (by omega) k4) [0] [] [0] ⟨rfl, rfl⟩ (fun _ => ⟨rfl, rfl, rfl, rfl, rfl, rfl, rfl⟩) ⟨0, 1, _, _, rfl, rfl, rfl⟩ 1 (jb_giU (WT_in 353 (by decide +kernel) (by decide +kernel)) (WT_in 1763 (by decide +kernel) (by decide +kernel)) w2_s1 (WT_in 355 (by decide +kernel) (by decide +kernel)) (WT_in 6 (by decide +kernel) (by decide +kernel)) (WT_in 356 (by decide +kernel) (by decide +kernel))) ⟨rfl, rfl⟩ rfl (by decide +kernel) ⟨⟨(Nat.le_of_ble_eq_true rfl), (Nat.le_of_ble_eq_true rfl)⟩, (by (try dsimp only); omega), (by (try dsimp only); omega)⟩ ⟨rfl, rfl⟩ (Nat.le_of_ble_eq_true rfl) dJ5_append_c97b9_14 (fun x H locs hx9 hP hD hS => ?_)
  obtain ⟨q1, f1, m1, ml1⟩ := x
  obtain ⟨e1, e2, e3, e4⟩ := hx9
  have e1 : sb_Fit f1 := e1
  have e3 : m1 = sb_cap (n + sb_dg v) m0 := e3
  have hge := sb_cap_ge (n + sb_dg v) m0
  have hcle : sb_cap (n + sb_dg v) m0 ≤ 402 := by
    unfold sb_cap
    (repeat' split) <;> omega
  refine lv_aload_n hx hb dJ5_append_c97b9_17 rfl (lv_at hl 2 rfl) ?_
  refine cg_U (owner := RJ5) (csR := []) (csF := fun _ => [wL g a (nI n) (q1, f1, m1, ml1)]) (rest := []) hx hb hml hown hts2 hK hE hA hl hP hD hS (sc_isLatin1 g l a (nI n) (q1, f1, m1, ml1)) [0] [] [0] ⟨rfl, rfl⟩ (fun _ => ⟨rfl, rfl, rfl, rfl, rfl, rfl, rfl⟩) ⟨0, 1, _, _, rfl, rfl, rfl⟩ 0 (jb_giU (WT_in 384 (by decide +kernel) (by decide +kernel)) (WT_in 386 (by decide +kernel) (by decide +kernel)) (w2_in (WT_in 387 (by decide +kernel) (by decide +kernel))) (WT_in 385 (by decide +kernel) (by decide +kernel)) (WT_in 6 (by decide +kernel) (by decide +kernel)) (WT_in 388 (by decide +kernel) (by decide +kernel))) ⟨rfl, rfl⟩ rfl (by decide +kernel) ⟨⟨(Nat.le_of_ble_eq_true rfl), (Nat.le_of_ble_eq_true rfl)⟩, (by (try dsimp only); omega), (by (try dsimp only); omega)⟩ ⟨rfl, rfl⟩ (Nat.le_of_ble_eq_true rfl) dJ5_append_c97b9_18 (fun _ H locs _ hP hD hS => ?_)
  refine lv_if_eq (tgt := 37) hx hb dJ5_append_c97b9_21 (by decide) (fun c1 => absurd c1 (by decide)) (fun _ => ?_)
  refine lv_iload_n hx hb dJ5_append_c97b9_24 rfl (lv_at hl 3 rfl) ?_
  refine lv_iload_n hx hb dJ5_append_c97b9_25 rfl (lv_at hl 0 rfl) ?_
  refine lv_aload_n hx hb dJ5_append_c97b9_26 rfl (lv_at hl 2 rfl) ?_
  refine va_get (D := g.1) (ci := 1) (v := .ref q1) (C := RJ4) (T := TJ4) (N := 4) hx hb hts inJ4 hown hK hP 0 rfl rfl 0 (by decide) (hts _ (WT_in 208 (by decide +kernel) (by decide +kernel))) (fun _ h9 => h9) rfl dJ5_append_c97b9_27 ?_
  have hP : va_P g.1 vwCl ([wLo a q1 ml1 (nI n), wA8 g q1 m1 f1] : List va_W).flatten _ := hP
  have hD : va_D A ([wLo a q1 ml1 (nI n), wA8 g q1 m1 f1] : List va_W).flatten := hD
  refine cg_S (csR := [wLo a q1 ml1 (nI n)]) (csF := fun f2 => [wLo a q1 ml1 (nI n), wA8 g q1 m1 f2]) (rest := []) hx hb hml hown hts2 hK hE hA hl hP hD hS (sc_getChars g l q1 m1 f1 n v (by omega) hv (by omega)) [1] [0] [0, 1] ⟨rfl, rfl⟩ (fun _ => ⟨rfl, rfl, rfl, rfl, rfl, rfl, rfl⟩) 3 (jb_giG2 (WT_in 468 (by decide +kernel) (by decide +kernel)) (WT_in 469 (by decide +kernel) (by decide +kernel)) (WT_in 29 (by decide +kernel) (by decide +kernel)) (WT_in 470 (by decide +kernel) (by decide +kernel))) ⟨rfl, rfl⟩ (by decide +kernel) ⟨⟨(Nat.le_of_ble_eq_true rfl), (Nat.le_of_ble_eq_true rfl)⟩, (by (try dsimp only); omega), (by (try dsimp only); omega)⟩ ⟨rfl, rfl⟩ (Nat.le_of_ble_eq_true rfl) dJ5_append_c97b9_30 (fun f2 H locs hf9 hP hD hS => ?_)
  obtain ⟨h1, h2, h3⟩ := hf9
  have hP : va_P g.1 vwCl ([wLc g a q1 f2 m1 ml1 (nI n)] : List va_W).flatten _ := hP
  have hD : va_D A ([wLc g a q1 f2 m1 ml1 (nI n)] : List va_W).flatten := hD
  refine lv_pop hx hb dJ5_append_c97b9_33 rfl ?_
  refine lv_goto (tgt := 48) hx hb dJ5_append_c97b9_34 (by decide) ?_
  refine lv_aload_n hx hb dJ5_append_c97b9_48 rfl (lv_at hl 2 rfl) ?_
  refine lv_iload_n hx hb dJ5_append_c97b9_49 rfl (lv_at hl 0 rfl) ?_
  refine va_put (D := g.1) (ci := 1) (v := .int (nI (n + sb_dg v))) (ty := .int) (C := RJ4) (T := TJ4) (N := 4) hx hb hts inJ4 tyJ4 tyJ4_ok nmJ4 hown hK hP hD hS 0 rfl rfl 3 (by decide) (hts _ (WT_in 212 (by decide +kernel) (by decide +kernel))) (fun _ h9 => h9) rfl (by decide +kernel) rfl rfl (Nat.le_of_ble_eq_true rfl) dJ5_append_c97b9_50 (fun H locs hP hD hS => ?_)
  refine lv_aload_n hx hb dJ5_append_c97b9_53 rfl (lv_at hl 2 rfl) ?_
  rw [hQ]
  refine jg_aret hx hb hr (Or.inl ⟨_, rfl⟩) hlocks (q1, f2, m1, ml1) hP hD hS dJ5_append_c97b9_54 rfl ⟨⟨by show n + sb_dg v ≤ m1; omega, by show m1 ≤ 402; omega, sb_latPut k3 (fun j hj => ?_) (fun i hi => ?_), h3 e1⟩, e3⟩ (by (try dsimp only); omega) (by (try dsimp only); omega)
  · show f2 j = f j
    rw [h1 j (Or.inl hj)]
    exact e2 j (by show j < m0; omega)
  · show sb_dec v i < 256 ∧ f2 (n + i) = sb_b (sb_dec v i)
    have h9 := h2 (sb_dg v - 1 - i) (by omega)
    rw [show n + sb_dg v - 1 - (sb_dg v - 1 - i) = n + i by omega] at h9
    exact ⟨by unfold sb_dec; omega, h9⟩
theorem sc_appendI (g : GG) (l : Launch) (a : Nat) (t : Nat → Nat) (n : Nat) (x : LG) (v : Nat) (hn : n + sb_dg v ≤ 200) (hv : v < 2 ^ 31) (hk : LK t n x) : MG (G := LG) g l yJ4_append_bf812 cJ4_append_bf812 2 (some (.object "java/lang/StringBuilder")) ({ frames := 5, cells := sb_cap (n + sb_dg v) x.2.2.1 - x.2.2.1, slots := 2 * (sb_cap (n + sb_dg v) x.2.2.1 - x.2.2.1), locals := 140 } : Room) [.ref a, .int (nI v)] [wL g a (nI n) x] (sb_cap (n + sb_dg v) x.2.2.1 - x.2.2.1) (2 * (sb_cap (n + sb_dg v) x.2.2.1 - x.2.2.1)) (fun _ => some (.ref a)) (fun x' => [wL g a (nI (n + sb_dg v)) x']) (fun x' => LK (sb_cat t n (sb_dec v)) (n + sb_dg v) x' ∧ x'.2.2.1 = sb_cap (n + sb_dg v) x.2.2.1) := by
  refine MG.bg (by decide) (Nat.le_of_ble_eq_true rfl) ?_
  intro p e s m below meth c A Q hQ hx hb hr hml hown hts hts2 hlocks hmn hK hE hA hP hD hS ls hl
  have hl : lv_has ls 2 [(0, .ref a), (1, .int (nI v))] := hl
  refine lv_aload_n hx hb dJ4_append_bf812_0 rfl (lv_at hl 0 rfl) ?_
  refine lv_iload_n hx hb dJ4_append_bf812_1 rfl (lv_at hl 1 rfl) ?_
  refine cg_SU (hK.1 1 _ rfl).2 (csR := []) (csF := fun x' => [wL g a (nI (n + sb_dg v)) x']) (rest := []) hx hb hml hown hts2 hK hE hA hl hP hD hS (sc_appendI5 g l a t n x v hn hv hk) [0] [] [0] ⟨rfl, rfl⟩ (fun _ => ⟨rfl, rfl, rfl, rfl, rfl, rfl, rfl⟩) ⟨0, 1, _, _, rfl, rfl, rfl⟩ 1 (jb_giSU (WT_in 462 (by decide +kernel) (by decide +kernel)) (WT_in 1768 (by decide +kernel) (by decide +kernel)) (WT_in 221 (by decide +kernel) (by decide +kernel)) (WT_in 463 (by decide +kernel) (by decide +kernel)) (WT_in 6 (by decide +kernel) (by decide +kernel)) (WT_in 464 (by decide +kernel) (by decide +kernel))) ⟨rfl, rfl⟩ (by decide +kernel) ⟨⟨(Nat.le_of_ble_eq_true rfl), (Nat.le_of_ble_eq_true rfl)⟩, (by (try dsimp only); omega), (by (try dsimp only); omega)⟩ ⟨rfl, rfl⟩ (Nat.le_of_ble_eq_true rfl) dJ4_append_bf812_2 (fun x' H locs hx9 hP hD hS => ?_)
  refine lv_pop hx hb dJ4_append_bf812_5 rfl ?_
  refine lv_aload_n hx hb dJ4_append_bf812_6 rfl (lv_at hl 0 rfl) ?_
  rw [hQ]
  exact jg_aret hx hb hr (Or.inl ⟨_, rfl⟩) hlocks x' hP hD hS dJ4_append_bf812_7 rfl hx9 (by (try dsimp only); omega) (by (try dsimp only); omega)
