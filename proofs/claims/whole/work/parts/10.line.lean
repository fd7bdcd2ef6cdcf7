/-! the line as a value: its length and its letters; what the class's own methods do to it -/
abbrev Nv : Type := Nat × (Nat → Nat)
def wLn (g : GG) (q : Nat) (ln : Nv) (gh : LG) : va_W := wL g q (nI ln.1) gh
def LKm (m0 : Nat) (ln : Nv) (gh : LG) : Prop := LK ln.2 ln.1 gh ∧ m0 ≤ gh.2.2.1
theorem lkm_le {m0 : Nat} {ln : Nv} {gh : LG} (h : LKm m0 ln gh) : ln.1 ≤ gh.2.2.1 ∧ gh.2.2.1 ≤ 402 ∧ m0 ≤ gh.2.2.1 := ⟨h.1.1, h.1.2.1, h.2⟩
def F_lnC (ln : Nv) (ch : Nat) : Option Nv := ck (decide (ln.1 < 200 ∧ ch < 256)) (some (ln.1 + 1, sb_cat ln.2 ln.1 (fun _ => ch)))
def F_lnI (ln : Nv) (v : Int32) : Option Nv := ck (decide (¬ v < 0 ∧ ln.1 + sb_dg v.toNatClampNeg ≤ 200)) (some (ln.1 + sb_dg v.toNatClampNeg, sb_cat ln.2 ln.1 (sb_dec v.toNatClampNeg)))
theorem nI_self {v : Int32} (h : ¬ v < 0) : v = nI v.toNatClampNeg ∧ v.toNatClampNeg < 2 ^ 31 := by
  have h0 : (0 : Int) ≤ v.toInt := by
    have := Int32.not_lt.mp h
    simpa using Int32.le_iff_toInt_le.mp this
  have h1 : v.toNatClampNeg < 2 ^ 31 := by
    have h2 := Int32.toInt_lt v
    show v.toInt.toNat < 2 ^ 31
    omega
  refine ⟨Int32.toInt_inj.mp ?_, h1⟩
  rw [nI_toInt h1]
  show v.toInt = ((v.toInt.toNat : Nat) : Int)
  omega
section LINE
variable {p : Program} {l : Launch} {e : Env} {R : Room} {s : State} {m : MethodId} {args : Array Value} {below : List Frame} {meth : Method} {c : Code} {H : Heap} {locs : List Loc} {Q : State → Prop}
  {cc : ByteArray} {nL pc : Nat} {rest : List Value} {ls : Array Slot} {g : GG} {A : Nat → Prop} {lv : List (Nat × Value)} {c0 c1 : va_W} {q m0 : Nat} {ln z : Nv} {gh : LG}
theorem cl_lnC {k0 s0 : Nat} (hx : p.tables.exec = Jvm.exec) (hb : c.code = cc) (hml : c.maxLocals = nL) (hown : s.vm.findClass RX4 = some m.cls) (hts2 : ∀ w ∈ WW2, w.before args s = true) (hK : va_K g.1 vwCl (TY g) s) (hE : EV g A s s.heap) (hA : ∀ q : Nat, s.heap.size ≤ q → A q) (hl : lv_has ls nL lv)
    (hP : va_P g.1 vwCl ([c0, c1, wLn g q ln gh] : List va_W).flatten H) (hD : va_D A ([c0, c1, wLn g q ln gh] : List va_W).flatten) (hS : va_S A s.heap H locs) {ch : Nat} (hz : F_lnC ln ch = some z) (hgh : LKm m0 ln gh) (hRm : 6 ≤ R.frames ∧ 180 ≤ R.locals ∧ k0 + 402 ≤ R.cells ∧ s0 + 804 ≤ R.slots) (hW : (rest.map fun v => v.category).sum ≤ 8) (hdg : decode cc pc = .ok (.invokevirtual 280, 3))
    (kk : ∀ (gh1 : LG) (H1 : Heap) (locs1 : List Loc), LKm m0 z gh1 → va_P g.1 vwCl ([c0, c1, wLn g q z gh1] : List va_W).flatten H1 → va_D A ([c0, c1, wLn g q z gh1] : List va_W).flatten → va_S A s.heap H1 locs1 → W p l e R s m args below meth c H1 locs1 (k0 + (gh1.2.2.1 - m0)) (s0 + 2 * (gh1.2.2.1 - m0)) Q (F0 m (pc + 3) ls (.ref q :: rest))) : W p l e R s m args below meth c H locs (k0 + (gh.2.2.1 - m0)) (s0 + 2 * (gh.2.2.1 - m0)) Q (F0 m pc ls (.int (nI ch) :: .ref q :: rest)) := by
  have h1 := of_decide_eq_true (ck_t hz)
  have hz := ck_s hz
  cases hz
  have hle := lkm_le hgh
  have hge := sb_cap_ge (ln.1 + 1) gh.2.2.1
  have hgm := sb_cap_gem (ln.1 + 1) gh.2.2.1
  have hcl : sb_cap (ln.1 + 1) gh.2.2.1 ≤ 402 := by
    unfold sb_cap
    (repeat' split) <;> omega
  refine cg_V (csR := [c0, c1]) (csF := fun x => [c0, c1, wL g q (nI (ln.1 + 1)) x]) (rest := rest) hx hb hml hown hts2 hK hE hA hl hP hD hS (sc_appendC g l q ln.2 ln.1 gh ch h1.1 h1.2 hgh.1) [2] [0, 1] [0, 1, 2] ⟨rfl, rfl⟩ (fun _ => ⟨rfl, rfl, rfl, rfl, rfl, rfl, rfl⟩) ⟨0, 1, _, _, rfl, rfl, rfl⟩ 1 (jb_giV2 (WT_in 670 (by decide +kernel) (by decide +kernel)) (WT_in 671 (by decide +kernel) (by decide +kernel)) (WT_in 672 (by decide +kernel) (by decide +kernel)) (WT_in 7 (by decide +kernel) (by decide +kernel)) (WT_in 673 (by decide +kernel) (by decide +kernel))) ⟨rfl, rfl⟩ (by decide +kernel) ⟨⟨by dsimp only; omega, by dsimp only; omega⟩, by omega, by omega⟩ ⟨rfl, rfl⟩ hW hdg (fun gh1 H locs hp hP hD hS => ?_)
  obtain ⟨hp1, hp2⟩ := hp
  rw [show k0 + (gh.2.2.1 - m0) + (sb_cap (ln.1 + 1) gh.2.2.1 - gh.2.2.1) = k0 + (gh1.2.2.1 - m0) by omega, show s0 + 2 * (gh.2.2.1 - m0) + 2 * (sb_cap (ln.1 + 1) gh.2.2.1 - gh.2.2.1) = s0 + 2 * (gh1.2.2.1 - m0) by omega]
  exact kk gh1 H locs ⟨hp1, by omega⟩ hP hD hS
theorem cl_lnI {k0 s0 : Nat} (hx : p.tables.exec = Jvm.exec) (hb : c.code = cc) (hml : c.maxLocals = nL) (hown : s.vm.findClass RX4 = some m.cls) (hts2 : ∀ w ∈ WW2, w.before args s = true) (hK : va_K g.1 vwCl (TY g) s) (hE : EV g A s s.heap) (hA : ∀ q : Nat, s.heap.size ≤ q → A q) (hl : lv_has ls nL lv)
    (hP : va_P g.1 vwCl ([c0, c1, wLn g q ln gh] : List va_W).flatten H) (hD : va_D A ([c0, c1, wLn g q ln gh] : List va_W).flatten) (hS : va_S A s.heap H locs) {v : Int32} (hz : F_lnI ln v = some z) (hgh : LKm m0 ln gh) (hRm : 6 ≤ R.frames ∧ 180 ≤ R.locals ∧ k0 + 402 ≤ R.cells ∧ s0 + 804 ≤ R.slots) (hW : (rest.map fun v => v.category).sum ≤ 8) (hdg : decode cc pc = .ok (.invokevirtual 277, 3))
    (kk : ∀ (gh1 : LG) (H1 : Heap) (locs1 : List Loc), LKm m0 z gh1 → va_P g.1 vwCl ([c0, c1, wLn g q z gh1] : List va_W).flatten H1 → va_D A ([c0, c1, wLn g q z gh1] : List va_W).flatten → va_S A s.heap H1 locs1 → W p l e R s m args below meth c H1 locs1 (k0 + (gh1.2.2.1 - m0)) (s0 + 2 * (gh1.2.2.1 - m0)) Q (F0 m (pc + 3) ls (.ref q :: rest))) : W p l e R s m args below meth c H locs (k0 + (gh.2.2.1 - m0)) (s0 + 2 * (gh.2.2.1 - m0)) Q (F0 m pc ls (.int v :: .ref q :: rest)) := by
  have h1 := of_decide_eq_true (ck_t hz)
  have hz := ck_s hz
  cases hz
  have hle := lkm_le hgh
  obtain ⟨hv1, hv2⟩ := nI_self h1.1
  have hd1 := sb_dg_in v.toNatClampNeg
  have hge := sb_cap_ge (ln.1 + sb_dg v.toNatClampNeg) gh.2.2.1
  have hgm := sb_cap_gem (ln.1 + sb_dg v.toNatClampNeg) gh.2.2.1
  have hcl : sb_cap (ln.1 + sb_dg v.toNatClampNeg) gh.2.2.1 ≤ 402 := by
    unfold sb_cap
    (repeat' split) <;> omega
  rw [show F0 m pc ls (.int v :: .ref q :: rest) = F0 m pc ls (.int (nI v.toNatClampNeg) :: .ref q :: rest) by rw [← hv1]]
  refine cg_V (csR := [c0, c1]) (csF := fun x => [c0, c1, wL g q (nI (ln.1 + sb_dg v.toNatClampNeg)) x]) (rest := rest) hx hb hml hown hts2 hK hE hA hl hP hD hS (sc_appendI g l q ln.2 ln.1 gh v.toNatClampNeg h1.2 hv2 hgh.1) [2] [0, 1] [0, 1, 2] ⟨rfl, rfl⟩ (fun _ => ⟨rfl, rfl, rfl, rfl, rfl, rfl, rfl⟩) ⟨0, 1, _, _, rfl, rfl, rfl⟩ 1 (jb_giV2 (WT_in 692 (by decide +kernel) (by decide +kernel)) (WT_in 459 (by decide +kernel) (by decide +kernel)) (WT_in 460 (by decide +kernel) (by decide +kernel)) (WT_in 7 (by decide +kernel) (by decide +kernel)) (WT_in 461 (by decide +kernel) (by decide +kernel))) ⟨rfl, rfl⟩ (by decide +kernel) ⟨⟨by dsimp only; omega, by dsimp only; omega⟩, by omega, by omega⟩ ⟨rfl, rfl⟩ hW hdg (fun gh1 H locs hp hP hD hS => ?_)
  obtain ⟨hp1, hp2⟩ := hp
  rw [show k0 + (gh.2.2.1 - m0) + (sb_cap (ln.1 + sb_dg v.toNatClampNeg) gh.2.2.1 - gh.2.2.1) = k0 + (gh1.2.2.1 - m0) by omega, show s0 + 2 * (gh.2.2.1 - m0) + 2 * (sb_cap (ln.1 + sb_dg v.toNatClampNeg) gh.2.2.1 - gh.2.2.1) = s0 + 2 * (gh1.2.2.1 - m0) by omega]
  exact kk gh1 H locs ⟨hp1, by omega⟩ hP hD hS
theorem cl_lnZ {cells slots : Nat} (hx : p.tables.exec = Jvm.exec) (hb : c.code = cc) (hml : c.maxLocals = nL) (hown : s.vm.findClass RX4 = some m.cls) (hts2 : ∀ w ∈ WW2, w.before args s = true) (hK : va_K g.1 vwCl (TY g) s) (hE : EV g A s s.heap) (hA : ∀ q : Nat, s.heap.size ≤ q → A q) (hl : lv_has ls nL lv)
    (hP : va_P g.1 vwCl ([c0, c1, wLn g q ln gh] : List va_W).flatten H) (hD : va_D A ([c0, c1, wLn g q ln gh] : List va_W).flatten) (hS : va_S A s.heap H locs) (hgh : LKm m0 ln gh) (hRm : 6 ≤ R.frames ∧ 180 ≤ R.locals) (hcs : cells ≤ R.cells ∧ slots ≤ R.slots) (hW : (rest.map fun v => v.category).sum ≤ 8) (hdg : decode cc pc = .ok (.invokevirtual 274, 3))
    (kk : ∀ (gh1 : LG) (H1 : Heap) (locs1 : List Loc), gh1.2.2.1 = gh.2.2.1 → LKm m0 (0, ln.2) gh1 → va_P g.1 vwCl ([c0, c1, wLn g q (0, ln.2) gh1] : List va_W).flatten H1 → va_D A ([c0, c1, wLn g q (0, ln.2) gh1] : List va_W).flatten → va_S A s.heap H1 locs1 → W p l e R s m args below meth c H1 locs1 cells slots Q (F0 m (pc + 3) ls rest)) : W p l e R s m args below meth c H locs cells slots Q (F0 m pc ls (.int 0 :: .ref q :: rest)) := by
  have hle := lkm_le hgh
  refine cg_V (csR := [c0, c1]) (csF := fun x => [c0, c1, wL g q (nI 0) x]) (rest := rest) hx hb hml hown hts2 hK hE hA hl hP hD hS (sc_setLength g l q ln.2 ln.1 gh hgh.1) [2] [0, 1] [0, 1, 2] ⟨rfl, rfl⟩ (fun _ => ⟨rfl, rfl, rfl, rfl, rfl, rfl, rfl⟩) ⟨0, 1, _, _, rfl, rfl, rfl⟩ 1 (jb_giV2 (WT_in 327 (by decide +kernel) (by decide +kernel)) (WT_in 328 (by decide +kernel) (by decide +kernel)) (WT_in 329 (by decide +kernel) (by decide +kernel)) (WT_in 7 (by decide +kernel) (by decide +kernel)) (WT_in 330 (by decide +kernel) (by decide +kernel))) ⟨rfl, rfl⟩ (by decide +kernel) ⟨⟨by dsimp only; omega, by dsimp only; omega⟩, hcs.1, hcs.2⟩ ⟨rfl, rfl⟩ hW hdg (fun gh1 H locs hp hP hD hS => ?_)
  obtain ⟨hp1, hp2⟩ := hp
  exact kk gh1 H locs hp1 ⟨⟨Nat.zero_le _, by omega, fun j hj => absurd hj (Nat.not_lt_zero _), hp2⟩, by omega⟩ hP hD hS
theorem cl_lnL {cells slots : Nat} (hx : p.tables.exec = Jvm.exec) (hb : c.code = cc) (hml : c.maxLocals = nL) (hown : s.vm.findClass RX4 = some m.cls) (hts2 : ∀ w ∈ WW2, w.before args s = true) (hK : va_K g.1 vwCl (TY g) s) (hE : EV g A s s.heap) (hA : ∀ q : Nat, s.heap.size ≤ q → A q) (hl : lv_has ls nL lv)
    (hP : va_P g.1 vwCl ([c0, c1, wLn g q ln gh] : List va_W).flatten H) (hD : va_D A ([c0, c1, wLn g q ln gh] : List va_W).flatten) (hS : va_S A s.heap H locs)  (hRm : 6 ≤ R.frames ∧ 180 ≤ R.locals) (hcs : cells ≤ R.cells ∧ slots ≤ R.slots) (hW : (rest.map fun v => v.category).sum ≤ 8) (hdg : decode cc pc = .ok (.invokevirtual 283, 3))
    (kk : ∀ (H1 : Heap) (locs1 : List Loc), va_P g.1 vwCl ([c0, c1, wLn g q ln gh] : List va_W).flatten H1 → va_D A ([c0, c1, wLn g q ln gh] : List va_W).flatten → va_S A s.heap H1 locs1 → W p l e R s m args below meth c H1 locs1 cells slots Q (F0 m (pc + 3) ls (.int (nI ln.1) :: rest))) : W p l e R s m args below meth c H locs cells slots Q (F0 m pc ls (.ref q :: rest)) := by
  exact cg_V (csR := [c0, c1]) (csF := fun _ => [c0, c1, wLn g q ln gh]) (rest := rest) hx hb hml hown hts2 hK hE hA hl hP hD hS (sc_length g l q (nI ln.1) gh) [2] [0, 1] [0, 1, 2] ⟨rfl, rfl⟩ (fun _ => ⟨rfl, rfl, rfl, rfl, rfl, rfl, rfl⟩) ⟨0, 1, _, _, rfl, rfl, rfl⟩ 0 (jb_giV2 (WT_in 699 (by decide +kernel) (by decide +kernel)) (WT_in 505 (by decide +kernel) (by decide +kernel)) (WT_in 1771 (by decide +kernel) (by decide +kernel)) (WT_in 7 (by decide +kernel) (by decide +kernel)) (WT_in 506 (by decide +kernel) (by decide +kernel))) ⟨rfl, rfl⟩ (by decide +kernel) ⟨⟨by dsimp only; omega, by dsimp only; omega⟩, hcs.1, hcs.2⟩ ⟨rfl, rfl⟩ hW hdg (fun _ H locs _ hP hD hS => kk H locs hP hD hS)
theorem cl_lnA {cells slots : Nat} (hx : p.tables.exec = Jvm.exec) (hb : c.code = cc) (hml : c.maxLocals = nL) (hown : s.vm.findClass RX4 = some m.cls) (hts2 : ∀ w ∈ WW2, w.before args s = true) (hK : va_K g.1 vwCl (TY g) s) (hE : EV g A s s.heap) (hA : ∀ q : Nat, s.heap.size ≤ q → A q) (hl : lv_has ls nL lv)
    (hP : va_P g.1 vwCl ([c0, c1, wLn g q ln gh] : List va_W).flatten H) (hD : va_D A ([c0, c1, wLn g q ln gh] : List va_W).flatten) (hS : va_S A s.heap H locs) {i : Nat} (hgh : LK ln.2 ln.1 gh) (hi : i < ln.1) (hRm : 6 ≤ R.frames ∧ 180 ≤ R.locals) (hcs : cells ≤ R.cells ∧ slots ≤ R.slots) (hW : (rest.map fun v => v.category).sum ≤ 8) (hdg : decode cc pc = .ok (.invokevirtual 287, 3))
    (kk : ∀ (H1 : Heap) (locs1 : List Loc), va_P g.1 vwCl ([c0, c1, wLn g q ln gh] : List va_W).flatten H1 → va_D A ([c0, c1, wLn g q ln gh] : List va_W).flatten → va_S A s.heap H1 locs1 → W p l e R s m args below meth c H1 locs1 cells slots Q (F0 m (pc + 3) ls (.int (nI (ln.2 i)) :: rest))) : W p l e R s m args below meth c H locs cells slots Q (F0 m pc ls (.int (nI i) :: .ref q :: rest)) := by
  exact cg_V (csR := [c0, c1]) (csF := fun _ => [c0, c1, wLn g q ln gh]) (rest := rest) hx hb hml hown hts2 hK hE hA hl hP hD hS (sc_charAt g l q ln.2 ln.1 gh i hgh hi) [2] [0, 1] [0, 1, 2] ⟨rfl, rfl⟩ (fun _ => ⟨rfl, rfl, rfl, rfl, rfl, rfl, rfl⟩) ⟨0, 1, _, _, rfl, rfl, rfl⟩ 1 (jb_giV2 (WT_in 1248 (by decide +kernel) (by decide +kernel)) (WT_in 1249 (by decide +kernel) (by decide +kernel)) (WT_in 1250 (by decide +kernel) (by decide +kernel)) (WT_in 7 (by decide +kernel) (by decide +kernel)) (WT_in 1251 (by decide +kernel) (by decide +kernel))) ⟨rfl, rfl⟩ (by decide +kernel) ⟨⟨by dsimp only; omega, by dsimp only; omega⟩, hcs.1, hcs.2⟩ ⟨rfl, rfl⟩ hW hdg (fun _ H locs _ hP hD hS => kk H locs hP hD hS)
end LINE
def F_X4_writeSpan_L106 (b : Bv) (p0 : Int32) (k : Nv → Option ((Int32 × Nv) ⊕ (String × Nv))) : Nat → Nv → Int32 → Option ((Int32 × Nv) ⊕ (String × Nv))
  | 0, _, _ => none
  | n9 + 1, ln, i => ck (inb p0 10) (if B_cracks b p0.toNatClampNeg ≤ i then k ln else (F_lnC ln 47).bind fun z => F_X4_writeSpan_L106 b p0 k n9 z (i + 1))
def F_X4_writeSpan_L137 (b : Bv) (p0 : Int32) : Nat → Nv → Int32 → Option ((Int32 × Nv) ⊕ (String × Nv))
  | 0, _, _ => none
  | n9 + 1, ln, i => if B_vehicles b ≤ i then some (.inl (nI ln.1, ln)) else ck (inb i 8) (if ¬ B_places b i.toNatClampNeg = p0 then F_X4_writeSpan_L137 b p0 n9 ln (i + 1) else (F_lnC ln 32).bind fun z1 => ck (inb i 8) ((F_lnI z1 (B_numbers b i.toNatClampNeg)).bind fun z2 => (F_lnC z2 119).bind fun z3 => ck (inb i 8) ((F_lnI z3 (B_weights b i.toNatClampNeg)).bind fun z4 => F_X4_writeSpan_L137 b p0 n9 z4 (i + 1))))
def F_X4_writeSpan (x : Xv) (b : Bv) (ln : Nv) (p0 : Int32) : Option ((Int32 × Nv) ⊕ (String × Nv)) := obx (F_X4_requireSpan x b p0) (fun _ => (F_lnI (0, ln.2) p0).bind fun z1 => (F_lnC z1 58).bind fun z2 => ck (inb p0 10) ((F_lnI z2 (B_lengths b p0.toNatClampNeg)).bind fun z3 => (F_lnC z3 106).bind fun z4 => ck (inb p0 10) ((F_lnI z4 (B_jars b p0.toNatClampNeg)).bind fun z5 => (F_lnC z5 104).bind fun z6 => ck (inb p0 10) ((F_lnI z6 (B_ages b p0.toNatClampNeg)).bind fun z7 => (F_lnC z7 61).bind fun z8 => (F_X0_strengthOf b p0).bind fun z9 => (F_lnI z8 z9).bind fun z10 => F_X4_writeSpan_L106 b p0 (fun ln => F_X4_writeSpan_L137 b p0 1000 ln 0) 1000 z10 0)))) (fun e => some (.inr (e, ln)))
/-! a method that may throw and makes a world of its own -/
def QXG {G : Type} (g : GG) (res : G → (Option Value × List va_W) ⊕ (String × List va_W)) (Pr : G → Prop) (A : Nat → Prop) : Array Value → State → Outcome → State → Prop := fun _ st oc t =>
  (∃ (x : G) (v : Option Value) (cs' : List va_W), oc = .returned v ∧ res x = .inl (v, cs') ∧ Pr x ∧ va_P g.1 vwCl cs'.flatten t.heap ∧ va_D A cs'.flatten) ∧ va_F A st t
def XXG {G : Type} (g : GG) (res : G → (Option Value × List va_W) ⊕ (String × List va_W)) (Pr : G → Prop) (A : Nat → Prop) : String → State → State → Prop := fun E st t =>
  (∃ (x : G) (cs' : List va_W), res x = .inr (E, cs') ∧ Pr x ∧ va_P g.1 vwCl cs'.flatten t.heap ∧ va_D A cs'.flatten) ∧ va_F A st t
def MXG {G : Type} (g : GG) (l : Launch) (y : MethodName) (cc : ByteArray) (n : Nat) (ret : Option FieldType) (rm : Room) (av : List Value) (cs : List va_W) (mc ms : Nat) (res : G → (Option Value × List va_W) ⊕ (String × List va_W)) (Pr : G → Prop) : Prop :=
  ∀ sz : Nat, vx_Met l y (wsL y cc n ret) rm (va_Pc av (PRE g cs sz)) (QXG g res Pr (va_A cs.flatten sz)) (XXG g res Pr (va_A cs.flatten sz)) mc ms (va_A cs.flatten sz)
theorem MXG.bg {G : Type} {g : GG} {l : Launch} {y : MethodName} {cc : ByteArray} {n : Nat} {ret : Option FieldType} {rm : Room} {av : List Value} {cs : List va_W} {mc ms : Nat} {res : G → (Option Value × List va_W) ⊕ (String × List va_W)} {Pr : G → Prop} (hy : plainName y.cls = true) (hn : (lg_sl av).length ≤ n)
    (body : ∀ (p : Program) (e : Env) (s : State) (m : MethodId) (below : List Frame) (meth : Method) (c : Code) (A : Nat → Prop) (Q : State → Prop), Q = (vx_MQ below (QXG g res Pr A) (XXG g res Pr A) av.toArray s mc ms A) → p.tables.exec = Jvm.exec → c.code = cc → meth.sig.returnType = ret → c.maxLocals = n → s.vm.findClass y.cls = some m.cls → (∀ w ∈ WW, w.before av.toArray s = true) → (∀ w ∈ WW2, w.before av.toArray s = true) → meth.locks = false → (∀ x ∈ c.exceptionTable.toList, False) → va_K g.1 vwCl (TY g) s → EV g A s s.heap → (∀ q : Nat, s.heap.size ≤ q → A q) → va_P g.1 vwCl cs.flatten s.heap → va_D A cs.flatten → va_S A s.heap s.heap [] →
      ∀ ls : Array Slot, lv_has ls n (lv_args 0 av) → W p l e rm s m av.toArray below meth c s.heap [] 0 0 Q (F0 m 0 ls [])) : MXG g l y cc n ret rm av cs mc ms res Pr := by
  intro sz
  refine vx_ofW (cc := cc) (maxL := n) (ret := ret) hy rfl ?_
  intro p e s m args below meth c s₁ B hml htab hv
  obtain ⟨rfl, hsz, hP, hK, hD0, hE⟩ := hv
  subst hsz
  have hts := atoms_spec (ws := wsL y cc n ret) B.pre
  have hl := lv_entry av (n := n) hn
  rw [lg_entry_eq]
  exact body p e s m below meth c (va_A cs.flatten s.heap.size) _ rfl B.exec B.bytes B.returns hml (findClass_of_methodNamed B.named) (fun w hw => hts w (List.mem_cons_of_mem _ (w2_in hw))) (fun w hw => hts w (List.mem_cons_of_mem _ hw)) B.notSynchronized htab hK hE (fun q h => Or.inr h) hP hD0.self va_S.rf _ hl
section XGENDS
variable {p : Program} {l : Launch} {e : Env} {R : Room} {s : State} {m : MethodId} {args : Array Value} {below : List Frame} {meth : Method} {c : Code} {H : Heap} {locs : List Loc} {cells slots mc ms : Nat} {cc : ByteArray} {g : GG} {A : Nat → Prop} {cs : List va_W} {G : Type} {res : G → (Option Value × List va_W) ⊕ (String × List va_W)} {Pr : G → Prop} {XC : String → State → State → Prop}
theorem jxg_iret {v : Int32} {ty : FieldType} {pc : Nat} {ls : Array Slot} (hx : p.tables.exec = Jvm.exec) (hb : c.code = cc) (hr : meth.sig.returnType = some ty) (hn : narrow ty (.int v) = .int v) (hlocks : meth.locks = false) (hP : va_P g.1 vwCl cs.flatten H) (hD : va_D A cs.flatten) (hS : va_S A s.heap H locs) (hdg : decode cc pc = .ok (.ireturn, 1)) (x : G) (hv : res x = .inl (some (.int v), cs)) (hp : Pr x) (hc : cells ≤ mc) (hs : slots ≤ ms) :
    W p l e R s m args below meth c H locs cells slots (vx_MQ below (QXG g res Pr A) XC args s mc ms A) (F0 m pc ls [.int v]) := by
  refine vx_ret (W.widen hc hs ?_)
  exact W.zret (v := v) hx hb hr hn (fun t ht hW => ⟨⟨x, _, cs, rfl, hv, hp, by rw [ht]; exact hP, hD⟩, hS.F ht⟩) hS.2.2 hdg hlocks
theorem jxg_out {E : String} {q9 : Addr} {ce : Cell} {pc : Nat} {ls : Array Slot} {rest : List Value} (htab : ∀ x ∈ c.exceptionTable.toList, False) (hlocks : meth.locks = false) (hP : va_P g.1 vwCl cs.flatten H) (hD : va_D A cs.flatten) (hS : va_S A s.heap H locs) (h1 : H[q9]? = some ce) (h2 : ce.vm = .none) (h3 : s.vm.findClass E = some ce.cls) (x : G) (hv : res x = .inr (E, cs)) (hp : Pr x) (hc : cells ≤ mc) (hs : slots ≤ ms) :
    vx_W p l e R s m args below meth c H locs cells slots (vx_MQ below (QXG g res Pr A) (XXG g res Pr A) args s mc ms A) (F0 m pc ls rest) q9 :=
  vx_out (fun x hx => (htab x hx).elim) hlocks h1 h2 h3 (fun t ht hW => ⟨⟨x, cs, hv, hp, by rw [ht]; exact hP, hD⟩, hS.F ht⟩) hS.2.2 hc hs
end XGENDS
set_option maxHeartbeats 4000000 in
set_option maxRecDepth 100000 in
theorem c_X4_writeSpan (g : GG) (l : Launch) (hst : l.stackTraces = false) (a a1 a2 a3 a4 a5 a6 a7 : Nat → Nat) (x : Xv) (b : Bv) (ln : Nv) (gh0 : LG) (hg0 : LK ln.2 ln.1 gh0) (p0 : Int32) (z : (Int32 × Nv) ⊕ (String × Nv)) (hF : F_X4_writeSpan x b ln p0 = some z) : MXG (G := LG) g l yX4_writeSpan cX4_writeSpan 3 (some .int) ({ frames := 10, cells := 403, slots := 810, locals := 300 } : Room) [.ref (a 0), .int p0] [wX g a a1 a2 a3 a4 a5 a6 a7 x, wB g a1 b, wLn g (a7 0) ln gh0] 403 810 (fun gh => Sum.elim (fun y => .inl (some (.int y.1), [wX g a a1 a2 a3 a4 a5 a6 a7 x, wB g a1 b, wLn g (a7 0) y.2 gh])) (fun y => .inr (y.1, [wX g a a1 a2 a3 a4 a5 a6 a7 x, wB g a1 b, wLn g (a7 0) y.2 gh])) z) (fun gh => Sum.elim (fun y => LK y.2.2 y.2.1 gh) (fun y => LK y.2.2 y.2.1 gh) z) := by
  refine MXG.bg (by decide) (Nat.le_of_ble_eq_true rfl) ?_
  intro p e s m below meth c A Q hQ hx hb hr hml hown hts hts2 hlocks htab hK hE hA hP hD hS ls hl
  rw [F_X4_writeSpan] at hF
  have hl : lv_has ls 3 [(0, .ref (a 0)), (1, .int p0)] := hl
  have hgh : LKm gh0.2.2.1 ln gh0 := ⟨hg0, Nat.le_refl _⟩
  refine lv_aload_n hx hb dX4_writeSpan_0 rfl (lv_at hl 0 rfl) ?_
  refine lv_iload_n hx hb dX4_writeSpan_1 rfl (lv_at hl 1 rfl) ?_
  rcases ob_bx hF with ⟨z0, hz0, hF⟩ | ⟨z0, hz0, hF⟩
  rotate_left
  · refine cx_x (csR := [wLn g (a7 0) ln gh0]) (csF := [wX g a a1 a2 a3 a4 a5 a6 a7 x, wB g a1 b, wLn g (a7 0) ln gh0]) (rest := []) hx hb hml hown hts hK hE hA hl hP hD hS (c_X4_requireSpan g l hst a a1 a2 a3 a4 a5 a6 a7 x b p0 (.inr z0) hz0) [0, 1] [2] [1, 2, 0] ⟨rfl, rfl, rfl, rfl, rfl, rfl, rfl⟩ ⟨0, 8, _, _, rfl, rfl, rfl⟩ 1 (jb_giV (WT_in 854 (by decide +kernel) (by decide +kernel)) (WT_in 856 (by decide +kernel) (by decide +kernel)) (WS_in 11 (by decide +kernel) (by decide +kernel)) (WT_in 1 (by decide +kernel) (by decide +kernel)) (WT_in 857 (by decide +kernel) (by decide +kernel))) ⟨rfl, rfl⟩ (by decide +kernel) ⟨⟨(Nat.le_of_ble_eq_true rfl), (Nat.le_of_ble_eq_true rfl)⟩, (Nat.le_of_ble_eq_true rfl), (Nat.le_of_ble_eq_true rfl)⟩ ⟨rfl, rfl⟩ (Nat.le_of_ble_eq_true rfl) dX4_writeSpan_2 (fun H locs q9 ce hP hD hS h1 h2 h3 => ?_)
    cases hF
    rw [hQ]
    exact jxg_out htab hlocks hP hD hS h1 h2 h3 gh0 rfl hg0 (Nat.le_of_ble_eq_true rfl) (Nat.le_of_ble_eq_true rfl)
  refine cx_n (csR := [wLn g (a7 0) ln gh0]) (csF := [wX g a a1 a2 a3 a4 a5 a6 a7 x, wB g a1 b, wLn g (a7 0) ln gh0]) (rest := []) hx hb hml hown hts hK hE hA hl hP hD hS (c_X4_requireSpan g l hst a a1 a2 a3 a4 a5 a6 a7 x b p0 (.inl z0) hz0) [0, 1] [2] [1, 2, 0] ⟨rfl, rfl, rfl, rfl, rfl, rfl, rfl⟩ ⟨0, 8, _, _, rfl, rfl, rfl⟩ 1 (jb_giV (WT_in 854 (by decide +kernel) (by decide +kernel)) (WT_in 856 (by decide +kernel) (by decide +kernel)) (WS_in 11 (by decide +kernel) (by decide +kernel)) (WT_in 1 (by decide +kernel) (by decide +kernel)) (WT_in 857 (by decide +kernel) (by decide +kernel))) ⟨rfl, rfl⟩ (by decide +kernel) ⟨⟨(Nat.le_of_ble_eq_true rfl), (Nat.le_of_ble_eq_true rfl)⟩, (Nat.le_of_ble_eq_true rfl), (Nat.le_of_ble_eq_true rfl)⟩ ⟨rfl, rfl⟩ (Nat.le_of_ble_eq_true rfl) dX4_writeSpan_2 (fun H locs hP hD hS => ?_)
  refine W.eq (g2 := F0 m 5 ls []) rfl ?_
  refine lv_aload_n hx hb dX4_writeSpan_5 rfl (lv_at hl 0 rfl) ?_
  refine va_get (D := g.1) (ci := 8) (v := .ref (a7 0)) (C := RX4) (T := TX4) (N := 12) hx hb hts inX4 hown hK hP 0 rfl rfl 6 (by decide) (hts _ (WT_in 229 (by decide +kernel) (by decide +kernel))) (fun _ h9 => h9) rfl dX4_writeSpan_6 ?_
  refine lv_iconst (v := 0) hx hb dX4_writeSpan_9 (by decide) ?_
  refine cl_lnZ (rest := []) hx hb hml hown hts2 hK hE hA hl hP hD hS hgh ⟨(Nat.le_of_ble_eq_true rfl), (Nat.le_of_ble_eq_true rfl)⟩ ⟨(Nat.le_of_ble_eq_true rfl), (Nat.le_of_ble_eq_true rfl)⟩ (Nat.le_of_ble_eq_true rfl) dX4_writeSpan_10 (fun gh H locs hm9 hgh hP hD hS => ?_)
  refine W.widen (k := 1 + (gh.2.2.1 - gh0.2.2.1)) (n := 6 + 2 * (gh.2.2.1 - gh0.2.2.1)) (by omega) (by omega) ?_
  refine lv_aload_n hx hb dX4_writeSpan_13 rfl (lv_at hl 0 rfl) ?_
  refine va_get (D := g.1) (ci := 8) (v := .ref (a7 0)) (C := RX4) (T := TX4) (N := 12) hx hb hts inX4 hown hK hP 0 rfl rfl 6 (by decide) (hts _ (WT_in 229 (by decide +kernel) (by decide +kernel))) (fun _ h9 => h9) rfl dX4_writeSpan_14 ?_
  refine lv_iload_n hx hb dX4_writeSpan_17 rfl (lv_at hl 1 rfl) ?_
  obtain ⟨z1, hz1, hF⟩ := ob_bind hF
  refine cl_lnI (rest := []) hx hb hml hown hts2 hK hE hA hl hP hD hS hz1 hgh ⟨(Nat.le_of_ble_eq_true rfl), (Nat.le_of_ble_eq_true rfl), (Nat.le_of_ble_eq_true rfl), (Nat.le_of_ble_eq_true rfl)⟩ (Nat.le_of_ble_eq_true rfl) dX4_writeSpan_18 (fun gh H locs hgh hP hD hS => ?_)
  refine lv_bipush (v := nI 58) hx hb dX4_writeSpan_21 (by decide) ?_
  obtain ⟨z2, hz2, hF⟩ := ob_bind hF
  refine cl_lnC (rest := []) hx hb hml hown hts2 hK hE hA hl hP hD hS hz2 hgh ⟨(Nat.le_of_ble_eq_true rfl), (Nat.le_of_ble_eq_true rfl), (Nat.le_of_ble_eq_true rfl), (Nat.le_of_ble_eq_true rfl)⟩ (Nat.le_of_ble_eq_true rfl) dX4_writeSpan_23 (fun gh H locs hgh hP hD hS => ?_)
  refine lv_aload_n hx hb dX4_writeSpan_26 rfl (lv_at hl 0 rfl) ?_
  refine va_get (D := g.1) (ci := 8) (v := .ref (a1 0)) (C := RX4) (T := TX4) (N := 12) hx hb hts inX4 hown hK hP 0 rfl rfl 0 (by decide) (hts _ (WT_in 223 (by decide +kernel) (by decide +kernel))) (fun _ h9 => h9) rfl dX4_writeSpan_27 ?_
  refine va_getN (D := g.1) (ci := 4) (v := .ref (a1 1)) (C := RX0) (T := TX0) (N := 17) hx hb hts inX0 hown hK hP 1 rfl rfl 1 (by decide) (hE.nf 2 rfl) (fun _ h9 => h9) rfl dX4_writeSpan_30 ?_
  refine lv_iload_n hx hb dX4_writeSpan_33 rfl (lv_at hl 1 rfl) ?_
  have hi9 := inb_in (ck_t hF)
  have hF := ck_s hF
  refine va_iald hx hb hK hP 2 0 rfl rfl hi9 dX4_writeSpan_34 ?_
  obtain ⟨z3, hz3, hF⟩ := ob_bind hF
  refine cl_lnI (rest := []) hx hb hml hown hts2 hK hE hA hl hP hD hS hz3 hgh ⟨(Nat.le_of_ble_eq_true rfl), (Nat.le_of_ble_eq_true rfl), (Nat.le_of_ble_eq_true rfl), (Nat.le_of_ble_eq_true rfl)⟩ (Nat.le_of_ble_eq_true rfl) dX4_writeSpan_35 (fun gh H locs hgh hP hD hS => ?_)
  refine lv_pop hx hb dX4_writeSpan_38 rfl ?_
  refine lv_aload_n hx hb dX4_writeSpan_39 rfl (lv_at hl 0 rfl) ?_
  refine va_get (D := g.1) (ci := 8) (v := .ref (a7 0)) (C := RX4) (T := TX4) (N := 12) hx hb hts inX4 hown hK hP 0 rfl rfl 6 (by decide) (hts _ (WT_in 229 (by decide +kernel) (by decide +kernel))) (fun _ h9 => h9) rfl dX4_writeSpan_40 ?_
  refine lv_bipush (v := nI 106) hx hb dX4_writeSpan_43 (by decide) ?_
  obtain ⟨z4, hz4, hF⟩ := ob_bind hF
  refine cl_lnC (rest := []) hx hb hml hown hts2 hK hE hA hl hP hD hS hz4 hgh ⟨(Nat.le_of_ble_eq_true rfl), (Nat.le_of_ble_eq_true rfl), (Nat.le_of_ble_eq_true rfl), (Nat.le_of_ble_eq_true rfl)⟩ (Nat.le_of_ble_eq_true rfl) dX4_writeSpan_45 (fun gh H locs hgh hP hD hS => ?_)
  refine lv_aload_n hx hb dX4_writeSpan_48 rfl (lv_at hl 0 rfl) ?_
  refine va_get (D := g.1) (ci := 8) (v := .ref (a1 0)) (C := RX4) (T := TX4) (N := 12) hx hb hts inX4 hown hK hP 0 rfl rfl 0 (by decide) (hts _ (WT_in 223 (by decide +kernel) (by decide +kernel))) (fun _ h9 => h9) rfl dX4_writeSpan_49 ?_
  refine va_getN (D := g.1) (ci := 4) (v := .ref (a1 2)) (C := RX0) (T := TX0) (N := 17) hx hb hts inX0 hown hK hP 1 rfl rfl 2 (by decide) (hE.nf 4 rfl) (fun _ h9 => h9) rfl dX4_writeSpan_52 ?_
  refine lv_iload_n hx hb dX4_writeSpan_55 rfl (lv_at hl 1 rfl) ?_
  have hi9 := inb_in (ck_t hF)
  have hF := ck_s hF
  refine va_iald hx hb hK hP 3 0 rfl rfl hi9 dX4_writeSpan_56 ?_
  obtain ⟨z5, hz5, hF⟩ := ob_bind hF
  refine cl_lnI (rest := []) hx hb hml hown hts2 hK hE hA hl hP hD hS hz5 hgh ⟨(Nat.le_of_ble_eq_true rfl), (Nat.le_of_ble_eq_true rfl), (Nat.le_of_ble_eq_true rfl), (Nat.le_of_ble_eq_true rfl)⟩ (Nat.le_of_ble_eq_true rfl) dX4_writeSpan_57 (fun gh H locs hgh hP hD hS => ?_)
  refine lv_pop hx hb dX4_writeSpan_60 rfl ?_
  refine lv_aload_n hx hb dX4_writeSpan_61 rfl (lv_at hl 0 rfl) ?_
  refine va_get (D := g.1) (ci := 8) (v := .ref (a7 0)) (C := RX4) (T := TX4) (N := 12) hx hb hts inX4 hown hK hP 0 rfl rfl 6 (by decide) (hts _ (WT_in 229 (by decide +kernel) (by decide +kernel))) (fun _ h9 => h9) rfl dX4_writeSpan_62 ?_
  refine lv_bipush (v := nI 104) hx hb dX4_writeSpan_65 (by decide) ?_
  obtain ⟨z6, hz6, hF⟩ := ob_bind hF
  refine cl_lnC (rest := []) hx hb hml hown hts2 hK hE hA hl hP hD hS hz6 hgh ⟨(Nat.le_of_ble_eq_true rfl), (Nat.le_of_ble_eq_true rfl), (Nat.le_of_ble_eq_true rfl), (Nat.le_of_ble_eq_true rfl)⟩ (Nat.le_of_ble_eq_true rfl) dX4_writeSpan_67 (fun gh H locs hgh hP hD hS => ?_)
  refine lv_aload_n hx hb dX4_writeSpan_70 rfl (lv_at hl 0 rfl) ?_
  refine va_get (D := g.1) (ci := 8) (v := .ref (a1 0)) (C := RX4) (T := TX4) (N := 12) hx hb hts inX4 hown hK hP 0 rfl rfl 0 (by decide) (hts _ (WT_in 223 (by decide +kernel) (by decide +kernel))) (fun _ h9 => h9) rfl dX4_writeSpan_71 ?_
  refine va_getN (D := g.1) (ci := 4) (v := .ref (a1 3)) (C := RX0) (T := TX0) (N := 17) hx hb hts inX0 hown hK hP 1 rfl rfl 3 (by decide) (hE.nf 5 rfl) (fun _ h9 => h9) rfl dX4_writeSpan_74 ?_
  refine lv_iload_n hx hb dX4_writeSpan_77 rfl (lv_at hl 1 rfl) ?_
  have hi9 := inb_in (ck_t hF)
  have hF := ck_s hF
  refine va_iald hx hb hK hP 4 0 rfl rfl hi9 dX4_writeSpan_78 ?_
  obtain ⟨z7, hz7, hF⟩ := ob_bind hF
  refine cl_lnI (rest := []) hx hb hml hown hts2 hK hE hA hl hP hD hS hz7 hgh ⟨(Nat.le_of_ble_eq_true rfl), (Nat.le_of_ble_eq_true rfl), (Nat.le_of_ble_eq_true rfl), (Nat.le_of_ble_eq_true rfl)⟩ (Nat.le_of_ble_eq_true rfl) dX4_writeSpan_79 (fun gh H locs hgh hP hD hS => ?_)
  refine lv_pop hx hb dX4_writeSpan_82 rfl ?_
  refine lv_aload_n hx hb dX4_writeSpan_83 rfl (lv_at hl 0 rfl) ?_
  refine va_get (D := g.1) (ci := 8) (v := .ref (a7 0)) (C := RX4) (T := TX4) (N := 12) hx hb hts inX4 hown hK hP 0 rfl rfl 6 (by decide) (hts _ (WT_in 229 (by decide +kernel) (by decide +kernel))) (fun _ h9 => h9) rfl dX4_writeSpan_84 ?_
  refine lv_bipush (v := nI 61) hx hb dX4_writeSpan_87 (by decide) ?_
  obtain ⟨z8, hz8, hF⟩ := ob_bind hF
  refine cl_lnC (rest := []) hx hb hml hown hts2 hK hE hA hl hP hD hS hz8 hgh ⟨(Nat.le_of_ble_eq_true rfl), (Nat.le_of_ble_eq_true rfl), (Nat.le_of_ble_eq_true rfl), (Nat.le_of_ble_eq_true rfl)⟩ (Nat.le_of_ble_eq_true rfl) dX4_writeSpan_89 (fun gh H locs hgh hP hD hS => ?_)
  refine lv_aload_n hx hb dX4_writeSpan_92 rfl (lv_at hl 0 rfl) ?_
  refine va_get (D := g.1) (ci := 8) (v := .ref (a1 0)) (C := RX4) (T := TX4) (N := 12) hx hb hts inX4 hown hK hP 0 rfl rfl 0 (by decide) (hts _ (WT_in 223 (by decide +kernel) (by decide +kernel))) (fun _ h9 => h9) rfl dX4_writeSpan_93 ?_
  refine lv_iload_n hx hb dX4_writeSpan_96 rfl (lv_at hl 1 rfl) ?_
  obtain ⟨z9, hz9, hF⟩ := ob_bind hF
  refine cl_i (csR := [wX g a a1 a2 a3 a4 a5 a6 a7 x, wLn g (a7 0) z8 gh]) (csF := [wX g a a1 a2 a3 a4 a5 a6 a7 x, wB g a1 b, wLn g (a7 0) z8 gh]) (rest := [.ref (a7 0)]) hx hb hml hown hts hK hE hA hl hP hD hS (c_X0_strengthOf g l a1 b p0 z9 hz9) [1] [0, 2] [0, 2, 1] ⟨rfl, rfl, rfl, rfl, rfl, rfl, rfl⟩ ⟨0, 4, _, _, rfl, rfl, rfl⟩ 1 (jb_giV (WT_in 284 (by decide +kernel) (by decide +kernel)) (WT_in 285 (by decide +kernel) (by decide +kernel)) (WT_in 286 (by decide +kernel) (by decide +kernel)) (WT_in 2 (by decide +kernel) (by decide +kernel)) (WT_in 287 (by decide +kernel) (by decide +kernel))) ⟨rfl, rfl⟩ (by decide +kernel) ⟨⟨(Nat.le_of_ble_eq_true rfl), (Nat.le_of_ble_eq_true rfl)⟩, by have := lkm_le hgh; dsimp only; omega, by have := lkm_le hgh; dsimp only; omega⟩ ⟨rfl, rfl⟩ (Nat.le_of_ble_eq_true rfl) dX4_writeSpan_97 (fun H locs hP hD hS => ?_)
  obtain ⟨z10, hz10, hF⟩ := ob_bind hF
  refine cl_lnI (rest := []) hx hb hml hown hts2 hK hE hA hl hP hD hS hz10 hgh ⟨(Nat.le_of_ble_eq_true rfl), (Nat.le_of_ble_eq_true rfl), (Nat.le_of_ble_eq_true rfl), (Nat.le_of_ble_eq_true rfl)⟩ (Nat.le_of_ble_eq_true rfl) dX4_writeSpan_100 (fun gh H locs hgh hP hD hS => ?_)
  refine lv_pop hx hb dX4_writeSpan_103 rfl ?_
  refine lv_iconst (v := 0) hx hb dX4_writeSpan_104 (by decide) ?_
  refine lv_istore_n (lv' := [(2, .int 0), (0, .ref (a 0)), (1, .int p0)]) hx hb dX4_writeSpan_105 rfl hl (by decide) rfl (fun ls hl => ?_)
  obtain ⟨k1, ek1, hF⟩ := ob_k (F := fun k9 => F_X4_writeSpan_L106 b p0 k9 1000 z10 0) hF
  have loop2 : ∀ (n9 : Nat) (ln1 : Nv) (i1 : Int32), F_X4_writeSpan_L137 b p0 n9 ln1 i1 = some z → ∀ (gh : LG) (H : Heap) (locs : List Loc), LKm gh0.2.2.1 ln1 gh → va_P g.1 vwCl ([wX g a a1 a2 a3 a4 a5 a6 a7 x, wB g a1 b, wLn g (a7 0) ln1 gh] : List va_W).flatten H → va_D A ([wX g a a1 a2 a3 a4 a5 a6 a7 x, wB g a1 b, wLn g (a7 0) ln1 gh] : List va_W).flatten → va_S A s.heap H locs → ∀ ls : Array Slot, lv_has ls 3 [(2, .int i1), (0, .ref (a 0)), (1, .int p0)] → W p l e ({ frames := 10, cells := 403, slots := 810, locals := 300 } : Room) s m ([.ref (a 0), .int p0] : List Value).toArray below meth c H locs (1 + (gh.2.2.1 - gh0.2.2.1)) (6 + 2 * (gh.2.2.1 - gh0.2.2.1)) Q (F0 m 137 ls []) := by
    intro n9
    induction n9 with
    | zero => intro ln1 i1 hF; cases hF
    | succ n9 ih =>
      intro ln1 i1 hF gh H locs hgh hP hD hS ls hl
      rw [F_X4_writeSpan_L137] at hF
      have hle9 := lkm_le hgh
      refine lv_iload_n hx hb dX4_writeSpan_137 rfl (lv_at hl 0 rfl) ?_
      refine lv_aload_n hx hb dX4_writeSpan_138 rfl (lv_at hl 1 rfl) ?_
      refine va_get (D := g.1) (ci := 8) (v := .ref (a1 0)) (C := RX4) (T := TX4) (N := 12) hx hb hts inX4 hown hK hP 0 rfl rfl 0 (by decide) (hts _ (WT_in 223 (by decide +kernel) (by decide +kernel))) (fun _ h9 => h9) rfl dX4_writeSpan_139 ?_
      refine va_getN (D := g.1) (ci := 4) (v := .int (B_vehicles b)) (C := RX0) (T := TX0) (N := 17) hx hb hts inX0 hown hK hP 1 rfl rfl 6 (by decide) (hE.nf 10 rfl) (fun _ h9 => h9) rfl dX4_writeSpan_142 ?_
      refine lv_icmp_ge (tgt := 211) hx hb dX4_writeSpan_145 (by decide) (fun c1 => ?_) (fun c1 => ?_)
      · have hF := ob_pos c1 hF
        refine lv_aload_n hx hb dX4_writeSpan_211 rfl (lv_at hl 1 rfl) ?_
        refine va_get (D := g.1) (ci := 8) (v := .ref (a7 0)) (C := RX4) (T := TX4) (N := 12) hx hb hts inX4 hown hK hP 0 rfl rfl 6 (by decide) (hts _ (WT_in 229 (by decide +kernel) (by decide +kernel))) (fun _ h9 => h9) rfl dX4_writeSpan_212 ?_
        refine cl_lnL (rest := []) hx hb hml hown hts2 hK hE hA hl hP hD hS ⟨(Nat.le_of_ble_eq_true rfl), (Nat.le_of_ble_eq_true rfl)⟩ ⟨by dsimp only; omega, by dsimp only; omega⟩ (Nat.le_of_ble_eq_true rfl) dX4_writeSpan_215 (fun H locs hP hD hS => ?_)
        cases hF
        rw [hQ]
        exact jxg_iret hx hb hr rfl hlocks hP hD hS dX4_writeSpan_218 gh rfl hgh.1 (by omega) (by omega)
      · have hF := ob_neg c1 hF
        refine lv_aload_n hx hb dX4_writeSpan_148 rfl (lv_at hl 1 rfl) ?_
        refine va_get (D := g.1) (ci := 8) (v := .ref (a1 0)) (C := RX4) (T := TX4) (N := 12) hx hb hts inX4 hown hK hP 0 rfl rfl 0 (by decide) (hts _ (WT_in 223 (by decide +kernel) (by decide +kernel))) (fun _ h9 => h9) rfl dX4_writeSpan_149 ?_
        refine va_getN (D := g.1) (ci := 4) (v := .ref (a1 8)) (C := RX0) (T := TX0) (N := 17) hx hb hts inX0 hown hK hP 1 rfl rfl 9 (by decide) (hE.nf 13 rfl) (fun _ h9 => h9) rfl dX4_writeSpan_152 ?_
        refine lv_iload_n hx hb dX4_writeSpan_155 rfl (lv_at hl 0 rfl) ?_
        have hi9 := inb_in (ck_t hF)
        have hF := ck_s hF
        refine va_iald hx hb hK hP 9 0 rfl rfl hi9 dX4_writeSpan_156 ?_
        refine lv_iload_n hx hb dX4_writeSpan_157 rfl (lv_at hl 2 rfl) ?_
        refine lv_icmp_ne (tgt := 205) hx hb dX4_writeSpan_158 (by decide) (fun c2 => ?_) (fun c2 => ?_)
        · have hF := ob_pos c2 hF
          refine lv_iinc (v := i1 + 1) (lv' := [(2, .int (i1 + 1)), (0, .ref (a 0)), (1, .int p0)]) hx hb dX4_writeSpan_205 hl (k := 0) rfl (by rfl) (by decide) rfl (fun ls hl => ?_)
          refine lv_goto (tgt := 137) hx hb dX4_writeSpan_208 (by decide) ?_
          exact ih _ _ hF _ _ _ hgh hP hD hS ls (lv_sub hl [0, 1, 2] rfl)
        · have hF := ob_nneg c2 hF
          refine lv_aload_n hx hb dX4_writeSpan_161 rfl (lv_at hl 1 rfl) ?_
          refine va_get (D := g.1) (ci := 8) (v := .ref (a7 0)) (C := RX4) (T := TX4) (N := 12) hx hb hts inX4 hown hK hP 0 rfl rfl 6 (by decide) (hts _ (WT_in 229 (by decide +kernel) (by decide +kernel))) (fun _ h9 => h9) rfl dX4_writeSpan_162 ?_
          refine lv_bipush (v := nI 32) hx hb dX4_writeSpan_165 (by decide) ?_
          obtain ⟨z1, hz1, hF⟩ := ob_bind hF
          refine cl_lnC (rest := []) hx hb hml hown hts2 hK hE hA hl hP hD hS hz1 hgh ⟨(Nat.le_of_ble_eq_true rfl), (Nat.le_of_ble_eq_true rfl), (Nat.le_of_ble_eq_true rfl), (Nat.le_of_ble_eq_true rfl)⟩ (Nat.le_of_ble_eq_true rfl) dX4_writeSpan_167 (fun gh H locs hgh hP hD hS => ?_)
          refine lv_aload_n hx hb dX4_writeSpan_170 rfl (lv_at hl 1 rfl) ?_
          refine va_get (D := g.1) (ci := 8) (v := .ref (a1 0)) (C := RX4) (T := TX4) (N := 12) hx hb hts inX4 hown hK hP 0 rfl rfl 0 (by decide) (hts _ (WT_in 223 (by decide +kernel) (by decide +kernel))) (fun _ h9 => h9) rfl dX4_writeSpan_171 ?_
          refine va_getN (D := g.1) (ci := 4) (v := .ref (a1 6)) (C := RX0) (T := TX0) (N := 17) hx hb hts inX0 hown hK hP 1 rfl rfl 7 (by decide) (hE.nf 11 rfl) (fun _ h9 => h9) rfl dX4_writeSpan_174 ?_
          refine lv_iload_n hx hb dX4_writeSpan_177 rfl (lv_at hl 0 rfl) ?_
          have hi9 := inb_in (ck_t hF)
          have hF := ck_s hF
          refine va_iald hx hb hK hP 7 0 rfl rfl hi9 dX4_writeSpan_178 ?_
          obtain ⟨z2, hz2, hF⟩ := ob_bind hF
          refine cl_lnI (rest := []) hx hb hml hown hts2 hK hE hA hl hP hD hS hz2 hgh ⟨(Nat.le_of_ble_eq_true rfl), (Nat.le_of_ble_eq_true rfl), (Nat.le_of_ble_eq_true rfl), (Nat.le_of_ble_eq_true rfl)⟩ (Nat.le_of_ble_eq_true rfl) dX4_writeSpan_179 (fun gh H locs hgh hP hD hS => ?_)
          refine lv_pop hx hb dX4_writeSpan_182 rfl ?_
          refine lv_aload_n hx hb dX4_writeSpan_183 rfl (lv_at hl 1 rfl) ?_
          refine va_get (D := g.1) (ci := 8) (v := .ref (a7 0)) (C := RX4) (T := TX4) (N := 12) hx hb hts inX4 hown hK hP 0 rfl rfl 6 (by decide) (hts _ (WT_in 229 (by decide +kernel) (by decide +kernel))) (fun _ h9 => h9) rfl dX4_writeSpan_184 ?_
          refine lv_bipush (v := nI 119) hx hb dX4_writeSpan_187 (by decide) ?_
          obtain ⟨z3, hz3, hF⟩ := ob_bind hF
          refine cl_lnC (rest := []) hx hb hml hown hts2 hK hE hA hl hP hD hS hz3 hgh ⟨(Nat.le_of_ble_eq_true rfl), (Nat.le_of_ble_eq_true rfl), (Nat.le_of_ble_eq_true rfl), (Nat.le_of_ble_eq_true rfl)⟩ (Nat.le_of_ble_eq_true rfl) dX4_writeSpan_189 (fun gh H locs hgh hP hD hS => ?_)
          refine lv_aload_n hx hb dX4_writeSpan_192 rfl (lv_at hl 1 rfl) ?_
          refine va_get (D := g.1) (ci := 8) (v := .ref (a1 0)) (C := RX4) (T := TX4) (N := 12) hx hb hts inX4 hown hK hP 0 rfl rfl 0 (by decide) (hts _ (WT_in 223 (by decide +kernel) (by decide +kernel))) (fun _ h9 => h9) rfl dX4_writeSpan_193 ?_
          refine va_getN (D := g.1) (ci := 4) (v := .ref (a1 7)) (C := RX0) (T := TX0) (N := 17) hx hb hts inX0 hown hK hP 1 rfl rfl 8 (by decide) (hE.nf 12 rfl) (fun _ h9 => h9) rfl dX4_writeSpan_196 ?_
          refine lv_iload_n hx hb dX4_writeSpan_199 rfl (lv_at hl 0 rfl) ?_
          have hi9 := inb_in (ck_t hF)
          have hF := ck_s hF
          refine va_iald hx hb hK hP 8 0 rfl rfl hi9 dX4_writeSpan_200 ?_
          obtain ⟨z4, hz4, hF⟩ := ob_bind hF
          refine cl_lnI (rest := []) hx hb hml hown hts2 hK hE hA hl hP hD hS hz4 hgh ⟨(Nat.le_of_ble_eq_true rfl), (Nat.le_of_ble_eq_true rfl), (Nat.le_of_ble_eq_true rfl), (Nat.le_of_ble_eq_true rfl)⟩ (Nat.le_of_ble_eq_true rfl) dX4_writeSpan_201 (fun gh H locs hgh hP hD hS => ?_)
          refine lv_pop hx hb dX4_writeSpan_204 rfl ?_
          refine lv_iinc (v := i1 + 1) (lv' := [(2, .int (i1 + 1)), (0, .ref (a 0)), (1, .int p0)]) hx hb dX4_writeSpan_205 hl (k := 0) rfl (by rfl) (by decide) rfl (fun ls hl => ?_)
          refine lv_goto (tgt := 137) hx hb dX4_writeSpan_208 (by decide) ?_
          exact ih _ _ hF _ _ _ hgh hP hD hS ls (lv_sub hl [0, 1, 2] rfl)
  have loop1 : ∀ (n9 : Nat) (ln1 : Nv) (i1 : Int32), F_X4_writeSpan_L106 b p0 k1 n9 ln1 i1 = some z → ∀ (gh : LG) (H : Heap) (locs : List Loc), LKm gh0.2.2.1 ln1 gh → va_P g.1 vwCl ([wX g a a1 a2 a3 a4 a5 a6 a7 x, wB g a1 b, wLn g (a7 0) ln1 gh] : List va_W).flatten H → va_D A ([wX g a a1 a2 a3 a4 a5 a6 a7 x, wB g a1 b, wLn g (a7 0) ln1 gh] : List va_W).flatten → va_S A s.heap H locs → ∀ ls : Array Slot, lv_has ls 3 [(2, .int i1), (0, .ref (a 0)), (1, .int p0)] → W p l e ({ frames := 10, cells := 403, slots := 810, locals := 300 } : Room) s m ([.ref (a 0), .int p0] : List Value).toArray below meth c H locs (1 + (gh.2.2.1 - gh0.2.2.1)) (6 + 2 * (gh.2.2.1 - gh0.2.2.1)) Q (F0 m 106 ls []) := by
    intro n9
    induction n9 with
    | zero => intro ln1 i1 hF; cases hF
    | succ n9 ih =>
      intro ln1 i1 hF gh H locs hgh hP hD hS ls hl
      rw [F_X4_writeSpan_L106] at hF
      refine lv_iload_n hx hb dX4_writeSpan_106 rfl (lv_at hl 0 rfl) ?_
      refine lv_aload_n hx hb dX4_writeSpan_107 rfl (lv_at hl 1 rfl) ?_
      refine va_get (D := g.1) (ci := 8) (v := .ref (a1 0)) (C := RX4) (T := TX4) (N := 12) hx hb hts inX4 hown hK hP 0 rfl rfl 0 (by decide) (hts _ (WT_in 223 (by decide +kernel) (by decide +kernel))) (fun _ h9 => h9) rfl dX4_writeSpan_108 ?_
      refine va_getN (D := g.1) (ci := 4) (v := .ref (a1 4)) (C := RX0) (T := TX0) (N := 17) hx hb hts inX0 hown hK hP 1 rfl rfl 4 (by decide) (hE.nf 7 rfl) (fun _ h9 => h9) rfl dX4_writeSpan_111 ?_
      refine lv_iload_n hx hb dX4_writeSpan_114 rfl (lv_at hl 2 rfl) ?_
      have hi9 := inb_in (ck_t hF)
      have hF := ck_s hF
      refine va_iald hx hb hK hP 5 0 rfl rfl hi9 dX4_writeSpan_115 ?_
      refine lv_icmp_ge (tgt := 135) hx hb dX4_writeSpan_116 (by decide) (fun c1 => ?_) (fun c1 => ?_)
      · have hF := ob_pos c1 hF
        rw [ek1] at hF
        refine lv_iconst (v := 0) hx hb dX4_writeSpan_135 (by decide) ?_
        refine lv_istore_n (lv' := [(2, .int 0), (0, .ref (a 0)), (1, .int p0)]) hx hb dX4_writeSpan_136 rfl hl (by decide) rfl (fun ls hl => ?_)
        exact loop2 1000 _ _ hF _ _ _ hgh hP hD hS ls (lv_sub hl [0, 1, 2] rfl)
      · have hF := ob_neg c1 hF
        refine lv_aload_n hx hb dX4_writeSpan_119 rfl (lv_at hl 1 rfl) ?_
        refine va_get (D := g.1) (ci := 8) (v := .ref (a7 0)) (C := RX4) (T := TX4) (N := 12) hx hb hts inX4 hown hK hP 0 rfl rfl 6 (by decide) (hts _ (WT_in 229 (by decide +kernel) (by decide +kernel))) (fun _ h9 => h9) rfl dX4_writeSpan_120 ?_
        refine lv_bipush (v := nI 47) hx hb dX4_writeSpan_123 (by decide) ?_
        obtain ⟨z1, hz1, hF⟩ := ob_bind hF
        refine cl_lnC (rest := []) hx hb hml hown hts2 hK hE hA hl hP hD hS hz1 hgh ⟨(Nat.le_of_ble_eq_true rfl), (Nat.le_of_ble_eq_true rfl), (Nat.le_of_ble_eq_true rfl), (Nat.le_of_ble_eq_true rfl)⟩ (Nat.le_of_ble_eq_true rfl) dX4_writeSpan_125 (fun gh H locs hgh hP hD hS => ?_)
        refine lv_pop hx hb dX4_writeSpan_128 rfl ?_
        refine lv_iinc (v := i1 + 1) (lv' := [(2, .int (i1 + 1)), (0, .ref (a 0)), (1, .int p0)]) hx hb dX4_writeSpan_129 hl (k := 0) rfl (by rfl) (by decide) rfl (fun ls hl => ?_)
        refine lv_goto (tgt := 106) hx hb dX4_writeSpan_132 (by decide) ?_
        exact ih _ _ hF _ _ _ hgh hP hD hS ls (lv_sub hl [0, 1, 2] rfl)
  exact loop1 1000 _ _ hF _ _ _ hgh hP hD hS ls (lv_sub hl [0, 1, 2] rfl)
def F_X4_writeBridge_L10 (b : Bv) : Nat → Nv → Int32 → Option (Int32 × Nv)
  | 0, _, _ => none
  | n9 + 1, ln, i => if B_spans b ≤ i then some (nI ln.1, ln) else (if i ≤ 0 then some ln else F_lnC ln 124).bind fun z1 => (F_X0_loadOf b i).bind fun z2 => (F_lnI z1 z2).bind fun z3 => (F_X0_strains b i).bind fun z4 => (if bi z4 = 0 then some z3 else F_lnC z3 33).bind fun z5 => F_X4_writeBridge_L10 b n9 z5 (i + 1)
def F_X4_writeBridge (x : Xv) (b : Bv) (ln : Nv) : Option (Int32 × Nv) := F_X4_writeBridge_L10 b 1000 (0, ln.2) 0
set_option maxHeartbeats 4000000 in
set_option maxRecDepth 100000 in
theorem c_X4_writeBridge (g : GG) (l : Launch) (a a1 a2 a3 a4 a5 a6 a7 : Nat → Nat) (x : Xv) (b : Bv) (ln : Nv) (gh0 : LG) (hg0 : LK ln.2 ln.1 gh0) (z : Int32 × Nv) (hF : F_X4_writeBridge x b ln = some z) : MG (G := LG) g l yX4_writeBridge cX4_writeBridge 2 (some .int) ({ frames := 10, cells := 402, slots := 804, locals := 300 } : Room) [.ref (a 0)] [wX g a a1 a2 a3 a4 a5 a6 a7 x, wB g a1 b, wLn g (a7 0) ln gh0] 402 804 (fun _ => some (.int z.1)) (fun gh => [wX g a a1 a2 a3 a4 a5 a6 a7 x, wB g a1 b, wLn g (a7 0) z.2 gh]) (fun gh => LK z.2.2 z.2.1 gh) := by
  refine MG.bg (by decide) (Nat.le_of_ble_eq_true rfl) ?_
  intro p e s m below meth c A Q hQ hx hb hr hml hown hts hts2 hlocks hmn hK hE hA hP hD hS ls hl
  rw [F_X4_writeBridge] at hF
  have hl : lv_has ls 2 [(0, .ref (a 0))] := hl
  have hgh : LKm gh0.2.2.1 ln gh0 := ⟨hg0, Nat.le_refl _⟩
  refine lv_aload_n hx hb dX4_writeBridge_0 rfl (lv_at hl 0 rfl) ?_
  refine va_get (D := g.1) (ci := 8) (v := .ref (a7 0)) (C := RX4) (T := TX4) (N := 12) hx hb hts inX4 hown hK hP 0 rfl rfl 6 (by decide) (hts _ (WT_in 229 (by decide +kernel) (by decide +kernel))) (fun _ h9 => h9) rfl dX4_writeBridge_1 ?_
  refine lv_iconst (v := 0) hx hb dX4_writeBridge_4 (by decide) ?_
  refine cl_lnZ (rest := []) hx hb hml hown hts2 hK hE hA hl hP hD hS hgh ⟨(Nat.le_of_ble_eq_true rfl), (Nat.le_of_ble_eq_true rfl)⟩ ⟨(Nat.le_of_ble_eq_true rfl), (Nat.le_of_ble_eq_true rfl)⟩ (Nat.le_of_ble_eq_true rfl) dX4_writeBridge_5 (fun gh H locs hm9 hgh hP hD hS => ?_)
  refine W.widen (k := 0 + (gh.2.2.1 - gh0.2.2.1)) (n := 0 + 2 * (gh.2.2.1 - gh0.2.2.1)) (by omega) (by omega) ?_
  refine lv_iconst (v := 0) hx hb dX4_writeBridge_8 (by decide) ?_
  refine lv_istore_n (lv' := [(1, .int 0), (0, .ref (a 0))]) hx hb dX4_writeBridge_9 rfl hl (by decide) rfl (fun ls hl => ?_)
  have loop1 : ∀ (n9 : Nat) (ln1 : Nv) (i1 : Int32), F_X4_writeBridge_L10 b n9 ln1 i1 = some z → ∀ (gh : LG) (H : Heap) (locs : List Loc), LKm gh0.2.2.1 ln1 gh → va_P g.1 vwCl ([wX g a a1 a2 a3 a4 a5 a6 a7 x, wB g a1 b, wLn g (a7 0) ln1 gh] : List va_W).flatten H → va_D A ([wX g a a1 a2 a3 a4 a5 a6 a7 x, wB g a1 b, wLn g (a7 0) ln1 gh] : List va_W).flatten → va_S A s.heap H locs → ∀ ls : Array Slot, lv_has ls 2 [(1, .int i1), (0, .ref (a 0))] → W p l e ({ frames := 10, cells := 402, slots := 804, locals := 300 } : Room) s m ([.ref (a 0)] : List Value).toArray below meth c H locs (0 + (gh.2.2.1 - gh0.2.2.1)) (0 + 2 * (gh.2.2.1 - gh0.2.2.1)) Q (F0 m 10 ls []) := by
    intro n9
    induction n9 with
    | zero => intro ln1 i1 hF; cases hF
    | succ n9 ih =>
      intro ln1 i1 hF gh H locs hgh hP hD hS ls hl
      rw [F_X4_writeBridge_L10] at hF
      have hle9 := lkm_le hgh
      have at72 : ∀ (z5 : Nv), F_X4_writeBridge_L10 b n9 z5 (i1 + 1) = some z → ∀ (gh : LG) (H : Heap) (locs : List Loc), LKm gh0.2.2.1 z5 gh → va_P g.1 vwCl ([wX g a a1 a2 a3 a4 a5 a6 a7 x, wB g a1 b, wLn g (a7 0) z5 gh] : List va_W).flatten H → va_D A ([wX g a a1 a2 a3 a4 a5 a6 a7 x, wB g a1 b, wLn g (a7 0) z5 gh] : List va_W).flatten → va_S A s.heap H locs → ∀ ls : Array Slot, lv_has ls 2 [(1, .int i1), (0, .ref (a 0))] → W p l e ({ frames := 10, cells := 402, slots := 804, locals := 300 } : Room) s m ([.ref (a 0)] : List Value).toArray below meth c H locs (0 + (gh.2.2.1 - gh0.2.2.1)) (0 + 2 * (gh.2.2.1 - gh0.2.2.1)) Q (F0 m 72 ls []) := by
        intro z5 hF gh H locs hgh hP hD hS ls hl
        refine lv_iinc (v := i1 + 1) (lv' := [(1, .int (i1 + 1)), (0, .ref (a 0))]) hx hb dX4_writeBridge_72 hl (k := 0) rfl (by rfl) (by decide) rfl (fun ls hl => ?_)
        refine lv_goto (tgt := 10) hx hb dX4_writeBridge_75 (by decide) ?_
        exact ih _ _ hF _ _ _ hgh hP hD hS ls hl
      have at35 : ∀ (z1 : Nv), ((F_X0_loadOf b i1).bind fun z2 => (F_lnI z1 z2).bind fun z3 => (F_X0_strains b i1).bind fun z4 => (if bi z4 = 0 then some z3 else F_lnC z3 33).bind fun z5 => F_X4_writeBridge_L10 b n9 z5 (i1 + 1)) = some z → ∀ (gh : LG) (H : Heap) (locs : List Loc), LKm gh0.2.2.1 z1 gh → va_P g.1 vwCl ([wX g a a1 a2 a3 a4 a5 a6 a7 x, wB g a1 b, wLn g (a7 0) z1 gh] : List va_W).flatten H → va_D A ([wX g a a1 a2 a3 a4 a5 a6 a7 x, wB g a1 b, wLn g (a7 0) z1 gh] : List va_W).flatten → va_S A s.heap H locs → ∀ ls : Array Slot, lv_has ls 2 [(1, .int i1), (0, .ref (a 0))] → W p l e ({ frames := 10, cells := 402, slots := 804, locals := 300 } : Room) s m ([.ref (a 0)] : List Value).toArray below meth c H locs (0 + (gh.2.2.1 - gh0.2.2.1)) (0 + 2 * (gh.2.2.1 - gh0.2.2.1)) Q (F0 m 35 ls []) := by
        intro z1 hF gh H locs hgh hP hD hS ls hl
        refine lv_aload_n hx hb dX4_writeBridge_35 rfl (lv_at hl 1 rfl) ?_
        refine va_get (D := g.1) (ci := 8) (v := .ref (a7 0)) (C := RX4) (T := TX4) (N := 12) hx hb hts inX4 hown hK hP 0 rfl rfl 6 (by decide) (hts _ (WT_in 229 (by decide +kernel) (by decide +kernel))) (fun _ h9 => h9) rfl dX4_writeBridge_36 ?_
        refine lv_aload_n hx hb dX4_writeBridge_39 rfl (lv_at hl 1 rfl) ?_
        refine va_get (D := g.1) (ci := 8) (v := .ref (a1 0)) (C := RX4) (T := TX4) (N := 12) hx hb hts inX4 hown hK hP 0 rfl rfl 0 (by decide) (hts _ (WT_in 223 (by decide +kernel) (by decide +kernel))) (fun _ h9 => h9) rfl dX4_writeBridge_40 ?_
        refine lv_iload_n hx hb dX4_writeBridge_43 rfl (lv_at hl 0 rfl) ?_
        obtain ⟨y2, hy2, hF⟩ := ob_bind hF
        refine cl_i (csR := [wX g a a1 a2 a3 a4 a5 a6 a7 x, wLn g (a7 0) z1 gh]) (csF := [wX g a a1 a2 a3 a4 a5 a6 a7 x, wB g a1 b, wLn g (a7 0) z1 gh]) (rest := [.ref (a7 0)]) hx hb hml hown hts hK hE hA hl hP hD hS (c_X0_loadOf g l a1 b i1 y2 hy2) [1] [0, 2] [0, 2, 1] ⟨rfl, rfl, rfl, rfl, rfl, rfl, rfl⟩ ⟨0, 4, _, _, rfl, rfl, rfl⟩ 1 (jb_giV (WT_in 272 (by decide +kernel) (by decide +kernel)) (WT_in 273 (by decide +kernel) (by decide +kernel)) (WT_in 274 (by decide +kernel) (by decide +kernel)) (WT_in 2 (by decide +kernel) (by decide +kernel)) (WT_in 275 (by decide +kernel) (by decide +kernel))) ⟨rfl, rfl⟩ (by decide +kernel) ⟨⟨(Nat.le_of_ble_eq_true rfl), (Nat.le_of_ble_eq_true rfl)⟩, by have := lkm_le hgh; dsimp only; omega, by have := lkm_le hgh; dsimp only; omega⟩ ⟨rfl, rfl⟩ (Nat.le_of_ble_eq_true rfl) dX4_writeBridge_44 (fun H locs hP hD hS => ?_)
        obtain ⟨y3, hy3, hF⟩ := ob_bind hF
        refine cl_lnI (rest := []) hx hb hml hown hts2 hK hE hA hl hP hD hS hy3 hgh ⟨(Nat.le_of_ble_eq_true rfl), (Nat.le_of_ble_eq_true rfl), (Nat.le_of_ble_eq_true rfl), (Nat.le_of_ble_eq_true rfl)⟩ (Nat.le_of_ble_eq_true rfl) dX4_writeBridge_47 (fun gh H locs hgh hP hD hS => ?_)
        refine lv_pop hx hb dX4_writeBridge_50 rfl ?_
        refine lv_aload_n hx hb dX4_writeBridge_51 rfl (lv_at hl 1 rfl) ?_
        refine va_get (D := g.1) (ci := 8) (v := .ref (a1 0)) (C := RX4) (T := TX4) (N := 12) hx hb hts inX4 hown hK hP 0 rfl rfl 0 (by decide) (hts _ (WT_in 223 (by decide +kernel) (by decide +kernel))) (fun _ h9 => h9) rfl dX4_writeBridge_52 ?_
        refine lv_iload_n hx hb dX4_writeBridge_55 rfl (lv_at hl 0 rfl) ?_
        obtain ⟨y4, hy4, hF⟩ := ob_bind hF
        refine cl_i (csR := [wX g a a1 a2 a3 a4 a5 a6 a7 x, wLn g (a7 0) y3 gh]) (csF := [wX g a a1 a2 a3 a4 a5 a6 a7 x, wB g a1 b, wLn g (a7 0) y3 gh]) (rest := []) hx hb hml hown hts hK hE hA hl hP hD hS (c_X0_strains g l a1 b i1 y4 hy4) [1] [0, 2] [0, 2, 1] ⟨rfl, rfl, rfl, rfl, rfl, rfl, rfl⟩ ⟨0, 4, _, _, rfl, rfl, rfl⟩ 1 (jb_giV (WT_in 693 (by decide +kernel) (by decide +kernel)) (WT_in 694 (by decide +kernel) (by decide +kernel)) (WT_in 695 (by decide +kernel) (by decide +kernel)) (WT_in 2 (by decide +kernel) (by decide +kernel)) (WT_in 696 (by decide +kernel) (by decide +kernel))) ⟨rfl, rfl⟩ (by decide +kernel) ⟨⟨(Nat.le_of_ble_eq_true rfl), (Nat.le_of_ble_eq_true rfl)⟩, by have := lkm_le hgh; dsimp only; omega, by have := lkm_le hgh; dsimp only; omega⟩ ⟨rfl, rfl⟩ (Nat.le_of_ble_eq_true rfl) dX4_writeBridge_56 (fun H locs hP hD hS => ?_)
        obtain ⟨y5, hy5, hF⟩ := ob_bind hF
        refine lv_if_eq (tgt := 72) hx hb dX4_writeBridge_59 (by decide) (fun c1 => ?_) (fun c1 => ?_)
        · rw [if_pos c1] at hy5
          cases hy5
          exact at72 _ hF _ _ _ hgh hP hD hS ls hl
        · rw [if_neg c1] at hy5
          refine lv_aload_n hx hb dX4_writeBridge_62 rfl (lv_at hl 1 rfl) ?_
          refine va_get (D := g.1) (ci := 8) (v := .ref (a7 0)) (C := RX4) (T := TX4) (N := 12) hx hb hts inX4 hown hK hP 0 rfl rfl 6 (by decide) (hts _ (WT_in 229 (by decide +kernel) (by decide +kernel))) (fun _ h9 => h9) rfl dX4_writeBridge_63 ?_
          refine lv_bipush (v := nI 33) hx hb dX4_writeBridge_66 (by decide) ?_
          refine cl_lnC (rest := []) hx hb hml hown hts2 hK hE hA hl hP hD hS hy5 hgh ⟨(Nat.le_of_ble_eq_true rfl), (Nat.le_of_ble_eq_true rfl), (Nat.le_of_ble_eq_true rfl), (Nat.le_of_ble_eq_true rfl)⟩ (Nat.le_of_ble_eq_true rfl) dX4_writeBridge_68 (fun gh H locs hgh hP hD hS => ?_)
          refine lv_pop hx hb dX4_writeBridge_71 rfl ?_
          exact at72 _ hF _ _ _ hgh hP hD hS ls hl
      refine lv_iload_n hx hb dX4_writeBridge_10 rfl (lv_at hl 0 rfl) ?_
      refine lv_aload_n hx hb dX4_writeBridge_11 rfl (lv_at hl 1 rfl) ?_
      refine va_get (D := g.1) (ci := 8) (v := .ref (a1 0)) (C := RX4) (T := TX4) (N := 12) hx hb hts inX4 hown hK hP 0 rfl rfl 0 (by decide) (hts _ (WT_in 223 (by decide +kernel) (by decide +kernel))) (fun _ h9 => h9) rfl dX4_writeBridge_12 ?_
      refine va_getN (D := g.1) (ci := 4) (v := .int (B_spans b)) (C := RX0) (T := TX0) (N := 17) hx hb hts inX0 hown hK hP 1 rfl rfl 0 (by decide) (hE.nf 1 rfl) (fun _ h9 => h9) rfl dX4_writeBridge_15 ?_
      refine lv_icmp_ge (tgt := 78) hx hb dX4_writeBridge_18 (by decide) (fun c1 => ?_) (fun c1 => ?_)
      · have hF := ob_pos c1 hF
        refine lv_aload_n hx hb dX4_writeBridge_78 rfl (lv_at hl 1 rfl) ?_
        refine va_get (D := g.1) (ci := 8) (v := .ref (a7 0)) (C := RX4) (T := TX4) (N := 12) hx hb hts inX4 hown hK hP 0 rfl rfl 6 (by decide) (hts _ (WT_in 229 (by decide +kernel) (by decide +kernel))) (fun _ h9 => h9) rfl dX4_writeBridge_79 ?_
        refine cl_lnL (rest := []) hx hb hml hown hts2 hK hE hA hl hP hD hS ⟨(Nat.le_of_ble_eq_true rfl), (Nat.le_of_ble_eq_true rfl)⟩ ⟨by dsimp only; omega, by dsimp only; omega⟩ (Nat.le_of_ble_eq_true rfl) dX4_writeBridge_82 (fun H locs hP hD hS => ?_)
        cases hF
        rw [hQ]
        exact jg_zret hx hb hr rfl hlocks gh hP hD hS dX4_writeBridge_85 rfl hgh.1 (by omega) (by omega)
      · have hF := ob_neg c1 hF
        obtain ⟨y1, hy1, hF⟩ := ob_bind hF
        refine lv_iload_n hx hb dX4_writeBridge_21 rfl (lv_at hl 0 rfl) ?_
        refine lv_if_le (tgt := 35) hx hb dX4_writeBridge_22 (by decide) (fun c2 => ?_) (fun c2 => ?_)
        · rw [if_pos c2] at hy1
          cases hy1
          exact at35 _ hF _ _ _ hgh hP hD hS ls hl
        · rw [if_neg c2] at hy1
          refine lv_aload_n hx hb dX4_writeBridge_25 rfl (lv_at hl 1 rfl) ?_
          refine va_get (D := g.1) (ci := 8) (v := .ref (a7 0)) (C := RX4) (T := TX4) (N := 12) hx hb hts inX4 hown hK hP 0 rfl rfl 6 (by decide) (hts _ (WT_in 229 (by decide +kernel) (by decide +kernel))) (fun _ h9 => h9) rfl dX4_writeBridge_26 ?_
          refine lv_bipush (v := nI 124) hx hb dX4_writeBridge_29 (by decide) ?_
          refine cl_lnC (rest := []) hx hb hml hown hts2 hK hE hA hl hP hD hS hy1 hgh ⟨(Nat.le_of_ble_eq_true rfl), (Nat.le_of_ble_eq_true rfl), (Nat.le_of_ble_eq_true rfl), (Nat.le_of_ble_eq_true rfl)⟩ (Nat.le_of_ble_eq_true rfl) dX4_writeBridge_31 (fun gh H locs hgh hP hD hS => ?_)
          refine lv_pop hx hb dX4_writeBridge_34 rfl ?_
          exact at35 _ hF _ _ _ hgh hP hD hS ls hl
  exact loop1 1000 _ _ hF _ _ _ hgh hP hD hS ls hl
def F_X4_lineCharacter (x : Xv) (b : Bv) (ln : Nv) (p0 : Int32) : Option (Int32 ⊕ String) := if p0 < 0 then some (.inr "java/lang/IndexOutOfBoundsException") else if p0 < nI ln.1 then ck (decide (p0.toNatClampNeg < ln.1)) (some (.inl (nI (ln.2 p0.toNatClampNeg)))) else some (.inr "java/lang/IndexOutOfBoundsException")
section XGT
variable {p : Program} {l : Launch} {e : Env} {R : Room} {s : State} {m : MethodId} {args : Array Value} {below : List Frame} {meth : Method} {c : Code} {H : Heap} {locs : List Loc} {cells slots mc ms : Nat} {cc : ByteArray} {g : GG} {A : Nat → Prop} {cs : List va_W} {G : Type} {res : G → (Option Value × List va_W) ⊕ (String × List va_W)} {Pr : G → Prop}
theorem jxg_throwW {pc ik ic is : Nat} {E text : String} {ls : Array Slot} {rest : List Value} (hst : l.stackTraces = false) (hT : ThW ik ic E) (hx : p.tables.exec = Jvm.exec) (hb : c.code = cc) (hml : c.maxLocals = ls.size) (hown : s.vm.findClass RX4 = some m.cls) (hts : ∀ w ∈ WW, w.before args s = true) (hE : EV g A s s.heap) (htab : ∀ x ∈ c.exceptionTable.toList, False) (hlocks : meth.locks = false)
    (k : Nat) (hk : strW[k]? = some (RX4, is, text)) (hP : va_P g.1 vwCl cs.flatten H) (hD : va_D A cs.flatten) (hS : va_S A s.heap H locs)
    (d0 : decode cc pc = .ok (.new ik, 3)) (d3 : decode cc (pc + 3) = .ok (.dup, 1)) (d4 : decode cc (pc + 4) = .ok (.ldc_w is, 3)) (d7 : decode cc (pc + 7) = .ok (.invokespecial ic, 3)) (d10 : decode cc (pc + 10) = .ok (.athrow, 1))
    (hR : 5 < R.frames ∧ (rest.map fun v => v.category).sum + 82 ≤ R.locals ∧ cells + 1 ≤ R.cells ∧ slots + 6 ≤ R.slots) (hc : cells + 1 ≤ mc) (hs : slots + 6 ≤ ms) (x : G) (hv : res x = .inr (E, cs)) (hp : Pr x) :
    W p l e R s m args below meth c H locs cells slots (vx_MQ below (QXG g res Pr A) (XXG g res Pr A) args s mc ms A) (F0 m pc ls rest) := by
  obtain ⟨t1, t2, t3, t4, t5, t6, t7⟩ := hT
  obtain ⟨sa, hsa⟩ := hE.2.2.2.2.2.2.2.2.1 _ (List.mem_of_getElem? hk)
  exact vx_throwSW hx hb hst hown t1 (by decide) (hts _ t2) (hts _ t3) hsa (vx_hat (fun w hw => hts w (t4 w hw)) t5 (atB_at hE t6)) t7 hE.1 hE.2.1 hS hml.symm d0 d3 d4 d7 d10 (fun x hx => (htab x hx).elim) hR.1 hR.2.1 hR.2.2.1 hR.2.2.2 hlocks
    (fun t ht h1 h2 => by
      obtain ⟨a1, a2⟩ := jx_stay hP hS h1 h2
      exact ⟨⟨x, cs, hv, hp, a1, hD⟩, a2⟩) hS.2.2 hc hs
end XGT
set_option maxHeartbeats 4000000 in
set_option maxRecDepth 100000 in
theorem c_X4_lineCharacter (g : GG) (l : Launch) (hst : l.stackTraces = false) (a a1 a2 a3 a4 a5 a6 a7 : Nat → Nat) (x : Xv) (b : Bv) (ln : Nv) (gh : LG) (hg0 : LK ln.2 ln.1 gh) (p0 : Int32) (z : Int32 ⊕ String) (hF : F_X4_lineCharacter x b ln p0 = some z) : MXG (G := Unit) g l yX4_lineCharacter cX4_lineCharacter 2 (some .char) ({ frames := 6, cells := 1, slots := 6, locals := 200 } : Room) [.ref (a 0), .int p0] [wX g a a1 a2 a3 a4 a5 a6 a7 x, wB g a1 b, wLn g (a7 0) ln gh] 1 6 (fun _ => Sum.elim (fun y => .inl (some (.int y), [wX g a a1 a2 a3 a4 a5 a6 a7 x, wB g a1 b, wLn g (a7 0) ln gh])) (fun y => .inr (y, [wX g a a1 a2 a3 a4 a5 a6 a7 x, wB g a1 b, wLn g (a7 0) ln gh])) z) (fun _ => True) := by
  refine MXG.bg (by decide) (Nat.le_of_ble_eq_true rfl) ?_
  intro p e s m below meth c A Q hQ hx hb hr hml hown hts hts2 hlocks htab hK hE hA hP hD hS ls hl
  rw [F_X4_lineCharacter] at hF
  have hl : lv_has ls 2 [(0, .ref (a 0)), (1, .int p0)] := hl
  refine lv_iload_n hx hb dX4_lineCharacter_0 rfl (lv_at hl 1 rfl) ?_
  refine lv_if_lt (tgt := 15) hx hb dX4_lineCharacter_1 (by decide) (fun c1 => ?_) (fun c1 => ?_)
  · have hF := ob_pos c1 hF
    cases hF
    rw [hQ]
    exact jxg_throwW hst thw_157 hx hb (hml.trans hl.1.symm) hown hts hE htab hlocks 17 rfl hP hD hS dX4_lineCharacter_15 dX4_lineCharacter_18 dX4_lineCharacter_19 dX4_lineCharacter_22 dX4_lineCharacter_25 ⟨(Nat.le_of_ble_eq_true rfl), (Nat.le_of_ble_eq_true rfl), (Nat.le_of_ble_eq_true rfl), (Nat.le_of_ble_eq_true rfl)⟩ (Nat.le_of_ble_eq_true rfl) (Nat.le_of_ble_eq_true rfl) () rfl trivial
  have hF := ob_neg c1 hF
  refine lv_iload_n hx hb dX4_lineCharacter_4 rfl (lv_at hl 1 rfl) ?_
  refine lv_aload_n hx hb dX4_lineCharacter_5 rfl (lv_at hl 0 rfl) ?_
  refine va_get (D := g.1) (ci := 8) (v := .ref (a7 0)) (C := RX4) (T := TX4) (N := 12) hx hb hts inX4 hown hK hP 0 rfl rfl 6 (by decide) (hts _ (WT_in 229 (by decide +kernel) (by decide +kernel))) (fun _ h9 => h9) rfl dX4_lineCharacter_6 ?_
  refine cl_lnL (rest := [.int p0]) hx hb hml hown hts2 hK hE hA hl hP hD hS ⟨(Nat.le_of_ble_eq_true rfl), (Nat.le_of_ble_eq_true rfl)⟩ ⟨(Nat.le_of_ble_eq_true rfl), (Nat.le_of_ble_eq_true rfl)⟩ (Nat.le_of_ble_eq_true rfl) dX4_lineCharacter_9 (fun H locs hP hD hS => ?_)
  refine lv_icmp_lt (tgt := 26) hx hb dX4_lineCharacter_12 (by decide) (fun c2 => ?_) (fun c2 => ?_)
  · have hF := ob_pos c2 hF
    have hi := of_decide_eq_true (ck_t hF)
    have hF := ck_s hF
    cases hF
    obtain ⟨hv1, hv2⟩ := nI_self c1
    obtain ⟨hc1, hc2⟩ := hg0.2.2.1 _ hi
    obtain ⟨b1, b2, -⟩ := sb_byte _ hc1
    refine lv_aload_n hx hb dX4_lineCharacter_26 rfl (lv_at hl 0 rfl) ?_
    refine va_get (D := g.1) (ci := 8) (v := .ref (a7 0)) (C := RX4) (T := TX4) (N := 12) hx hb hts inX4 hown hK hP 0 rfl rfl 6 (by decide) (hts _ (WT_in 229 (by decide +kernel) (by decide +kernel))) (fun _ h9 => h9) rfl dX4_lineCharacter_27 ?_
    refine lv_iload_n hx hb dX4_lineCharacter_30 rfl (lv_at hl 1 rfl) ?_
    rw [show F0 m _ ls [.int p0, .ref (a7 0)] = F0 m 31 ls [.int (nI p0.toNatClampNeg), .ref (a7 0)] by rw [← hv1]]
    refine cl_lnA (rest := []) hx hb hml hown hts2 hK hE hA hl hP hD hS hg0 hi ⟨(Nat.le_of_ble_eq_true rfl), (Nat.le_of_ble_eq_true rfl)⟩ ⟨(Nat.le_of_ble_eq_true rfl), (Nat.le_of_ble_eq_true rfl)⟩ (Nat.le_of_ble_eq_true rfl) dX4_lineCharacter_31 (fun H locs hP hD hS => ?_)
    rw [hQ]
    exact jxg_iret hx hb hr (by rw [← b2]; exact pk_nc _) hlocks hP hD hS dX4_lineCharacter_34 () rfl trivial (Nat.le_of_ble_eq_true rfl) (Nat.le_of_ble_eq_true rfl)
  · have hF := ob_neg c2 hF
    cases hF
    rw [hQ]
    exact jxg_throwW hst thw_157 hx hb (hml.trans hl.1.symm) hown hts hE htab hlocks 17 rfl hP hD hS dX4_lineCharacter_15 dX4_lineCharacter_18 dX4_lineCharacter_19 dX4_lineCharacter_22 dX4_lineCharacter_25 ⟨(Nat.le_of_ble_eq_true rfl), (Nat.le_of_ble_eq_true rfl), (Nat.le_of_ble_eq_true rfl), (Nat.le_of_ble_eq_true rfl)⟩ (Nat.le_of_ble_eq_true rfl) (Nat.le_of_ble_eq_true rfl) () rfl trivial
