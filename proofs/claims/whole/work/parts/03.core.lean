/-! one list of words for every method; what every contract of this proof has in common; a call, a return, a read, a write over a world in chunks -/
def WW : List Cond := lw_tbl.filter goodWord
theorem WT_in {w : Cond} (i : Nat) (h : tables_1[i]? = some w) (g : goodWord w = true) : w ∈ WW := List.mem_filter.mpr ⟨List.mem_append_right _ (List.mem_of_getElem? h), g⟩
theorem WS_in {w : Cond} (i : Nat) (h : (k2_sels lw_privs)[i]? = some w) (g : goodWord w = true) : w ∈ WW := List.mem_filter.mpr ⟨List.mem_append_left _ (List.mem_of_getElem? h), g⟩
def wsM (y : MethodName) (cc : ByteArray) (n : Nat) (ret : Option FieldType) : List Cond := Cond.code y cc n ret :: WW
theorem jb_gi {y : MethodName} {cc : ByteArray} {n : Nat} {ret : Option FieldType} (h : Cond.code y cc n ret ∈ WW) : GoodIn WW (wsM y cc n ret) := by
  intro w hw
  have h1 : w ∈ WW := by
    rcases List.mem_cons.mp hw with e | e
    · rw [e]; exact h
    · exact e
  exact ⟨h1, good_of_word (List.mem_filter.mp h1).2⟩
theorem jb_giV {own C : String} {idx : Nat} {y : MethodName} {cc : ByteArray} {n : Nat} {ret : Option FieldType} (hl : Cond.methodLink own idx y ∈ WW) (hi : Cond.instanceMethod y ∈ WW) (hs : Cond.selects C y y ∈ WW) (hn : Cond.initialized C ∈ WW) (hc : Cond.code y cc n ret ∈ WW) : GoodIn WW (wsV own idx C y (wsM y cc n ret)) := by
  intro w hw
  rcases List.mem_append.mp hw with h | h
  · have h1 : w ∈ WW := by
      simp only [List.mem_cons, List.not_mem_nil, or_false] at h
      rcases h with rfl | rfl | rfl | rfl <;> assumption
    exact ⟨h1, good_of_word (List.mem_filter.mp h1).2⟩
  · exact jb_gi hc w h
theorem jb_giS {own : String} {idx : Nat} {y : MethodName} {cc : ByteArray} {n : Nat} {ret : Option FieldType} (hl : Cond.methodLink own idx y ∈ WW) (hi : Cond.static y ∈ WW) (hn : Cond.initialized own ∈ WW) (hc : Cond.code y cc n ret ∈ WW) : GoodIn WW (wsS own idx y (wsM y cc n ret)) := by
  intro w hw
  rcases List.mem_append.mp hw with h | h
  · have h1 : w ∈ WW := by
      simp only [List.mem_cons, List.not_mem_nil, or_false] at h
      rcases h with rfl | rfl | rfl <;> assumption
    exact ⟨h1, good_of_word (List.mem_filter.mp h1).2⟩
  · exact jb_gi hc w h
/-! pictures in Option: a function that answers 'none' where the machine would throw by itself -/
def ck {α : Type} (c : Bool) (a : Option α) : Option α := if c = true then a else none
theorem ck_t {α : Type} {c : Bool} {a : Option α} {r : α} (h : ck c a = some r) : c = true := by
  cases c
  · exact absurd h (by simp [ck])
  · rfl
theorem ck_s {α : Type} {c : Bool} {a : Option α} {r : α} (h : ck c a = some r) : a = some r := by
  have := ck_t h
  subst this
  exact h
def inb (i : Int32) (n : Nat) : Bool := decide (¬ (i < 0 ∨ n ≤ i.toNatClampNeg))
theorem inb_in {i : Int32} {n : Nat} (h : inb i n = true) : vp_in i n := (of_decide_eq_true h : ¬ (i < 0 ∨ n ≤ i.toNatClampNeg))
def nz (y : Int32) : Bool := decide (¬ y = 0)
theorem nz_ne {y : Int32} (h : nz y = true) : ¬ y = 0 := of_decide_eq_true h
def isch (v : Int32) : Bool := decide ((v.toUInt32 % 65536).toInt32 = v)
def bi (b : Bool) : Int32 := if b = true then 1 else 0
theorem bi_nar (b : Bool) : narrow .boolean (.int (bi b)) = .int (bi b) := by cases b <;> rfl
theorem ob_pos {α : Type} {c : Prop} [Decidable c] {a b : Option α} {r : α} (hc : c) (h : (if c then a else b) = some r) : a = some r := by
  rw [if_pos hc] at h; exact h
theorem ob_neg {α : Type} {c : Prop} [Decidable c] {a b : Option α} {r : α} (hc : ¬ c) (h : (if c then a else b) = some r) : b = some r := by
  rw [if_neg hc] at h; exact h
theorem ob_nneg {α : Type} {c : Prop} [Decidable c] {a b : Option α} {r : α} (hc : c) (h : (if ¬ c then a else b) = some r) : b = some r := by
  rw [if_neg (fun z => z hc)] at h; exact h
theorem ob_bind {α β : Type} {o : Option α} {k : α → Option β} {r : β} (h : o.bind k = some r) : ∃ z, o = some z ∧ k z = some r := by
  cases o with
  | none => cases h
  | some z => exact ⟨z, rfl, h⟩
def obx {α β γ : Type} (o : Option (α ⊕ β)) (k : α → Option γ) (j : β → Option γ) : Option γ := o.bind (Sum.elim k j)
theorem ob_bx {α β γ : Type} {o : Option (α ⊕ β)} {k : α → Option γ} {j : β → Option γ} {r : γ} (h : obx o k j = some r) : (∃ z, o = some (.inl z) ∧ k z = some r) ∨ ∃ z, o = some (.inr z) ∧ j z = some r := by
  cases o with
  | none => cases h
  | some z =>
    cases z with
    | inl z => exact Or.inl ⟨z, rfl, h⟩
    | inr z => exact Or.inr ⟨z, rfl, h⟩
theorem ob_k {K α : Type} {F : K → Option α} {k : K} {z : α} (h : F k = some z) : ∃ k9, k9 = k ∧ F k9 = some z := ⟨k, rfl, h⟩
theorem jb_toInt {x k : Int32} {n : Int} (h : ¬ x = k) (hk : k.toInt = n) : ¬ x.toInt = n := fun e => h (Int32.toInt_inj.mp (e.trans hk.symm))
/-! what every method may know of the JVM beside its words -/
abbrev GG : Type := va_G × (Nat → ClassId) × (Nat → Nat) × (Nat → Nat)
abbrev TY (g : GG) : List (ClassId × FieldType) := [(g.2.1 0, .int), (g.2.1 1, .char), (g.2.1 2, .byte), (g.2.1 3, .object "JamBridge$Bridge"), (g.2.1 4, .long), (g.2.1 5, .double)]
def nfW : List (String × Nat × String × String × String × String) := [("JamBridge$Judge", 52, "JamBridge$Bridge", "spans", "I", "JamBridge"), ("JamBridge", 86, "JamBridge$Bridge", "spans", "I", "JamBridge"), ("JamBridge", 132, "JamBridge$Bridge", "lengths", "[I", "JamBridge"), ("JamBridge$Judge", 62, "JamBridge$Bridge", "jars", "[I", "JamBridge"), ("JamBridge", 93, "JamBridge$Bridge", "jars", "[I", "JamBridge"), ("JamBridge", 97, "JamBridge$Bridge", "ages", "[I", "JamBridge"), ("JamBridge$Judge", 66, "JamBridge$Bridge", "cracks", "[I", "JamBridge"), ("JamBridge", 100, "JamBridge$Bridge", "cracks", "[I", "JamBridge"), ("JamBridge", 103, "JamBridge$Bridge", "stresses", "[I", "JamBridge"), ("JamBridge$Judge", 47, "JamBridge$Bridge", "vehicles", "I", "JamBridge"), ("JamBridge", 154, "JamBridge$Bridge", "vehicles", "I", "JamBridge"), ("JamBridge", 162, "JamBridge$Bridge", "numbers", "[I", "JamBridge"), ("JamBridge", 165, "JamBridge$Bridge", "weights", "[I", "JamBridge"), ("JamBridge", 171, "JamBridge$Bridge", "places", "[I", "JamBridge"), ("JamBridge$Judge", 55, "JamBridge$Bridge", "hour", "I", "JamBridge"), ("JamBridge", 190, "JamBridge$Bridge", "hour", "I", "JamBridge"), ("JamBridge$Judge", 79, "JamBridge$Bridge", "rate", "I", "JamBridge"), ("JamBridge", 193, "JamBridge$Bridge", "rate", "I", "JamBridge"), ("JamBridge$Judge", 69, "JamBridge$Bridge", "till", "I", "JamBridge"), ("JamBridge", 196, "JamBridge$Bridge", "till", "I", "JamBridge"), ("JamBridge", 199, "JamBridge$Bridge", "paid", "I", "JamBridge"), ("JamBridge", 202, "JamBridge$Bridge", "crossed", "I", "JamBridge"), ("JamBridge", 205, "JamBridge$Bridge", "sunk", "I", "JamBridge"), ("JamBridge", 296, "JamBridge$History", "count", "I", "JamBridge"), ("JamBridge", 255, "JamBridge$Judge", "reason", "I", "JamBridge"), ("JamBridge", 310, "JamBridge$Judge", "detail", "I", "JamBridge"), ("JamBridge", 215, "JamBridge$Text", "length", "I", "JamBridge"), ("JamBridge", 231, "JamBridge$Text", "position", "I", "JamBridge"), ("JamBridge", 242, "JamBridge$Text", "kinds", "[I", "JamBridge"), ("JamBridge", 245, "JamBridge$Text", "firsts", "[I", "JamBridge"), ("JamBridge", 248, "JamBridge$Text", "seconds", "[I", "JamBridge"), ("JamBridge", 239, "JamBridge$Text", "commands", "I", "JamBridge")]
def nmW : List (String × Nat × MethodName × String) := [("JamBridge", 9, yX0_init, "JamBridge"), ("JamBridge$History", 24, yX0_init, "JamBridge"), ("JamBridge", 31, yX2_init, "JamBridge"), ("JamBridge", 38, yX3_init, "JamBridge")]
def strW : List (String × Nat × String) := [("JamBridge", 306, "no such span"), ("JamBridge", 308, "out of range"), ("JamBridge", 313, "denied"), ("JamBridge", 320, "the weight is out of range"), ("JamBridge", 125, "the span never bears this weight"), ("JamBridge", 130, "the span never sets"), ("JamBridge", 143, "no such rank"), ("JamBridge", 159, "no such position"), ("JamBridge", 322, "no such vehicle on the bridge"), ("JamBridge", 180, "not on the bridge, or it sinks"), ("JamBridge", 185, "it does not leave in time"), ("JamBridge", 210, "no spans"), ("JamBridge", 213, "no vehicle has sunk or crossed"), ("JamBridge", 220, "the text buffer is full"), ("JamBridge", 236, "the text does not match the grammar"), ("JamBridge", 263, "a command failed"), ("JamBridge", 272, "no fault position was kept yet"), ("JamBridge", 285, "no such index in the line"), ("JamBridge", 315, "nothing was denied yet"), ("JamBridge", 294, "nothing was denied yet, or the latest denial has no cause"), ("JamBridge", 299, "no change can be undone"), ("JamBridge", 304, "there is no snapshot")]
/-- the texts that are read: 0 to 6 the patterns, 7 to 12 the words -/
def txtW : List (String × Nat × String × Nat) := [("JamBridge$Text", 55, "span N", 0), ("JamBridge$Text", 57, "pour D N", 1), ("JamBridge$Text", 59, "enter N", 2), ("JamBridge$Text", 61, "mend D D", 3), ("JamBridge$Text", 63, "rate N", 4), ("JamBridge$Text", 65, "wait N", 5), ("JamBridge$Text", 67, "cut", 6), ("JamBridgeModel", 194, "span", 7), ("JamBridgeModel", 203, "pour", 8), ("JamBridgeModel", 205, "enter", 9), ("JamBridgeModel", 207, "mend", 10), ("JamBridgeModel", 209, "rate", 11), ("JamBridgeModel", 211, "wait", 12), ("JamBridgeModel", 213, "cut", 6)]
def txB : List (List Int32) := [[115, 112, 97, 110, 32, 78], [112, 111, 117, 114, 32, 68, 32, 78], [101, 110, 116, 101, 114, 32, 78], [109, 101, 110, 100, 32, 68, 32, 68], [114, 97, 116, 101, 32, 78], [119, 97, 105, 116, 32, 78], [99, 117, 116], [115, 112, 97, 110], [112, 111, 117, 114], [101, 110, 116, 101, 114], [109, 101, 110, 100], [114, 97, 116, 101], [119, 97, 105, 116]]
def txL : List Nat := [6, 8, 7, 8, 6, 6, 3, 4, 4, 5, 4, 4, 4]
def exW : List String := ["java/lang/IndexOutOfBoundsException", "java/lang/IllegalArgumentException", "java/lang/UnsupportedOperationException", "java/util/NoSuchElementException", "java/lang/ArithmeticException", "java/lang/IllegalStateException"]
/-- pairs of exceptions of which the first isn't caught as the second -/
def ncW : List (String × String) := [("java/lang/IllegalArgumentException", "java/lang/IndexOutOfBoundsException"), ("java/lang/UnsupportedOperationException", "java/lang/IndexOutOfBoundsException"), ("java/lang/UnsupportedOperationException", "java/lang/IllegalArgumentException"), ("java/util/NoSuchElementException", "java/lang/IndexOutOfBoundsException"), ("java/util/NoSuchElementException", "java/lang/IllegalArgumentException")]
def caW : List (String × String) := [("java/lang/IndexOutOfBoundsException", "java/lang/IndexOutOfBoundsException"), ("java/lang/IllegalArgumentException", "java/lang/IllegalArgumentException"), ("java/lang/UnsupportedOperationException", "java/lang/UnsupportedOperationException"), ("java/util/NoSuchElementException", "java/util/NoSuchElementException"), ("java/lang/ArithmeticException", "java/lang/ArithmeticException"), ("java/lang/IllegalStateException", "java/lang/IllegalStateException")]
def deW : List MethodName := [⟨"java/lang/RuntimeException", "<init>", "(Ljava/lang/String;)V"⟩, ⟨"java/lang/Exception", "<init>", "(Ljava/lang/String;)V"⟩, ⟨"java/lang/Throwable", "<init>", "(Ljava/lang/String;)V"⟩]
def dgO (j : Nat) : Int32 := nI (48 + j % 10)
def dgT (j : Nat) : Int32 := nI (48 + j / 10)
def NV (g : GG) (U : State) : Prop :=
  (∀ q ∈ nfW, va_Nw (.fieldLinkNest q.1 q.2.1 q.2.2.1 q.2.2.2.1 q.2.2.2.2.1 q.2.2.2.2.2) U) ∧
  (∀ q ∈ nmW, va_Nw (.methodLinkNest q.1 q.2.1 q.2.2.1 q.2.2.2) U) ∧
  (∀ q ∈ strW, ∃ a, vk_R q.1 q.2.1 q.2.2 a U) ∧
  (∀ q ∈ txtW, vk_R q.1 q.2.1 q.2.2.1 (g.2.2.1 q.2.2.2) U) ∧
  (∀ q ∈ ncW, va_Nc q.1 q.2 U) ∧
  (∀ q ∈ caW, va_Nw (.castable q.1 q.2) U) ∧
  (∀ y ∈ deW, va_Nw (.declares y) U)
theorem jb_alike {w : Cond} (hw : w.onTables = true) {u U : State} (h : w.before #[] (u.setVm U.vm) = true) : va_Nw w U := by
  have e := Cond.onTables_vm (A := #[]) (A' := #[]) (U := u) (U' := U) U.vm w hw
  have hU : U.setVm U.vm = U := rfl
  rw [hU] at e
  show w.before #[] U = true
  rw [← e]
  exact h
theorem NV.warm {g : GG} {s U : State} (hW : s.WarmedH U.vm) (h : NV g s) : NV g U := by
  obtain ⟨h1, h2, h3, h4, h5, h6, h7⟩ := h
  refine ⟨fun q hq => va_Nw.warmF hW (h1 q hq), fun q hq => va_Nw.warmM hW (h2 q hq), fun q hq => ?_, fun q hq => vk_R.warm hW (h4 q hq), fun q hq => va_Nc.moved hW.alike (h5 q hq), fun q hq => jb_alike rfl (u := s) (by rw [Cond.castable_setVm hW.alike]; exact h6 q hq), fun y hy => jb_alike rfl (u := s) (by rw [Cond.declares_setVm hW.alike]; exact h7 y hy)⟩
  obtain ⟨a, ha⟩ := h3 q hq
  exact ⟨a, vk_R.warm hW ha⟩
def EV (g : GG) (A : Nat → Prop) (U : State) (H : Heap) : Prop :=
  vx_Zq Bundle.tN "UNASSIGNED_STACK" Bundle.steD A U H ∧ vx_Zq Bundle.tN "SUPPRESSED_SENTINEL" Bundle.listD A U H ∧
  (∀ i : Nat, i < 13 → va_O "java/lang/String" (g.2.2.1 i) A U H ∧ va_OF "java/lang/String" "coder" "B" (.int 0) (g.2.2.1 i) A U H ∧ va_OF "java/lang/String" "value" "[B" (.ref (g.2.2.2 i)) (g.2.2.1 i) A U H ∧ va_T .byte (g.2.2.2 i) (txL.getD i 0) (fun j => .int ((txB.getD i []).getD j 0)) A U H) ∧
  (va_Z "java/lang/Integer" "DigitOnes" "[B" (.ref (g.2.2.2 100)) A U H ∧ va_T .byte (g.2.2.2 100) 100 (fun j => .int (dgO j)) A U H) ∧
  (va_Z "java/lang/Integer" "DigitTens" "[B" (.ref (g.2.2.2 101)) A U H ∧ va_T .byte (g.2.2.2 101) 100 (fun j => .int (dgT j)) A U H) ∧
  (va_Z "java/lang/String" "COMPACT_STRINGS" "Z" (.int 1) A U H ∧ va_Zq "jdk/internal/util/Preconditions" "SIOOBE_FORMATTER" "Ljava/util/function/BiFunction;" A U H) ∧ NV g U
theorem EV.warm {g : GG} {A : Nat → Prop} {s U : State} {H : Heap} (hW : s.WarmedH U.vm) (h : EV g A s H) : EV g A U H := by
  obtain ⟨h1, h2, h3, ⟨h4, h5⟩, ⟨h6, h7⟩, ⟨h8, h10⟩, h9⟩ := h
  have hv := hW.alike
  exact ⟨vx_Zq.moved hv h1, vx_Zq.moved hv h2, fun i hi => ⟨va_O.moved hv (h3 i hi).1, va_OF.moved hv (h3 i hi).2.1, va_OF.moved hv (h3 i hi).2.2.1, va_T.moved hv (h3 i hi).2.2.2⟩, ⟨va_Z.moved hv h4, va_T.moved hv h5⟩, ⟨va_Z.moved hv h6, va_T.moved hv h7⟩, ⟨va_Z.moved hv h8, va_Zq.moved hv h10⟩, h9.warm hW⟩
theorem EV.kept {g : GG} {A : Nat → Prop} {U : State} {H H1 : Heap} (h : EV g A U H) (hq : ∀ a : Nat, a < H.size → ¬ A a → H1[a]? = H[a]?) : EV g A U H1 := by
  obtain ⟨h1, h2, h3, ⟨h4, h5⟩, ⟨h6, h7⟩, ⟨h8, h10⟩, h9⟩ := h
  exact ⟨h1.kept hq, h2.kept hq, fun i hi => ⟨(h3 i hi).1.kept hq, (h3 i hi).2.1.kept hq, (h3 i hi).2.2.1.kept hq, (h3 i hi).2.2.2.kept hq⟩, ⟨h4.kept hq, h5.kept hq⟩, ⟨h6.kept hq, h7.kept hq⟩, ⟨h8.kept hq, h10.kept hq⟩, h9⟩
theorem EV.narrow {g : GG} {A B : Nat → Prop} {U : State} {H : Heap} (h : EV g A U H) (hAB : ∀ q, B q → A q) : EV g B U H := by
  obtain ⟨h1, h2, h3, ⟨h4, h5⟩, ⟨h6, h7⟩, ⟨h8, h10⟩, h9⟩ := h
  exact ⟨h1.narrow hAB, h2.narrow hAB, fun i hi => ⟨(h3 i hi).1.narrow hAB, (h3 i hi).2.1.narrow hAB, (h3 i hi).2.2.1.narrow hAB, (h3 i hi).2.2.2.narrow hAB⟩, ⟨h4.narrow hAB, h5.narrow hAB⟩, ⟨h6.narrow hAB, h7.narrow hAB⟩, ⟨h8.narrow hAB, h10.narrow hAB⟩, h9⟩
theorem EV.nf {g : GG} {A : Nat → Prop} {U : State} {H : Heap} (h : EV g A U H) {own ref n d host : String} {i : Nat} (k : Nat) (hk : nfW[k]? = some (own, i, ref, n, d, host)) {args : Array Value} : (Cond.fieldLinkNest own i ref n d host).before args U = true :=
  va_Nw.use rfl (h.2.2.2.2.2.2.1 _ (List.mem_of_getElem? hk))
/-! worlds in chunks -/
theorem jb_P {D : va_G} {cl : List vw_C} {ws : va_W} {H : Heap} : va_P D cl ws H ↔ ∀ q ∈ ws, va_at D cl q H := by
  constructor
  · intro h q hq
    obtain ⟨i, hi⟩ := List.getElem?_of_mem hq
    exact h i q hi
  · intro h k q hk
    exact h q (List.mem_of_getElem? hk)
theorem jb_D {A : Nat → Prop} {ws : va_W} : va_D A ws ↔ ws.Pairwise (fun p q => p.1 ≠ q.1) ∧ ∀ q ∈ ws, A q.1 := by
  constructor
  · intro h
    refine ⟨List.pairwise_iff_getElem.mpr fun i j hi hj hij e => ?_, fun q hq => ?_⟩
    · have := h.1 i j _ _ (List.getElem?_eq_getElem hi) (List.getElem?_eq_getElem hj) e
      omega
    · obtain ⟨i, hi⟩ := List.getElem?_of_mem hq
      exact h.2 i q hi
  · intro h
    refine ⟨fun i j p q hi hj e => ?_, fun k q hk => h.2 q (List.mem_of_getElem? hk)⟩
    obtain ⟨h1, e1⟩ := List.getElem?_eq_some_iff.mp hi
    obtain ⟨h2, e2⟩ := List.getElem?_eq_some_iff.mp hj
    rcases Nat.lt_trichotomy i j with x | x | x
    · exact absurd (by rw [e1, e2]; exact e) (List.pairwise_iff_getElem.mp h.1 i j h1 h2 x)
    · exact x
    · exact absurd (by rw [e1, e2]; exact e.symm) (List.pairwise_iff_getElem.mp h.1 j i h2 h1 x)
theorem fr_sub {D : va_G} {cl : List vw_C} {cs cs' : List va_W} {H : Heap} (h : va_P D cl cs.flatten H) (is : List Nat) (hs : is.map (fun i => cs[i]?) = cs'.map some) : va_P D cl cs'.flatten H := by
  rw [jb_P] at h ⊢
  intro q hq
  obtain ⟨c, hc, hq⟩ := List.mem_flatten.mp hq
  have h1 : some c ∈ cs'.map some := List.mem_map.mpr ⟨c, hc, rfl⟩
  rw [← hs] at h1
  obtain ⟨i, -, hi⟩ := List.mem_map.mp h1
  exact h q (List.mem_flatten.mpr ⟨c, List.mem_of_getElem? hi, hq⟩)
theorem fr_subD {A : Nat → Prop} {cs cs' : List va_W} (h : va_D A cs.flatten) (is : List Nat) (hn : va_nd is = true) (hs : is.map (fun i => cs[i]?) = cs'.map some) : va_D A cs'.flatten := by
  rw [jb_D] at h ⊢
  have at' : ∀ (k : Nat) (c : va_W), cs'[k]? = some c → ∃ i, is[k]? = some i ∧ cs[i]? = some c := by
    intro k c hk
    have h1 : (is.map (fun i => cs[i]?))[k]? = some (some c) := by rw [hs, List.getElem?_map, hk]; rfl
    rw [List.getElem?_map] at h1
    cases hi : is[k]? with
    | none => rw [hi] at h1; cases h1
    | some i => rw [hi] at h1; exact ⟨i, rfl, Option.some.inj h1⟩
  obtain ⟨hp, ha⟩ := h
  rw [List.pairwise_flatten] at hp
  refine ⟨List.pairwise_flatten.mpr ⟨fun c hc => ?_, List.pairwise_iff_getElem.mpr fun i j hi hj hij x hx y hy e => ?_⟩, fun q hq => ?_⟩
  · obtain ⟨k, hk⟩ := List.getElem?_of_mem hc
    obtain ⟨i, -, h2⟩ := at' k c hk
    exact hp.1 c (List.mem_of_getElem? h2)
  · obtain ⟨a, a1, a2⟩ := at' i _ (List.getElem?_eq_getElem hi)
    obtain ⟨b, b1, b2⟩ := at' j _ (List.getElem?_eq_getElem hj)
    obtain ⟨a3, a4⟩ := List.getElem?_eq_some_iff.mp a2
    obtain ⟨b3, b4⟩ := List.getElem?_eq_some_iff.mp b2
    rcases Nat.lt_trichotomy a b with w | w | w
    · exact List.pairwise_iff_getElem.mp hp.2 a b a3 b3 w x (by rw [a4]; exact hx) y (by rw [b4]; exact hy) e
    · subst w
      have := va_nd_inj is hn i j a a1 b1
      omega
    · exact List.pairwise_iff_getElem.mp hp.2 b a b3 a3 w y (by rw [b4]; exact hy) x (by rw [a4]; exact hx) e.symm
  · obtain ⟨c, hc, hq⟩ := List.mem_flatten.mp hq
    obtain ⟨k, hk⟩ := List.getElem?_of_mem hc
    obtain ⟨i, -, h2⟩ := at' k c hk
    exact ha q (List.mem_flatten.mpr ⟨c, List.mem_of_getElem? h2, hq⟩)
theorem jb_A {ws : va_W} {sz q : Nat} : va_A ws sz q ↔ (∃ e, (q, e) ∈ ws) ∨ sz ≤ q := by
  constructor
  · rintro (⟨k, e, h⟩ | h)
    · exact Or.inl ⟨e, List.mem_of_getElem? h⟩
    · exact Or.inr h
  · rintro (⟨e, h⟩ | h)
    · obtain ⟨k, hk⟩ := List.getElem?_of_mem h
      exact Or.inl ⟨k, e, hk⟩
    · exact Or.inr h
theorem fr_free {A0 : Nat → Prop} {cs cs' : List va_W} {H0 H : Heap} {locs : List Loc} (hD : va_D A0 cs.flatten) (hS : va_S A0 H0 H locs) (hA : ∀ q, H0.size ≤ q → A0 q) (is : List Nat) (hs : is.map (fun i => cs[i]?) = cs'.map some) : ∀ q, va_A cs'.flatten H.size q → A0 q := by
  intro q h
  rcases jb_A.mp h with ⟨e, h⟩ | h
  · obtain ⟨c, hc, hq⟩ := List.mem_flatten.mp h
    have h1 : some c ∈ cs'.map some := List.mem_map.mpr ⟨c, hc, rfl⟩
    rw [← hs] at h1
    obtain ⟨i, -, hi⟩ := List.mem_map.mp h1
    exact (jb_D.mp hD).2 (q, e) (List.mem_flatten.mpr ⟨c, List.mem_of_getElem? hi, hq⟩)
  · exact hA q (Nat.le_trans hS.1 h)
theorem fr_join {A0 : Nat → Prop} {D : va_G} {cl : List vw_C} {cs cc cr c1 : List va_W} {H H1 : Heap} (hP : va_P D cl cs.flatten H) (hD : va_D A0 cs.flatten) (isC isR : List Nat) (hC : isC.map (fun i => cs[i]?) = cc.map some) (hR : isR.map (fun i => cs[i]?) = cr.map some) (hn : va_nd isR = true) (hdis : (isR.all fun i => !isC.contains i) = true)
    (hk : ∀ q : Nat, q < H.size → ¬ va_A cc.flatten H.size q → H1[q]? = H[q]?) (hF : ∀ q, va_A cc.flatten H.size q → A0 q) (hP1 : va_P D cl c1.flatten H1) (hD1 : va_D (va_A cc.flatten H.size) c1.flatten) : va_P D cl (cr ++ c1).flatten H1 ∧ va_D A0 (cr ++ c1).flatten := by
  have hPr := fr_sub hP isR hR
  have hDr := fr_subD hD isR hn hR
  have apart : ∀ q ∈ cr.flatten, q.1 < H.size ∧ ¬ va_A cc.flatten H.size q.1 := by
    intro q hq
    have hl := ((jb_P.mp hPr) q hq).lt
    refine ⟨hl, fun h => ?_⟩
    rcases jb_A.mp h with ⟨e, h⟩ | h
    · obtain ⟨c2, hc2, hq2⟩ := List.mem_flatten.mp h
      obtain ⟨c3, hc3, hq3⟩ := List.mem_flatten.mp hq
      have h1 : some c2 ∈ cc.map some := List.mem_map.mpr ⟨c2, hc2, rfl⟩
      rw [← hC] at h1
      obtain ⟨i, hi0, hi⟩ := List.mem_map.mp h1
      have h2 : some c3 ∈ cr.map some := List.mem_map.mpr ⟨c3, hc3, rfl⟩
      rw [← hR] at h2
      obtain ⟨j, hj0, hj⟩ := List.mem_map.mp h2
      have hij : i ≠ j := by
        intro e
        subst e
        have := List.all_eq_true.mp hdis i hj0
        simp [hi0] at this
      obtain ⟨i3, i4⟩ := List.getElem?_eq_some_iff.mp hi
      obtain ⟨j3, j4⟩ := List.getElem?_eq_some_iff.mp hj
      have hp := (List.pairwise_flatten.mp (jb_D.mp hD).1).2
      rcases Nat.lt_or_gt_of_ne hij with w | w
      · exact List.pairwise_iff_getElem.mp hp i j i3 j3 w (q.1, e) (by rw [i4]; exact hq2) q (by rw [j4]; exact hq3) rfl
      · exact List.pairwise_iff_getElem.mp hp j i j3 i3 w q (by rw [j4]; exact hq3) (q.1, e) (by rw [i4]; exact hq2) rfl
    · omega
  rw [List.flatten_append]
  refine ⟨va_P.app (jb_P.mpr fun q hq => ?_) hP1, va_D.app hDr (hD1.weaken (fun k q _ h => hF q.1 h)) (fun i j x y hx hy hxy => ?_)⟩
  · obtain ⟨g1, g2⟩ := apart q hq
    exact ((jb_P.mp hPr) q hq).kept (hk q.1 g1 g2)
  · exact (apart x (List.mem_of_getElem? hx)).2 (by rw [hxy]; exact hD1.2 j y hy)
/-! contracts -/
def PRE (g : GG) (cs : List va_W) (sz : Nat) (U : State) : Prop := U.heap.size = sz ∧ va_P g.1 vwCl cs.flatten U.heap ∧ va_K g.1 vwCl (TY g) U ∧ va_D (fun _ => True) cs.flatten ∧ EV g (va_A cs.flatten sz) U U.heap
theorem PRE.blind {g : GG} {cs : List va_W} {sz : Nat} {av : List Value} : FrameBlind (va_Pc av (PRE g cs sz)) := by
  intro a U f mk h
  obtain ⟨h0, h1, h2, h3, h4, h5⟩ := h
  exact ⟨h0, h1, h2, va_K.moved (u := U) (U := U.calling f mk a) (Vm.Alike.refl U.vm) h3, h4, EV.warm (s := U) (U := U.calling f mk a) (State.WarmedH.refl U) h5⟩
theorem PRE.go {g : GG} {cs : List va_W} {s : State} {H : Heap} {A A0 : Nat → Prop} {locs : List Loc} {av : List Value} (hP : va_P g.1 vwCl cs.flatten H) (hK : va_K g.1 vwCl (TY g) s) (hD : va_D A cs.flatten) (hE : EV g A0 s s.heap) (hS : va_S A0 s.heap H locs) (hF : ∀ q, va_A cs.flatten H.size q → A0 q) : ∀ U : State, U.heap = H → s.WarmedH U.vm → va_Pc av (PRE g cs H.size) av.toArray U := by
  intro U hU hW
  refine ⟨rfl, by rw [hU], by rw [hU]; exact hP, va_K.moved hW.alike hK, hD.weaken (fun _ _ _ _ => trivial), ?_⟩
  rw [hU]
  exact EV.warm hW ((hE.kept hS.2.1).narrow hF)
def MI (g : GG) (l : Launch) (y : MethodName) (cc : ByteArray) (n : Nat) (ret : Option FieldType) (rm : Room) (av : List Value) (cs : List va_W) (mc ms : Nat) (res : Int32) (cs' : List va_W) : Prop :=
  ∀ sz : Nat, Met l y (wsM y cc n ret) rm (va_Pc av (PRE g cs sz)) (va_Qi (fun r (_ : Unit) => r = res) (fun _ t => va_P g.1 vwCl cs'.flatten t.heap ∧ va_D (va_A cs.flatten sz) cs'.flatten) (va_A cs.flatten sz)) mc ms (va_A cs.flatten sz)
def MV (g : GG) (l : Launch) (y : MethodName) (cc : ByteArray) (n : Nat) (ret : Option FieldType) (rm : Room) (av : List Value) (cs : List va_W) (mc ms : Nat) (cs' : List va_W) : Prop :=
  ∀ sz : Nat, Met l y (wsM y cc n ret) rm (va_Pc av (PRE g cs sz)) (va_Qv (fun (_ : Unit) => True) (fun _ t => va_P g.1 vwCl cs'.flatten t.heap ∧ va_D (va_A cs.flatten sz) cs'.flatten) (va_A cs.flatten sz)) mc ms (va_A cs.flatten sz)
theorem jb_open {g : GG} {l : Launch} {y : MethodName} {cc : ByteArray} {n : Nat} {ret : Option FieldType} {rm : Room} {av : List Value} {cs : List va_W} {mc ms sz : Nat} {Qf : (Nat → Prop) → Array Value → State → Outcome → State → Prop} (hy : plainName y.cls = true) (hn : (lg_sl av).length ≤ n)
    (body : ∀ (p : Program) (e : Env) (s : State) (m : MethodId) (below : List Frame) (meth : Method) (c : Code) (A : Nat → Prop), p.tables.exec = Jvm.exec → c.code = cc → meth.sig.returnType = ret → c.maxLocals = n → s.vm.findClass y.cls = some m.cls → (∀ w ∈ WW, w.before av.toArray s = true) → meth.locks = false → meth.name = y.name → va_K g.1 vwCl (TY g) s → EV g A s s.heap → (∀ q : Nat, s.heap.size ≤ q → A q) → va_P g.1 vwCl cs.flatten s.heap → va_D A cs.flatten → va_S A s.heap s.heap [] →
      ∀ ls : Array Slot, lv_has ls n (lv_args 0 av) → W p l e rm s m av.toArray below meth c s.heap [] 0 0 (MQ below (Qf A) av.toArray s mc ms A) (F0 m 0 ls [])) :
    Met l y (wsM y cc n ret) rm (va_Pc av (PRE g cs sz)) (Qf (va_A cs.flatten sz)) mc ms (va_A cs.flatten sz) := by
  refine Met.ofW (cc := cc) (maxL := n) (ret := ret) hy rfl ?_
  intro p e s m args below meth c s₁ B hml hv
  obtain ⟨rfl, hsz, hP, hK, hD0, hE⟩ := hv
  subst hsz
  have hts := atoms_spec (ws := wsM y cc n ret) B.pre
  have hl := lv_entry av (n := n) hn
  rw [lg_entry_eq]
  exact body p e s m below meth c (va_A cs.flatten s.heap.size) B.exec B.bytes B.returns hml (findClass_of_methodNamed B.named) (fun w hw => hts w (List.mem_cons_of_mem _ hw)) B.notSynchronized (name_of_methodNamed B.named B.method).1 hK hE (fun q h => Or.inr h) hP hD0.self va_S.rf _ hl

theorem MI.bg {g : GG} {l : Launch} {y : MethodName} {cc : ByteArray} {n : Nat} {ret : Option FieldType} {rm : Room} {av : List Value} {cs cs' : List va_W} {mc ms : Nat} {res : Int32} (hy : plainName y.cls = true) (hn : (lg_sl av).length ≤ n)
    (body : ∀ (p : Program) (e : Env) (s : State) (m : MethodId) (below : List Frame) (meth : Method) (c : Code) (A : Nat → Prop) (Q : State → Prop), Q = (MQ below (va_Qi (fun r (_ : Unit) => r = res) (fun _ t => va_P g.1 vwCl cs'.flatten t.heap ∧ va_D A cs'.flatten) A) av.toArray s mc ms A) → p.tables.exec = Jvm.exec → c.code = cc → meth.sig.returnType = ret → c.maxLocals = n → s.vm.findClass y.cls = some m.cls → (∀ w ∈ WW, w.before av.toArray s = true) → meth.locks = false → meth.name = y.name → va_K g.1 vwCl (TY g) s → EV g A s s.heap → (∀ q : Nat, s.heap.size ≤ q → A q) → va_P g.1 vwCl cs.flatten s.heap → va_D A cs.flatten → va_S A s.heap s.heap [] →
      ∀ ls : Array Slot, lv_has ls n (lv_args 0 av) → W p l e rm s m av.toArray below meth c s.heap [] 0 0 Q (F0 m 0 ls [])) : MI g l y cc n ret rm av cs mc ms res cs' :=
  fun _ => jb_open (Qf := fun A => va_Qi (fun r (_ : Unit) => r = res) (fun _ t => va_P g.1 vwCl cs'.flatten t.heap ∧ va_D A cs'.flatten) A) hy hn (fun p e s m below meth c A => body p e s m below meth c A _ rfl)
theorem MV.bg {g : GG} {l : Launch} {y : MethodName} {cc : ByteArray} {n : Nat} {ret : Option FieldType} {rm : Room} {av : List Value} {cs cs' : List va_W} {mc ms : Nat} (hy : plainName y.cls = true) (hn : (lg_sl av).length ≤ n)
    (body : ∀ (p : Program) (e : Env) (s : State) (m : MethodId) (below : List Frame) (meth : Method) (c : Code) (A : Nat → Prop) (Q : State → Prop), Q = (MQ below (va_Qv (fun (_ : Unit) => True) (fun _ t => va_P g.1 vwCl cs'.flatten t.heap ∧ va_D A cs'.flatten) A) av.toArray s mc ms A) → p.tables.exec = Jvm.exec → c.code = cc → meth.sig.returnType = ret → c.maxLocals = n → s.vm.findClass y.cls = some m.cls → (∀ w ∈ WW, w.before av.toArray s = true) → meth.locks = false → meth.name = y.name → va_K g.1 vwCl (TY g) s → EV g A s s.heap → (∀ q : Nat, s.heap.size ≤ q → A q) → va_P g.1 vwCl cs.flatten s.heap → va_D A cs.flatten → va_S A s.heap s.heap [] →
      ∀ ls : Array Slot, lv_has ls n (lv_args 0 av) → W p l e rm s m av.toArray below meth c s.heap [] 0 0 Q (F0 m 0 ls [])) : MV g l y cc n ret rm av cs mc ms cs' :=
  fun _ => jb_open (Qf := fun A => va_Qv (fun (_ : Unit) => True) (fun _ t => va_P g.1 vwCl cs'.flatten t.heap ∧ va_D A cs'.flatten) A) hy hn (fun p e s m below meth c A => body p e s m below meth c A _ rfl)
def imin (x y : Int32) : Int32 := if y < x then y else x
def imax (x y : Int32) : Int32 := if x < y then y else x
/-! ends -/
section ENDS
variable {p : Program} {l : Launch} {e : Env} {R : Room} {s : State} {m : MethodId} {args : Array Value} {below : List Frame} {meth : Method} {c : Code} {H : Heap} {locs : List Loc} {cells slots mc ms : Nat} {cc : ByteArray} {g : GG} {A : Nat → Prop} {cs : List va_W}
theorem jb_iret {res v : Int32} {pc : Nat} {ls : Array Slot} (hx : p.tables.exec = Jvm.exec) (hb : c.code = cc) (hr : meth.sig.returnType = some .int) (hlocks : meth.locks = false) (hP : va_P g.1 vwCl cs.flatten H) (hD : va_D A cs.flatten) (hS : va_S A s.heap H locs) (hdg : decode cc pc = .ok (.ireturn, 1)) (hv : v = res) (hc : cells ≤ mc) (hs : slots ≤ ms) :
    W p l e R s m args below meth c H locs cells slots (MQ below (va_Qi (fun r (_ : Unit) => r = res) (fun _ t => va_P g.1 vwCl cs.flatten t.heap ∧ va_D A cs.flatten) A) args s mc ms A) (F0 m pc ls [.int v]) := by
  refine W.widen hc hs ?_
  exact W.iret (v := v) hx hb hr (fun t ht hW => ⟨⟨v, (), rfl, hv, by rw [ht]; exact hP, hD⟩, hS.F ht⟩) hS.2.2 hdg hlocks
theorem jb_zret {res v : Int32} {ty : FieldType} {pc : Nat} {ls : Array Slot} (hx : p.tables.exec = Jvm.exec) (hb : c.code = cc) (hr : meth.sig.returnType = some ty) (hn : narrow ty (.int v) = .int v) (hlocks : meth.locks = false) (hP : va_P g.1 vwCl cs.flatten H) (hD : va_D A cs.flatten) (hS : va_S A s.heap H locs) (hdg : decode cc pc = .ok (.ireturn, 1)) (hv : v = res) (hc : cells ≤ mc) (hs : slots ≤ ms) :
    W p l e R s m args below meth c H locs cells slots (MQ below (va_Qi (fun r (_ : Unit) => r = res) (fun _ t => va_P g.1 vwCl cs.flatten t.heap ∧ va_D A cs.flatten) A) args s mc ms A) (F0 m pc ls [.int v]) := by
  refine W.widen hc hs ?_
  exact W.zret (v := v) hx hb hr hn (fun t ht hW => ⟨⟨v, (), rfl, hv, by rw [ht]; exact hP, hD⟩, hS.F ht⟩) hS.2.2 hdg hlocks
theorem jb_vret {pc : Nat} {ls : Array Slot} (hx : p.tables.exec = Jvm.exec) (hb : c.code = cc) (hr : meth.sig.returnType = none) (hlocks : meth.locks = false) (hP : va_P g.1 vwCl cs.flatten H) (hD : va_D A cs.flatten) (hS : va_S A s.heap H locs) (hdg : decode cc pc = .ok (.return_, 1)) (hc : cells ≤ mc) (hs : slots ≤ ms) :
    W p l e R s m args below meth c H locs cells slots (MQ below (va_Qv (fun (_ : Unit) => True) (fun _ t => va_P g.1 vwCl cs.flatten t.heap ∧ va_D A cs.flatten) A) args s mc ms A) (F0 m pc ls []) := by
  refine W.widen hc hs ?_
  exact W.vret hx hb hr (fun t ht hW => ⟨⟨(), rfl, trivial, by rw [ht]; exact hP, hD⟩, hS.F ht⟩) hS.2.2 hdg hlocks
end ENDS
/-! calls -/
section CALLS
variable {p : Program} {l : Launch} {e : Env} {R : Room} {s : State} {m : MethodId} {args : Array Value} {below : List Frame} {meth : Method} {c : Code} {H : Heap} {locs : List Loc} {cells slots : Nat} {Q : State → Prop}
  {cc bytes : ByteArray} {nL maxL index n mc ms pc : Nat} {own C : String} {y : MethodName} {ret : Option FieldType} {rm : Room} {b : Addr} {As rest st0 : List Value} {ls : Array Slot} {g : GG} {A : Nat → Prop} {cs csC csR csN csF : List va_W} {res : Int32} {lv : List (Nat × Value)}
/-- a call's cut and join -/
abbrev CJ (cs csC csR csN csF : List va_W) (isC isR isF : List Nat) : Prop :=
  isC.map (fun i => cs[i]?) = csC.map some ∧ va_nd isC = true ∧ isR.map (fun i => cs[i]?) = csR.map some ∧ va_nd isR = true ∧ (isR.all fun i => !isC.contains i) = true ∧ isF.map (fun i => (csR ++ csN)[i]?) = csF.map some ∧ va_nd isF = true
/-- an object of the world as receiver -/
abbrev RV (csC : List va_W) (b : Addr) (C : String) : Prop := ∃ (q0 ci : Nat) (q : vw_C) (fs : List Value), csC.flatten[q0]? = some (b, .inr (ci, fs)) ∧ vwCl[ci]? = some q ∧ q.1 = C
theorem cl_i (hx : p.tables.exec = Jvm.exec) (hb : c.code = cc) (hml : c.maxLocals = nL) (hown : s.vm.findClass own = some m.cls) (hts : ∀ w ∈ WW, w.before args s = true) (hK : va_K g.1 vwCl (TY g) s) (hE : EV g A s s.heap) (hA : ∀ q : Nat, s.heap.size ≤ q → A q) (hl : lv_has ls nL lv)
    (hP : va_P g.1 vwCl cs.flatten H) (hD : va_D A cs.flatten) (hS : va_S A s.heap H locs) (hM : MI g l y bytes maxL ret rm (.ref b :: As) csC mc ms res csN) (isC isR isF : List Nat) (hJ : CJ cs csC csR csN csF isC isR isF) (hR : RV csC b C) (n : Nat)
    (hG : GoodIn WW (wsV own index C y (wsM y bytes maxL ret))) (hrm : rm.cells = mc ∧ rm.slots = ms) (hd : y.cls = C ∧ y.cls ≠ "java/lang/invoke/MethodHandle" ∧ y.cls ≠ "java/lang/invoke/VarHandle" ∧ (parseMethodDescriptor y.desc).map (fun d => d.parameters.length) = some n)
    (hRm : (rm.frames + 1 ≤ R.frames ∧ 8 + (maxL + 11) + rm.locals ≤ R.locals) ∧ cells + mc ≤ R.cells ∧ slots + ms ≤ R.slots) (hst : As.length = n ∧ st0 = As.reverse ++ .ref b :: rest) (hW : (rest.map fun v => v.category).sum ≤ 8) (hdg : decode cc pc = .ok (.invokevirtual index, 3))
    (kk : ∀ (H1 : Heap) (locs1 : List Loc), va_P g.1 vwCl csF.flatten H1 → va_D A csF.flatten → va_S A s.heap H1 locs1 → W p l e R s m args below meth c H1 locs1 (cells + mc) (slots + ms) Q (F0 m (pc + 3) ls (.int res :: rest))) : W p l e R s m args below meth c H locs cells slots Q (F0 m pc ls st0) := by
  obtain ⟨j1, j2, j3, j4, j5, j6, j7⟩ := hJ
  obtain ⟨q0, ci, q, fs, r1, r2, rfl⟩ := hR
  have hPc := fr_sub hP isC j1
  have hDc := fr_subD hD isC j2 j1
  have hFc := fr_free hD hS hA isC j1
  refine va_calli (va_runV (As := As) (rest := rest) ⟨hx, hb, hml, hown, hts⟩ (hM H.size) (cwV n hts hG rfl hrm.1 hrm.2 hd hRm.1) ⟨PRE.blind, va_recv hK hPc r2 r1, PRE.go hPc hK hDc hE hS hFc⟩ rfl hst.1 hl.1 hst.2 (lv_room hW) hdg hRm.2) hS (fun q _ h => hFc q h) hFc (fun r u t H1 locs1 ht hvm hw hB hz1 hk1 hS1 => ?_)
  obtain ⟨hP1, hD1⟩ := hB
  rw [ht] at hP1
  subst hw
  obtain ⟨hP2, hD2⟩ := fr_join hP hD isC isR j1 j3 j4 j5 hk1 hFc hP1 hD1
  exact kk H1 locs1 (fr_sub hP2 isF j6) (fr_subD hD2 isF j7 j6) hS1
theorem cl_v (hx : p.tables.exec = Jvm.exec) (hb : c.code = cc) (hml : c.maxLocals = nL) (hown : s.vm.findClass own = some m.cls) (hts : ∀ w ∈ WW, w.before args s = true) (hK : va_K g.1 vwCl (TY g) s) (hE : EV g A s s.heap) (hA : ∀ q : Nat, s.heap.size ≤ q → A q) (hl : lv_has ls nL lv)
    (hP : va_P g.1 vwCl cs.flatten H) (hD : va_D A cs.flatten) (hS : va_S A s.heap H locs) (hM : MV g l y bytes maxL ret rm (.ref b :: As) csC mc ms csN) (isC isR isF : List Nat) (hJ : CJ cs csC csR csN csF isC isR isF) (hR : RV csC b C) (n : Nat)
    (hG : GoodIn WW (wsV own index C y (wsM y bytes maxL ret))) (hrm : rm.cells = mc ∧ rm.slots = ms) (hd : y.cls = C ∧ y.cls ≠ "java/lang/invoke/MethodHandle" ∧ y.cls ≠ "java/lang/invoke/VarHandle" ∧ (parseMethodDescriptor y.desc).map (fun d => d.parameters.length) = some n)
    (hRm : (rm.frames + 1 ≤ R.frames ∧ 8 + (maxL + 11) + rm.locals ≤ R.locals) ∧ cells + mc ≤ R.cells ∧ slots + ms ≤ R.slots) (hst : As.length = n ∧ st0 = As.reverse ++ .ref b :: rest) (hW : (rest.map fun v => v.category).sum ≤ 8) (hdg : decode cc pc = .ok (.invokevirtual index, 3))
    (kk : ∀ (H1 : Heap) (locs1 : List Loc), va_P g.1 vwCl csF.flatten H1 → va_D A csF.flatten → va_S A s.heap H1 locs1 → W p l e R s m args below meth c H1 locs1 (cells + mc) (slots + ms) Q (F0 m (pc + 3) ls rest)) : W p l e R s m args below meth c H locs cells slots Q (F0 m pc ls st0) := by
  obtain ⟨j1, j2, j3, j4, j5, j6, j7⟩ := hJ
  obtain ⟨q0, ci, q, fs, r1, r2, rfl⟩ := hR
  have hPc := fr_sub hP isC j1
  have hDc := fr_subD hD isC j2 j1
  have hFc := fr_free hD hS hA isC j1
  refine va_callv (va_runV (As := As) (rest := rest) ⟨hx, hb, hml, hown, hts⟩ (hM H.size) (cwV n hts hG rfl hrm.1 hrm.2 hd hRm.1) ⟨PRE.blind, va_recv hK hPc r2 r1, PRE.go hPc hK hDc hE hS hFc⟩ rfl hst.1 hl.1 hst.2 (lv_room hW) hdg hRm.2) hS (fun q _ h => hFc q h) hFc (fun u t H1 locs1 ht hvm hw hB hz1 hk1 hS1 => ?_)
  obtain ⟨hP1, hD1⟩ := hB
  rw [ht] at hP1
  obtain ⟨hP2, hD2⟩ := fr_join hP hD isC isR j1 j3 j4 j5 hk1 hFc hP1 hD1
  exact kk H1 locs1 (fr_sub hP2 isF j6) (fr_subD hD2 isF j7 j6) hS1
theorem cl_si (hx : p.tables.exec = Jvm.exec) (hb : c.code = cc) (hml : c.maxLocals = nL) (hown : s.vm.findClass own = some m.cls) (hts : ∀ w ∈ WW, w.before args s = true) (hK : va_K g.1 vwCl (TY g) s) (hE : EV g A s s.heap) (hA : ∀ q : Nat, s.heap.size ≤ q → A q) (hl : lv_has ls nL lv)
    (hP : va_P g.1 vwCl cs.flatten H) (hD : va_D A cs.flatten) (hS : va_S A s.heap H locs) (hM : MI g l y bytes maxL ret rm As csC mc ms res csN) (isC isR isF : List Nat) (hJ : CJ cs csC csR csN csF isC isR isF) (n : Nat)
    (hG : GoodIn WW (wsS own index y (wsM y bytes maxL ret))) (hrm : rm.cells = mc ∧ rm.slots = ms) (hd : y.cls = own ∧ y.cls ≠ "java/lang/invoke/MethodHandle" ∧ y.cls ≠ "java/lang/invoke/VarHandle" ∧ (parseMethodDescriptor y.desc).map (fun d => d.parameters.length) = some n)
    (hRm : (rm.frames + 1 ≤ R.frames ∧ 8 + (maxL + 11) + rm.locals ≤ R.locals) ∧ cells + mc ≤ R.cells ∧ slots + ms ≤ R.slots) (hst : As.length = n ∧ st0 = As.reverse ++ rest) (hW : (rest.map fun v => v.category).sum ≤ 8) (hdg : decode cc pc = .ok (.invokestatic index, 3))
    (kk : ∀ (H1 : Heap) (locs1 : List Loc), va_P g.1 vwCl csF.flatten H1 → va_D A csF.flatten → va_S A s.heap H1 locs1 → W p l e R s m args below meth c H1 locs1 (cells + mc) (slots + ms) Q (F0 m (pc + 3) ls (.int res :: rest))) : W p l e R s m args below meth c H locs cells slots Q (F0 m pc ls st0) := by
  obtain ⟨j1, j2, j3, j4, j5, j6, j7⟩ := hJ
  have hPc := fr_sub hP isC j1
  have hDc := fr_subD hD isC j2 j1
  have hFc := fr_free hD hS hA isC j1
  refine va_calli (va_runS (As := As) (rest := rest) ⟨hx, hb, hml, hown, hts⟩ (hM H.size) (cwS n hts hG rfl hrm.1 hrm.2 hd hRm.1) ⟨PRE.blind, PRE.go hPc hK hDc hE hS hFc⟩ rfl hst.1 hl.1 hst.2 (lv_room hW) hdg hRm.2) hS (fun q _ h => hFc q h) hFc (fun r u t H1 locs1 ht hvm hw hB hz1 hk1 hS1 => ?_)
  obtain ⟨hP1, hD1⟩ := hB
  rw [ht] at hP1
  subst hw
  obtain ⟨hP2, hD2⟩ := fr_join hP hD isC isR j1 j3 j4 j5 hk1 hFc hP1 hD1
  exact kk H1 locs1 (fr_sub hP2 isF j6) (fr_subD hD2 isF j7 j6) hS1
theorem cl_sv (hx : p.tables.exec = Jvm.exec) (hb : c.code = cc) (hml : c.maxLocals = nL) (hown : s.vm.findClass own = some m.cls) (hts : ∀ w ∈ WW, w.before args s = true) (hK : va_K g.1 vwCl (TY g) s) (hE : EV g A s s.heap) (hA : ∀ q : Nat, s.heap.size ≤ q → A q) (hl : lv_has ls nL lv)
    (hP : va_P g.1 vwCl cs.flatten H) (hD : va_D A cs.flatten) (hS : va_S A s.heap H locs) (hM : MV g l y bytes maxL ret rm As csC mc ms csN) (isC isR isF : List Nat) (hJ : CJ cs csC csR csN csF isC isR isF) (n : Nat)
    (hG : GoodIn WW (wsS own index y (wsM y bytes maxL ret))) (hrm : rm.cells = mc ∧ rm.slots = ms) (hd : y.cls = own ∧ y.cls ≠ "java/lang/invoke/MethodHandle" ∧ y.cls ≠ "java/lang/invoke/VarHandle" ∧ (parseMethodDescriptor y.desc).map (fun d => d.parameters.length) = some n)
    (hRm : (rm.frames + 1 ≤ R.frames ∧ 8 + (maxL + 11) + rm.locals ≤ R.locals) ∧ cells + mc ≤ R.cells ∧ slots + ms ≤ R.slots) (hst : As.length = n ∧ st0 = As.reverse ++ rest) (hW : (rest.map fun v => v.category).sum ≤ 8) (hdg : decode cc pc = .ok (.invokestatic index, 3))
    (kk : ∀ (H1 : Heap) (locs1 : List Loc), va_P g.1 vwCl csF.flatten H1 → va_D A csF.flatten → va_S A s.heap H1 locs1 → W p l e R s m args below meth c H1 locs1 (cells + mc) (slots + ms) Q (F0 m (pc + 3) ls rest)) : W p l e R s m args below meth c H locs cells slots Q (F0 m pc ls st0) := by
  obtain ⟨j1, j2, j3, j4, j5, j6, j7⟩ := hJ
  have hPc := fr_sub hP isC j1
  have hDc := fr_subD hD isC j2 j1
  have hFc := fr_free hD hS hA isC j1
  refine va_callv (va_runS (As := As) (rest := rest) ⟨hx, hb, hml, hown, hts⟩ (hM H.size) (cwS n hts hG rfl hrm.1 hrm.2 hd hRm.1) ⟨PRE.blind, PRE.go hPc hK hDc hE hS hFc⟩ rfl hst.1 hl.1 hst.2 (lv_room hW) hdg hRm.2) hS (fun q _ h => hFc q h) hFc (fun u t H1 locs1 ht hvm hw hB hz1 hk1 hS1 => ?_)
  obtain ⟨hP1, hD1⟩ := hB
  rw [ht] at hP1
  obtain ⟨hP2, hD2⟩ := fr_join hP hD isC isR j1 j3 j4 j5 hk1 hFc hP1 hD1
  exact kk H1 locs1 (fr_sub hP2 isF j6) (fr_subD hD2 isF j7 j6) hS1
theorem jb_giG {own : String} {idx : Nat} {y : MethodName} {cc : ByteArray} {n : Nat} {ret : Option FieldType} (hl : Cond.methodLink own idx y ∈ WW) (hi : Cond.static y ∈ WW) (hn : Cond.initialized y.cls ∈ WW) (hc : Cond.code y cc n ret ∈ WW) : GoodIn WW (va_wsS own idx y (wsM y cc n ret)) := by
  intro w hw
  rcases List.mem_append.mp hw with h | h
  · have h1 : w ∈ WW := by
      simp only [List.mem_cons, List.not_mem_nil, or_false] at h
      rcases h with rfl | rfl | rfl <;> assumption
    exact ⟨h1, good_of_word (List.mem_filter.mp h1).2⟩
  · exact jb_gi hc w h
theorem cl_iR (hx : p.tables.exec = Jvm.exec) (hb : c.code = cc) (hml : c.maxLocals = nL) (hown : s.vm.findClass own = some m.cls) (hts : ∀ w ∈ WW, w.before args s = true) (hK : va_K g.1 vwCl (TY g) s) (hE : EV g A s s.heap) (hA : ∀ q : Nat, s.heap.size ≤ q → A q) (hl : lv_has ls nL lv)
    (hP : va_P g.1 vwCl cs.flatten H) (hD : va_D A cs.flatten) (hS : va_S A s.heap H locs) (hM : MI g l y bytes maxL ret rm (.ref b :: As) csC mc ms res csN) (isC isR isF : List Nat) (hJ : CJ cs csC csR csN csF isC isR isF) (hR : ∃ cellB : Cell, H[b]? = some cellB ∧ cellB.vm.isStatics = false ∧ s.vm.findClass C = some cellB.cls) (n : Nat)
    (hG : GoodIn WW (wsV own index C y (wsM y bytes maxL ret))) (hrm : rm.cells = mc ∧ rm.slots = ms) (hd : y.cls = C ∧ y.cls ≠ "java/lang/invoke/MethodHandle" ∧ y.cls ≠ "java/lang/invoke/VarHandle" ∧ (parseMethodDescriptor y.desc).map (fun d => d.parameters.length) = some n)
    (hRm : (rm.frames + 1 ≤ R.frames ∧ 8 + (maxL + 11) + rm.locals ≤ R.locals) ∧ cells + mc ≤ R.cells ∧ slots + ms ≤ R.slots) (hst : As.length = n ∧ st0 = As.reverse ++ .ref b :: rest) (hW : (rest.map fun v => v.category).sum ≤ 8) (hdg : decode cc pc = .ok (.invokevirtual index, 3))
    (kk : ∀ (H1 : Heap) (locs1 : List Loc), va_P g.1 vwCl csF.flatten H1 → va_D A csF.flatten → va_S A s.heap H1 locs1 → W p l e R s m args below meth c H1 locs1 (cells + mc) (slots + ms) Q (F0 m (pc + 3) ls (.int res :: rest))) : W p l e R s m args below meth c H locs cells slots Q (F0 m pc ls st0) := by
  obtain ⟨j1, j2, j3, j4, j5, j6, j7⟩ := hJ
  have hPc := fr_sub hP isC j1
  have hDc := fr_subD hD isC j2 j1
  have hFc := fr_free hD hS hA isC j1
  refine va_calli (va_runV (As := As) (rest := rest) ⟨hx, hb, hml, hown, hts⟩ (hM H.size) (cwV n hts hG rfl hrm.1 hrm.2 hd hRm.1) ⟨PRE.blind, hR, PRE.go hPc hK hDc hE hS hFc⟩ rfl hst.1 hl.1 hst.2 (lv_room hW) hdg hRm.2) hS (fun q _ h => hFc q h) hFc (fun r u t H1 locs1 ht hvm hw hB hz1 hk1 hS1 => ?_)
  obtain ⟨hP1, hD1⟩ := hB
  rw [ht] at hP1
  subst hw
  obtain ⟨hP2, hD2⟩ := fr_join hP hD isC isR j1 j3 j4 j5 hk1 hFc hP1 hD1
  exact kk H1 locs1 (fr_sub hP2 isF j6) (fr_subD hD2 isF j7 j6) hS1
theorem cl_vR (hx : p.tables.exec = Jvm.exec) (hb : c.code = cc) (hml : c.maxLocals = nL) (hown : s.vm.findClass own = some m.cls) (hts : ∀ w ∈ WW, w.before args s = true) (hK : va_K g.1 vwCl (TY g) s) (hE : EV g A s s.heap) (hA : ∀ q : Nat, s.heap.size ≤ q → A q) (hl : lv_has ls nL lv)
    (hP : va_P g.1 vwCl cs.flatten H) (hD : va_D A cs.flatten) (hS : va_S A s.heap H locs) (hM : MV g l y bytes maxL ret rm (.ref b :: As) csC mc ms csN) (isC isR isF : List Nat) (hJ : CJ cs csC csR csN csF isC isR isF) (hR : ∃ cellB : Cell, H[b]? = some cellB ∧ cellB.vm.isStatics = false ∧ s.vm.findClass C = some cellB.cls) (n : Nat)
    (hG : GoodIn WW (wsV own index C y (wsM y bytes maxL ret))) (hrm : rm.cells = mc ∧ rm.slots = ms) (hd : y.cls = C ∧ y.cls ≠ "java/lang/invoke/MethodHandle" ∧ y.cls ≠ "java/lang/invoke/VarHandle" ∧ (parseMethodDescriptor y.desc).map (fun d => d.parameters.length) = some n)
    (hRm : (rm.frames + 1 ≤ R.frames ∧ 8 + (maxL + 11) + rm.locals ≤ R.locals) ∧ cells + mc ≤ R.cells ∧ slots + ms ≤ R.slots) (hst : As.length = n ∧ st0 = As.reverse ++ .ref b :: rest) (hW : (rest.map fun v => v.category).sum ≤ 8) (hdg : decode cc pc = .ok (.invokevirtual index, 3))
    (kk : ∀ (H1 : Heap) (locs1 : List Loc), va_P g.1 vwCl csF.flatten H1 → va_D A csF.flatten → va_S A s.heap H1 locs1 → W p l e R s m args below meth c H1 locs1 (cells + mc) (slots + ms) Q (F0 m (pc + 3) ls rest)) : W p l e R s m args below meth c H locs cells slots Q (F0 m pc ls st0) := by
  obtain ⟨j1, j2, j3, j4, j5, j6, j7⟩ := hJ
  have hPc := fr_sub hP isC j1
  have hDc := fr_subD hD isC j2 j1
  have hFc := fr_free hD hS hA isC j1
  refine va_callv (va_runV (As := As) (rest := rest) ⟨hx, hb, hml, hown, hts⟩ (hM H.size) (cwV n hts hG rfl hrm.1 hrm.2 hd hRm.1) ⟨PRE.blind, hR, PRE.go hPc hK hDc hE hS hFc⟩ rfl hst.1 hl.1 hst.2 (lv_room hW) hdg hRm.2) hS (fun q _ h => hFc q h) hFc (fun u t H1 locs1 ht hvm hw hB hz1 hk1 hS1 => ?_)
  obtain ⟨hP1, hD1⟩ := hB
  rw [ht] at hP1
  obtain ⟨hP2, hD2⟩ := fr_join hP hD isC isR j1 j3 j4 j5 hk1 hFc hP1 hD1
  exact kk H1 locs1 (fr_sub hP2 isF j6) (fr_subD hD2 isF j7 j6) hS1
theorem cl_siG (hx : p.tables.exec = Jvm.exec) (hb : c.code = cc) (hml : c.maxLocals = nL) (hown : s.vm.findClass own = some m.cls) (hts : ∀ w ∈ WW, w.before args s = true) (hK : va_K g.1 vwCl (TY g) s) (hE : EV g A s s.heap) (hA : ∀ q : Nat, s.heap.size ≤ q → A q) (hl : lv_has ls nL lv)
    (hP : va_P g.1 vwCl cs.flatten H) (hD : va_D A cs.flatten) (hS : va_S A s.heap H locs) (hM : MI g l y bytes maxL ret rm As csC mc ms res csN) (isC isR isF : List Nat) (hJ : CJ cs csC csR csN csF isC isR isF) (n : Nat)
    (hG : GoodIn WW (va_wsS own index y (wsM y bytes maxL ret))) (hrm : rm.cells = mc ∧ rm.slots = ms) (hd : y.cls ≠ "java/lang/invoke/MethodHandle" ∧ y.cls ≠ "java/lang/invoke/VarHandle" ∧ (parseMethodDescriptor y.desc).map (fun d => d.parameters.length) = some n)
    (hRm : (rm.frames + 1 ≤ R.frames ∧ 8 + (maxL + 11) + rm.locals ≤ R.locals) ∧ cells + mc ≤ R.cells ∧ slots + ms ≤ R.slots) (hst : As.length = n ∧ st0 = As.reverse ++ rest) (hW : (rest.map fun v => v.category).sum ≤ 8) (hdg : decode cc pc = .ok (.invokestatic index, 3))
    (kk : ∀ (H1 : Heap) (locs1 : List Loc), va_P g.1 vwCl csF.flatten H1 → va_D A csF.flatten → va_S A s.heap H1 locs1 → W p l e R s m args below meth c H1 locs1 (cells + mc) (slots + ms) Q (F0 m (pc + 3) ls (.int res :: rest))) : W p l e R s m args below meth c H locs cells slots Q (F0 m pc ls st0) := by
  obtain ⟨j1, j2, j3, j4, j5, j6, j7⟩ := hJ
  have hPc := fr_sub hP isC j1
  have hDc := fr_subD hD isC j2 j1
  have hFc := fr_free hD hS hA isC j1
  refine va_calli (va_runS (As := As) (rest := rest) ⟨hx, hb, hml, hown, hts⟩ (hM H.size) (va_cwS n hts hG rfl hrm.1 hrm.2 hd hRm.1) ⟨PRE.blind, PRE.go hPc hK hDc hE hS hFc⟩ rfl hst.1 hl.1 hst.2 (lv_room hW) hdg hRm.2) hS (fun q _ h => hFc q h) hFc (fun r u t H1 locs1 ht hvm hw hB hz1 hk1 hS1 => ?_)
  obtain ⟨hP1, hD1⟩ := hB
  rw [ht] at hP1
  subst hw
  obtain ⟨hP2, hD2⟩ := fr_join hP hD isC isR j1 j3 j4 j5 hk1 hFc hP1 hD1
  exact kk H1 locs1 (fr_sub hP2 isF j6) (fr_subD hD2 isF j7 j6) hS1
theorem cl_svG (hx : p.tables.exec = Jvm.exec) (hb : c.code = cc) (hml : c.maxLocals = nL) (hown : s.vm.findClass own = some m.cls) (hts : ∀ w ∈ WW, w.before args s = true) (hK : va_K g.1 vwCl (TY g) s) (hE : EV g A s s.heap) (hA : ∀ q : Nat, s.heap.size ≤ q → A q) (hl : lv_has ls nL lv)
    (hP : va_P g.1 vwCl cs.flatten H) (hD : va_D A cs.flatten) (hS : va_S A s.heap H locs) (hM : MV g l y bytes maxL ret rm As csC mc ms csN) (isC isR isF : List Nat) (hJ : CJ cs csC csR csN csF isC isR isF) (n : Nat)
    (hG : GoodIn WW (va_wsS own index y (wsM y bytes maxL ret))) (hrm : rm.cells = mc ∧ rm.slots = ms) (hd : y.cls ≠ "java/lang/invoke/MethodHandle" ∧ y.cls ≠ "java/lang/invoke/VarHandle" ∧ (parseMethodDescriptor y.desc).map (fun d => d.parameters.length) = some n)
    (hRm : (rm.frames + 1 ≤ R.frames ∧ 8 + (maxL + 11) + rm.locals ≤ R.locals) ∧ cells + mc ≤ R.cells ∧ slots + ms ≤ R.slots) (hst : As.length = n ∧ st0 = As.reverse ++ rest) (hW : (rest.map fun v => v.category).sum ≤ 8) (hdg : decode cc pc = .ok (.invokestatic index, 3))
    (kk : ∀ (H1 : Heap) (locs1 : List Loc), va_P g.1 vwCl csF.flatten H1 → va_D A csF.flatten → va_S A s.heap H1 locs1 → W p l e R s m args below meth c H1 locs1 (cells + mc) (slots + ms) Q (F0 m (pc + 3) ls rest)) : W p l e R s m args below meth c H locs cells slots Q (F0 m pc ls st0) := by
  obtain ⟨j1, j2, j3, j4, j5, j6, j7⟩ := hJ
  have hPc := fr_sub hP isC j1
  have hDc := fr_subD hD isC j2 j1
  have hFc := fr_free hD hS hA isC j1
  refine va_callv (va_runS (As := As) (rest := rest) ⟨hx, hb, hml, hown, hts⟩ (hM H.size) (va_cwS n hts hG rfl hrm.1 hrm.2 hd hRm.1) ⟨PRE.blind, PRE.go hPc hK hDc hE hS hFc⟩ rfl hst.1 hl.1 hst.2 (lv_room hW) hdg hRm.2) hS (fun q _ h => hFc q h) hFc (fun u t H1 locs1 ht hvm hw hB hz1 hk1 hS1 => ?_)
  obtain ⟨hP1, hD1⟩ := hB
  rw [ht] at hP1
  obtain ⟨hP2, hD2⟩ := fr_join hP hD isC isR j1 j3 j4 j5 hk1 hFc hP1 hD1
  exact kk H1 locs1 (fr_sub hP2 isF j6) (fr_subD hD2 isF j7 j6) hS1
end CALLS
