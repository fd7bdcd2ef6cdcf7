/-! the seven changes: class and reference judge alike, and change alike -/
theorem gb {α β : Type} {o : Option α} {z : α} {f : α → Option β} {r : Option β} (h : o = some z) (k : f z = r) : o.bind f = r := by rw [h]; exact k
theorem gp {α : Type} {c : Prop} [Decidable c] {a b r : α} (hc : c) (k : a = r) : (if c then a else b) = r := by rw [if_pos hc]; exact k
theorem gn {α : Type} {c : Prop} [Decidable c] {a b r : α} (hc : ¬ c) (k : b = r) : (if c then a else b) = r := by rw [if_neg hc]; exact k
theorem gk {α : Type} {c : Bool} {a r : Option α} (hc : c = true) (k : a = r) : ck c a = r := by rw [hc]; exact k
theorem rng (p : Int32) (lo hi : Nat) (h1 : lo < 2 ^ 31) (h2 : hi < 2 ^ 31) : (p < nI lo ∨ nI hi < p) ∨ ∃ k, lo ≤ k ∧ k ≤ hi ∧ p = nI k := by
  by_cases c1 : p < nI lo
  · exact Or.inl (Or.inl c1)
  · by_cases c2 : nI hi < p
    · exact Or.inl (Or.inr c2)
    · have c0 : ¬ p < 0 := by
        intro z
        rw [Int32.lt_iff_toInt_lt, nI_toInt h1] at c1
        rw [Int32.lt_iff_toInt_lt, show (0 : Int32).toInt = 0 by decide] at z
        omega
      obtain ⟨k, hk, rfl⟩ := nI_of c0
      refine Or.inr ⟨k, ?_, ?_, rfl⟩
      · rw [nI_ltI hk h1] at c1; omega
      · rw [nI_ltI h2 hk] at c2; omega
theorem in_f {p lo hi : Int32} (h : p < lo ∨ hi < p) : F_X5_in p lo hi = some false := by
  unfold F_X5_in
  by_cases c : p < lo
  · rw [if_pos c]
  · rw [if_neg c, if_pos (h.resolve_left c)]
theorem in_t {k a b : Nat} (h1 : a ≤ k) (h2 : k ≤ b) (hb : b < 2 ^ 31) : F_X5_in (nI k) (nI a) (nI b) = some true := by
  unfold F_X5_in
  rw [if_neg (nI_nlt h1 (by omega)), if_neg (nI_nlt h2 hb)]
def mF (x : Mv) (c : Int32) : Mv := mkM (M_g x) (M_kept x) (M_saved x) (M_before x) (M_trial x) (M_counted x) (M_isSaved x) (M_changes x) (M_isWithin x) (0) (c) (M_why x) (M_detail x) (M_cause x) (M_input x) (M_length x) (M_fault x) (M_signs x) (M_signMany x) (M_lastOver x) (M_at x) (M_told x) (M_toldMany x)
theorem w_mF_g (x : Mv) (c : Int32) : M_g (mF x c) = M_g x := rfl
theorem w_mF_kept (x : Mv) (c : Int32) : M_kept (mF x c) = M_kept x := rfl
theorem w_mF_saved (x : Mv) (c : Int32) : M_saved (mF x c) = M_saved x := rfl
theorem w_mF_before (x : Mv) (c : Int32) : M_before (mF x c) = M_before x := rfl
theorem w_mF_trial (x : Mv) (c : Int32) : M_trial (mF x c) = M_trial x := rfl
theorem w_mF_counted (x : Mv) (c : Int32) : M_counted (mF x c) = M_counted x := rfl
theorem w_mF_isSaved (x : Mv) (c : Int32) : M_isSaved (mF x c) = M_isSaved x := rfl
theorem w_mF_changes (x : Mv) (c : Int32) : M_changes (mF x c) = M_changes x := rfl
theorem w_mF_isWithin (x : Mv) (c : Int32) : M_isWithin (mF x c) = M_isWithin x := rfl
theorem w_mF_isDenied (x : Mv) (c : Int32) : M_isDenied (mF x c) = 0 := rfl
theorem w_mF_code (x : Mv) (c : Int32) : M_code (mF x c) = c := rfl
theorem w_mF_why (x : Mv) (c : Int32) : M_why (mF x c) = M_why x := rfl
theorem w_mF_detail (x : Mv) (c : Int32) : M_detail (mF x c) = M_detail x := rfl
theorem w_mF_cause (x : Mv) (c : Int32) : M_cause (mF x c) = M_cause x := rfl
theorem w_mF_input (x : Mv) (c : Int32) : M_input (mF x c) = M_input x := rfl
theorem w_mF_length (x : Mv) (c : Int32) : M_length (mF x c) = M_length x := rfl
theorem w_mF_fault (x : Mv) (c : Int32) : M_fault (mF x c) = M_fault x := rfl
theorem w_mF_signs (x : Mv) (c : Int32) : M_signs (mF x c) = M_signs x := rfl
theorem w_mF_signMany (x : Mv) (c : Int32) : M_signMany (mF x c) = M_signMany x := rfl
theorem w_mF_lastOver (x : Mv) (c : Int32) : M_lastOver (mF x c) = M_lastOver x := rfl
theorem w_mF_at (x : Mv) (c : Int32) : M_at (mF x c) = M_at x := rfl
theorem w_mF_told (x : Mv) (c : Int32) : M_told (mF x c) = M_told x := rfl
theorem w_mF_toldMany (x : Mv) (c : Int32) : M_toldMany (mF x c) = M_toldMany x := rfl
def mDn (x : Mv) (place num det : Int32) : Mv := mkM (M_g x) (M_kept x) (M_saved x) (M_before x) (M_trial x) (M_counted x) (M_isSaved x) (M_changes x) (M_isWithin x) (1) (place) (num) (det) (0) (M_input x) (M_length x) (M_fault x) (M_signs x) (M_signMany x) (M_lastOver x) (M_at x) (M_told x) (M_toldMany x)
theorem w_mDn_g (x : Mv) (place num det : Int32) : M_g (mDn x place num det) = M_g x := rfl
theorem w_mDn_kept (x : Mv) (place num det : Int32) : M_kept (mDn x place num det) = M_kept x := rfl
theorem w_mDn_saved (x : Mv) (place num det : Int32) : M_saved (mDn x place num det) = M_saved x := rfl
theorem w_mDn_before (x : Mv) (place num det : Int32) : M_before (mDn x place num det) = M_before x := rfl
theorem w_mDn_trial (x : Mv) (place num det : Int32) : M_trial (mDn x place num det) = M_trial x := rfl
theorem w_mDn_counted (x : Mv) (place num det : Int32) : M_counted (mDn x place num det) = M_counted x := rfl
theorem w_mDn_isSaved (x : Mv) (place num det : Int32) : M_isSaved (mDn x place num det) = M_isSaved x := rfl
theorem w_mDn_changes (x : Mv) (place num det : Int32) : M_changes (mDn x place num det) = M_changes x := rfl
theorem w_mDn_isWithin (x : Mv) (place num det : Int32) : M_isWithin (mDn x place num det) = M_isWithin x := rfl
theorem w_mDn_isDenied (x : Mv) (place num det : Int32) : M_isDenied (mDn x place num det) = 1 := rfl
theorem w_mDn_code (x : Mv) (place num det : Int32) : M_code (mDn x place num det) = place := rfl
theorem w_mDn_why (x : Mv) (place num det : Int32) : M_why (mDn x place num det) = num := rfl
theorem w_mDn_detail (x : Mv) (place num det : Int32) : M_detail (mDn x place num det) = det := rfl
theorem w_mDn_cause (x : Mv) (place num det : Int32) : M_cause (mDn x place num det) = 0 := rfl
theorem w_mDn_input (x : Mv) (place num det : Int32) : M_input (mDn x place num det) = M_input x := rfl
theorem w_mDn_length (x : Mv) (place num det : Int32) : M_length (mDn x place num det) = M_length x := rfl
theorem w_mDn_fault (x : Mv) (place num det : Int32) : M_fault (mDn x place num det) = M_fault x := rfl
theorem w_mDn_signs (x : Mv) (place num det : Int32) : M_signs (mDn x place num det) = M_signs x := rfl
theorem w_mDn_signMany (x : Mv) (place num det : Int32) : M_signMany (mDn x place num det) = M_signMany x := rfl
theorem w_mDn_lastOver (x : Mv) (place num det : Int32) : M_lastOver (mDn x place num det) = M_lastOver x := rfl
theorem w_mDn_at (x : Mv) (place num det : Int32) : M_at (mDn x place num det) = M_at x := rfl
theorem w_mDn_told (x : Mv) (place num det : Int32) : M_told (mDn x place num det) = M_told x := rfl
theorem w_mDn_toldMany (x : Mv) (place num det : Int32) : M_toldMany (mDn x place num det) = M_toldMany x := rfl
def mKp (x : Mv) (kp : Nat → Int32) (ch : Int32) : Mv := mkM (M_g x) (kp) (M_saved x) (M_before x) (M_trial x) (M_counted x) (M_isSaved x) (ch) (M_isWithin x) (M_isDenied x) (0) (M_why x) (M_detail x) (M_cause x) (M_input x) (M_length x) (M_fault x) (M_signs x) (M_signMany x) (M_lastOver x) (M_at x) (M_told x) (M_toldMany x)
theorem w_mKp_g (x : Mv) (kp : Nat → Int32) (ch : Int32) : M_g (mKp x kp ch) = M_g x := rfl
theorem w_mKp_kept (x : Mv) (kp : Nat → Int32) (ch : Int32) : M_kept (mKp x kp ch) = kp := rfl
theorem w_mKp_saved (x : Mv) (kp : Nat → Int32) (ch : Int32) : M_saved (mKp x kp ch) = M_saved x := rfl
theorem w_mKp_before (x : Mv) (kp : Nat → Int32) (ch : Int32) : M_before (mKp x kp ch) = M_before x := rfl
theorem w_mKp_trial (x : Mv) (kp : Nat → Int32) (ch : Int32) : M_trial (mKp x kp ch) = M_trial x := rfl
theorem w_mKp_counted (x : Mv) (kp : Nat → Int32) (ch : Int32) : M_counted (mKp x kp ch) = M_counted x := rfl
theorem w_mKp_isSaved (x : Mv) (kp : Nat → Int32) (ch : Int32) : M_isSaved (mKp x kp ch) = M_isSaved x := rfl
theorem w_mKp_changes (x : Mv) (kp : Nat → Int32) (ch : Int32) : M_changes (mKp x kp ch) = ch := rfl
theorem w_mKp_isWithin (x : Mv) (kp : Nat → Int32) (ch : Int32) : M_isWithin (mKp x kp ch) = M_isWithin x := rfl
theorem w_mKp_isDenied (x : Mv) (kp : Nat → Int32) (ch : Int32) : M_isDenied (mKp x kp ch) = M_isDenied x := rfl
theorem w_mKp_code (x : Mv) (kp : Nat → Int32) (ch : Int32) : M_code (mKp x kp ch) = 0 := rfl
theorem w_mKp_why (x : Mv) (kp : Nat → Int32) (ch : Int32) : M_why (mKp x kp ch) = M_why x := rfl
theorem w_mKp_detail (x : Mv) (kp : Nat → Int32) (ch : Int32) : M_detail (mKp x kp ch) = M_detail x := rfl
theorem w_mKp_cause (x : Mv) (kp : Nat → Int32) (ch : Int32) : M_cause (mKp x kp ch) = M_cause x := rfl
theorem w_mKp_input (x : Mv) (kp : Nat → Int32) (ch : Int32) : M_input (mKp x kp ch) = M_input x := rfl
theorem w_mKp_length (x : Mv) (kp : Nat → Int32) (ch : Int32) : M_length (mKp x kp ch) = M_length x := rfl
theorem w_mKp_fault (x : Mv) (kp : Nat → Int32) (ch : Int32) : M_fault (mKp x kp ch) = M_fault x := rfl
theorem w_mKp_signs (x : Mv) (kp : Nat → Int32) (ch : Int32) : M_signs (mKp x kp ch) = M_signs x := rfl
theorem w_mKp_signMany (x : Mv) (kp : Nat → Int32) (ch : Int32) : M_signMany (mKp x kp ch) = M_signMany x := rfl
theorem w_mKp_lastOver (x : Mv) (kp : Nat → Int32) (ch : Int32) : M_lastOver (mKp x kp ch) = M_lastOver x := rfl
theorem w_mKp_at (x : Mv) (kp : Nat → Int32) (ch : Int32) : M_at (mKp x kp ch) = M_at x := rfl
theorem w_mKp_told (x : Mv) (kp : Nat → Int32) (ch : Int32) : M_told (mKp x kp ch) = M_told x := rfl
theorem w_mKp_toldMany (x : Mv) (kp : Nat → Int32) (ch : Int32) : M_toldMany (mKp x kp ch) = M_toldMany x := rfl
def mK (x : Mv) (kp : Nat → Int32) (ch d : Int32) (g : Nat → Int32) (lo : Int32) (ct : Nat → Int32) : Mv := mkM (g) (kp) (M_saved x) (M_before x) (M_trial x) (ct) (M_isSaved x) (ch) (M_isWithin x) (d) (0) (M_why x) (M_detail x) (M_cause x) (M_input x) (M_length x) (M_fault x) (M_signs x) (M_signMany x) (lo) (M_at x) (M_told x) (M_toldMany x)
theorem w_mK_g (x : Mv) (kp : Nat → Int32) (ch d : Int32) (g : Nat → Int32) (lo : Int32) (ct : Nat → Int32) : M_g (mK x kp ch d g lo ct) = g := rfl
theorem w_mK_kept (x : Mv) (kp : Nat → Int32) (ch d : Int32) (g : Nat → Int32) (lo : Int32) (ct : Nat → Int32) : M_kept (mK x kp ch d g lo ct) = kp := rfl
theorem w_mK_saved (x : Mv) (kp : Nat → Int32) (ch d : Int32) (g : Nat → Int32) (lo : Int32) (ct : Nat → Int32) : M_saved (mK x kp ch d g lo ct) = M_saved x := rfl
theorem w_mK_before (x : Mv) (kp : Nat → Int32) (ch d : Int32) (g : Nat → Int32) (lo : Int32) (ct : Nat → Int32) : M_before (mK x kp ch d g lo ct) = M_before x := rfl
theorem w_mK_trial (x : Mv) (kp : Nat → Int32) (ch d : Int32) (g : Nat → Int32) (lo : Int32) (ct : Nat → Int32) : M_trial (mK x kp ch d g lo ct) = M_trial x := rfl
theorem w_mK_counted (x : Mv) (kp : Nat → Int32) (ch d : Int32) (g : Nat → Int32) (lo : Int32) (ct : Nat → Int32) : M_counted (mK x kp ch d g lo ct) = ct := rfl
theorem w_mK_isSaved (x : Mv) (kp : Nat → Int32) (ch d : Int32) (g : Nat → Int32) (lo : Int32) (ct : Nat → Int32) : M_isSaved (mK x kp ch d g lo ct) = M_isSaved x := rfl
theorem w_mK_changes (x : Mv) (kp : Nat → Int32) (ch d : Int32) (g : Nat → Int32) (lo : Int32) (ct : Nat → Int32) : M_changes (mK x kp ch d g lo ct) = ch := rfl
theorem w_mK_isWithin (x : Mv) (kp : Nat → Int32) (ch d : Int32) (g : Nat → Int32) (lo : Int32) (ct : Nat → Int32) : M_isWithin (mK x kp ch d g lo ct) = M_isWithin x := rfl
theorem w_mK_isDenied (x : Mv) (kp : Nat → Int32) (ch d : Int32) (g : Nat → Int32) (lo : Int32) (ct : Nat → Int32) : M_isDenied (mK x kp ch d g lo ct) = d := rfl
theorem w_mK_code (x : Mv) (kp : Nat → Int32) (ch d : Int32) (g : Nat → Int32) (lo : Int32) (ct : Nat → Int32) : M_code (mK x kp ch d g lo ct) = 0 := rfl
theorem w_mK_why (x : Mv) (kp : Nat → Int32) (ch d : Int32) (g : Nat → Int32) (lo : Int32) (ct : Nat → Int32) : M_why (mK x kp ch d g lo ct) = M_why x := rfl
theorem w_mK_detail (x : Mv) (kp : Nat → Int32) (ch d : Int32) (g : Nat → Int32) (lo : Int32) (ct : Nat → Int32) : M_detail (mK x kp ch d g lo ct) = M_detail x := rfl
theorem w_mK_cause (x : Mv) (kp : Nat → Int32) (ch d : Int32) (g : Nat → Int32) (lo : Int32) (ct : Nat → Int32) : M_cause (mK x kp ch d g lo ct) = M_cause x := rfl
theorem w_mK_input (x : Mv) (kp : Nat → Int32) (ch d : Int32) (g : Nat → Int32) (lo : Int32) (ct : Nat → Int32) : M_input (mK x kp ch d g lo ct) = M_input x := rfl
theorem w_mK_length (x : Mv) (kp : Nat → Int32) (ch d : Int32) (g : Nat → Int32) (lo : Int32) (ct : Nat → Int32) : M_length (mK x kp ch d g lo ct) = M_length x := rfl
theorem w_mK_fault (x : Mv) (kp : Nat → Int32) (ch d : Int32) (g : Nat → Int32) (lo : Int32) (ct : Nat → Int32) : M_fault (mK x kp ch d g lo ct) = M_fault x := rfl
theorem w_mK_signs (x : Mv) (kp : Nat → Int32) (ch d : Int32) (g : Nat → Int32) (lo : Int32) (ct : Nat → Int32) : M_signs (mK x kp ch d g lo ct) = M_signs x := rfl
theorem w_mK_signMany (x : Mv) (kp : Nat → Int32) (ch d : Int32) (g : Nat → Int32) (lo : Int32) (ct : Nat → Int32) : M_signMany (mK x kp ch d g lo ct) = M_signMany x := rfl
theorem w_mK_lastOver (x : Mv) (kp : Nat → Int32) (ch d : Int32) (g : Nat → Int32) (lo : Int32) (ct : Nat → Int32) : M_lastOver (mK x kp ch d g lo ct) = lo := rfl
theorem w_mK_at (x : Mv) (kp : Nat → Int32) (ch d : Int32) (g : Nat → Int32) (lo : Int32) (ct : Nat → Int32) : M_at (mK x kp ch d g lo ct) = M_at x := rfl
theorem w_mK_told (x : Mv) (kp : Nat → Int32) (ch d : Int32) (g : Nat → Int32) (lo : Int32) (ct : Nat → Int32) : M_told (mK x kp ch d g lo ct) = M_told x := rfl
theorem w_mK_toldMany (x : Mv) (kp : Nat → Int32) (ch d : Int32) (g : Nat → Int32) (lo : Int32) (ct : Nat → Int32) : M_toldMany (mK x kp ch d g lo ct) = M_toldMany x := rfl
theorem mK_e1 (mo : Mv) (kp : Nat → Int32) (ch : Int32) (g : Nat → Int32) : m_g (mKp (mF mo 0) kp ch) g = mK mo kp ch 0 g (M_lastOver mo) (M_counted mo) := by
  unfold m_g mK
  simp only [w_mKp_g, w_mKp_kept, w_mKp_saved, w_mKp_before, w_mKp_trial, w_mKp_counted, w_mKp_isSaved, w_mKp_changes, w_mKp_isWithin, w_mKp_isDenied, w_mKp_code, w_mKp_why, w_mKp_detail, w_mKp_cause, w_mKp_input, w_mKp_length, w_mKp_fault, w_mKp_signs, w_mKp_signMany, w_mKp_lastOver, w_mKp_at, w_mKp_told, w_mKp_toldMany, w_mF_g, w_mF_kept, w_mF_saved, w_mF_before, w_mF_trial, w_mF_counted, w_mF_isSaved, w_mF_changes, w_mF_isWithin, w_mF_isDenied, w_mF_code, w_mF_why, w_mF_detail, w_mF_cause, w_mF_input, w_mF_length, w_mF_fault, w_mF_signs, w_mF_signMany, w_mF_lastOver, w_mF_at, w_mF_told, w_mF_toldMany]
theorem mK_e2 (mo : Mv) (kp : Nat → Int32) (ch : Int32) (g : Nat → Int32) : m_g (mKp mo kp ch) g = mK mo kp ch (M_isDenied mo) g (M_lastOver mo) (M_counted mo) := by
  unfold m_g mK
  simp only [w_mKp_g, w_mKp_kept, w_mKp_saved, w_mKp_before, w_mKp_trial, w_mKp_counted, w_mKp_isSaved, w_mKp_changes, w_mKp_isWithin, w_mKp_isDenied, w_mKp_code, w_mKp_why, w_mKp_detail, w_mKp_cause, w_mKp_input, w_mKp_length, w_mKp_fault, w_mKp_signs, w_mKp_signMany, w_mKp_lastOver, w_mKp_at, w_mKp_told, w_mKp_toldMany]
theorem mK_e3 (mo : Mv) (kp : Nat → Int32) (ch : Int32) (g : Nat → Int32) (lo : Int32) (ct : Nat → Int32) : mG (mKp (mF mo 0) kp ch) g lo ct = mK mo kp ch 0 g lo ct := by
  unfold mG mK
  simp only [w_mKp_g, w_mKp_kept, w_mKp_saved, w_mKp_before, w_mKp_trial, w_mKp_counted, w_mKp_isSaved, w_mKp_changes, w_mKp_isWithin, w_mKp_isDenied, w_mKp_code, w_mKp_why, w_mKp_detail, w_mKp_cause, w_mKp_input, w_mKp_length, w_mKp_fault, w_mKp_signs, w_mKp_signMany, w_mKp_lastOver, w_mKp_at, w_mKp_told, w_mKp_toldMany, w_mF_g, w_mF_kept, w_mF_saved, w_mF_before, w_mF_trial, w_mF_counted, w_mF_isSaved, w_mF_changes, w_mF_isWithin, w_mF_isDenied, w_mF_code, w_mF_why, w_mF_detail, w_mF_cause, w_mF_input, w_mF_length, w_mF_fault, w_mF_signs, w_mF_signMany, w_mF_lastOver, w_mF_at, w_mF_told, w_mF_toldMany]
theorem mDn_F (mo : Mv) (a b c : Int32) : mDn (mF mo 0) a b c = mDn mo a b c := by
  unfold mDn
  simp only [w_mF_g, w_mF_kept, w_mF_saved, w_mF_before, w_mF_trial, w_mF_counted, w_mF_isSaved, w_mF_changes, w_mF_isWithin, w_mF_isDenied, w_mF_code, w_mF_why, w_mF_detail, w_mF_cause, w_mF_input, w_mF_length, w_mF_fault, w_mF_signs, w_mF_signMany, w_mF_lastOver, w_mF_at, w_mF_told, w_mF_toldMany]
theorem fails_0 (mo : Mv) : F_X5_fails mo 0 = some (false, mF mo 0) := by
  unfold F_X5_fails; rw [if_pos (by decide)]; rfl
theorem fails_1 (mo : Mv) : F_X5_fails mo 1 = some (true, mF mo 1) := by
  unfold F_X5_fails; rw [if_neg (by decide)]; rfl
theorem fails_2 (mo : Mv) : F_X5_fails mo 2 = some (true, mF mo 2) := by
  unfold F_X5_fails; rw [if_neg (by decide)]; rfl
theorem fails_3 (mo : Mv) : F_X5_fails mo 3 = some (true, mF mo 3) := by
  unfold F_X5_fails; rw [if_neg (by decide)]; rfl
theorem denies_e (mo : Mv) (a b c : Int32) : F_X5_denies mo a b c = some (0, mDn mo a b c) := rfl
def KP (mo : Mv) (kp : Nat → Int32) (ch : Int32) : Prop := ∀ mo2 : Mv, M_g mo2 = M_g mo → M_kept mo2 = M_kept mo → M_changes mo2 = M_changes mo → M_isWithin mo2 = M_isWithin mo → F_X5_keeps_g mo2 = some (mKp mo2 kp ch)
theorem al_r {x y : Int32} (h : ¬ x = 0) : ((F_X2_because (mkJ 0 0) x y).bind (fun z1 => some z1)).bind (fun z1 => if ¬ (J_reason z1) = 0 then some (false, z1) else some (true, z1)) = some (false, mkJ x y) := if_pos h
theorem al_0 : (some (mkJ 0 0)).bind (fun z1 => if ¬ (J_reason z1) = 0 then some (false, z1) else some (true, z1)) = some (true, mkJ 0 0) := by
  rw [Option.bind_some, if_neg (c := ¬ J_reason (mkJ 0 0) = 0) (fun z => z rfl)]
theorem bt1 : ¬ bi true = 0 := by decide
/-- a change: allowed and made by both; or refused by an exception; or denied -/
def CH (H : Nat) (S : Br) (k p q : Int32) (C : Bv → Option (Int32 × Bv)) (M : Mv → Option (Int32 × Mv)) (cI cA cU : Int32) : Prop :=
  (∃ v S', (∀ j, F_X2_allows j (toB S) k p q = some (true, mkJ 0 0)) ∧ C (toB S) = some (v, toB S') ∧ Iv (H + 48) S' ∧ ∀ mo kp ch, RG (M_g mo) S → KP mo kp ch → ∃ d g' lo ct, RG g' S' ∧ M mo = some (v, mK mo kp ch d g' lo ct)) ∨
  (∃ r c, (r = 9 ∧ c = cA ∨ r = 10 ∧ c = cI) ∧ ¬ c = 0 ∧ (∀ j, F_X2_allows j (toB S) k p q = some (false, mkJ r 0)) ∧ ∀ mo, RG (M_g mo) S → M mo = some (0, mF mo c)) ∨
  (∃ u d, 1 ≤ u ∧ u ≤ 8 ∧ ¬ cU = 0 ∧ (∀ j, F_X2_allows j (toB S) k p q = some (false, mkJ (nI u) d)) ∧ ∀ mo, RG (M_g mo) S → M mo = some (0, mDn mo cU (nI u) d))
theorem nle_lt {a b : Int32} (h : a < b) : ¬ b ≤ a := fun z => Int32.lt_irrefl (Int32.lt_of_lt_of_le h z)
/-! a span more -/
def addS (S : Br) (x : Nat) : Br := mkS (s_n S + 1) (uN (s_L S) (s_n S) x) (uN (s_J S) (s_n S) 0) (uN (s_A S) (s_n S) 0) (uN (s_K S) (s_n S) 0) (uN (s_T S) (s_n S) 0) (s_v S) (s_N S) (s_W S) (s_P S) (s_nx S) (s_hr S) (s_rt S) (s_tl S) (s_pd S) (s_cr S) (s_sk S)
theorem p_addS_n (S : Br) (x : Nat) : s_n (addS S x) = s_n S + 1 := rfl
theorem p_addS_L (S : Br) (x : Nat) : s_L (addS S x) = uN (s_L S) (s_n S) x := rfl
theorem p_addS_J (S : Br) (x : Nat) : s_J (addS S x) = uN (s_J S) (s_n S) 0 := rfl
theorem p_addS_A (S : Br) (x : Nat) : s_A (addS S x) = uN (s_A S) (s_n S) 0 := rfl
theorem p_addS_K (S : Br) (x : Nat) : s_K (addS S x) = uN (s_K S) (s_n S) 0 := rfl
theorem p_addS_T (S : Br) (x : Nat) : s_T (addS S x) = uN (s_T S) (s_n S) 0 := rfl
theorem p_addS_v (S : Br) (x : Nat) : s_v (addS S x) = s_v S := rfl
theorem p_addS_N (S : Br) (x : Nat) : s_N (addS S x) = s_N S := rfl
theorem p_addS_W (S : Br) (x : Nat) : s_W (addS S x) = s_W S := rfl
theorem p_addS_P (S : Br) (x : Nat) : s_P (addS S x) = s_P S := rfl
theorem p_addS_nx (S : Br) (x : Nat) : s_nx (addS S x) = s_nx S := rfl
theorem p_addS_hr (S : Br) (x : Nat) : s_hr (addS S x) = s_hr S := rfl
theorem p_addS_rt (S : Br) (x : Nat) : s_rt (addS S x) = s_rt S := rfl
theorem p_addS_tl (S : Br) (x : Nat) : s_tl (addS S x) = s_tl S := rfl
theorem p_addS_pd (S : Br) (x : Nat) : s_pd (addS S x) = s_pd S := rfl
theorem p_addS_cr (S : Br) (x : Nat) : s_cr (addS S x) = s_cr S := rfl
theorem p_addS_sk (S : Br) (x : Nat) : s_sk (addS S x) = s_sk S := rfl
theorem toB_addS (S : Br) (x : Nat) : toB (addS S x) = mkB (nI (s_n S + 1)) (fI (uN (s_L S) (s_n S) x)) (fI (uN (s_J S) (s_n S) 0)) (fI (uN (s_A S) (s_n S) 0)) (fI (uN (s_K S) (s_n S) 0)) (fI (uN (s_T S) (s_n S) 0)) (nI (s_v S)) (fI (s_N S)) (fI (s_W S)) (fI (s_P S)) (nI (s_nx S)) (nI (s_hr S)) (nI (s_rt S)) (nI (s_tl S)) (nI (s_pd S)) (nI (s_cr S)) (nI (s_sk S)) := rfl
theorem Iv_add {H : Nat} {S : Br} (h : Iv H S) (hH : H + 48 ≤ 900000) (hn : s_n S < 10) (hv : s_v S = 0) {x : Nat} (h1 : 1 ≤ x) (h2 : x ≤ 20) : Iv (H + 48) (addS S x) := by
  obtain ⟨⟨a1, a2, a3, a4, a5, a6, a7, a8, a9⟩, b, c, d⟩ := h
  unfold Iv
  simp only [p_addS_n, p_addS_L, p_addS_J, p_addS_A, p_addS_K, p_addS_T, p_addS_v, p_addS_N, p_addS_W, p_addS_P, p_addS_nx, p_addS_hr, p_addS_rt, p_addS_tl, p_addS_pd, p_addS_cr, p_addS_sk]
  refine ⟨⟨by omega, a2, by omega, by omega, a5, a6, a7, a8, hH⟩, ?_, fun j hj => by omega, fun j hj => by omega⟩
  intro k hk
  by_cases e : k = s_n S
  · subst e
    rw [uN_s, uN_s, uN_s, uN_s, uN_s]
    exact ⟨h1, h2, by omega, by omega, by omega, by omega⟩
  · rw [uN_o _ _ e, uN_o _ _ e, uN_o _ _ e, uN_o _ _ e, uN_o _ _ e]
    exact b k (by omega)
theorem c_add {S : Br} (hn : s_n S < 10) (x : Nat) : F_X0_appendSpan (toB S) (nI x) = some (nI (s_n S), toB (addS S x)) := by
  unfold F_X0_appendSpan
  rw [toB_addS]
  simp (disch := omega) only [B_spans_to, B_lengths_to, B_jars_to, B_ages_to, B_cracks_to, B_stresses_to, B_vehicles_to, B_numbers_to, B_weights_to, B_places_to, B_nextNumber_to, B_hour_to, B_rate_to, B_till_to, B_paid_to, B_crossed_to, B_sunk_to, Option.bind_some, ck_tt, inb_nI, nz_nI, fI_a, fI_u, nI_clamp, nI_add, pk_mul, pk_sub, pk_div, nI_ltI, nI_leI, nI_eq, imin_nI, imax_nI, bi_t, bi_f, if_pos, if_neg, l_0, l_1, l_2, l_3, l_4, l_5, l_6, l_7, l_8, l_9, l_10, l_20, l_24, l_47, l_48, l_50, l_57, l_58, l_59, l_60, l_61, l_83, l_93, l_99, l_200, l_581, l_664]
theorem lays_w (mo : Mv) {k w : Nat} (hk : k < 10) (hw : w < 5) (y : Int32) : F_X5_lays mo (nI k) (nI w) y = some (m_g mo (upd (M_g mo) (9 + 5 * k + w) y)) := by
  unfold F_X5_lays
  rw [l_9, l_5, pk_mul, nI_add, nI_add, inb_nI (by omega) (by omega), ck_tt, nI_clamp (by omega)]
  rfl
/-- a span's five fields, the first i of them emptied -/
def zsG (g : Nat → Int32) (k i : Nat) : Nat → Int32 := fun t => if 9 + 5 * k ≤ t ∧ t < 9 + 5 * k + i then 0 else g t
theorem zsG_0 (g : Nat → Int32) (k : Nat) : zsG g k 0 = g := by
  funext t; unfold zsG; rw [if_neg (by omega)]
theorem zsG_s (g : Nat → Int32) (k i : Nat) : upd (zsG g k i) (9 + 5 * k + i) 0 = zsG g k (i + 1) := by
  funext t; unfold upd zsG
  by_cases e : t = 9 + 5 * k + i
  · rw [if_pos e, if_pos (by omega)]
  · rw [if_neg e]
    by_cases e2 : 9 + 5 * k ≤ t ∧ t < 9 + 5 * k + i
    · rw [if_pos e2, if_pos (by omega)]
    · rw [if_neg e2, if_neg (by omega)]
theorem zsG_i (g : Nat → Int32) {k i t : Nat} (h : 9 + 5 * k ≤ t ∧ t < 9 + 5 * k + i) : zsG g k i t = 0 := if_pos h
theorem zsG_o (g : Nat → Int32) {k i t : Nat} (h : t < 9 + 5 * k ∨ 9 + 5 * k + i ≤ t) : zsG g k i t = g t := if_neg (by omega)
theorem m_zero_L (mo : Mv) {k : Nat} (hk : k < 10) (y : Int32) (K : Mv → Option (Int32 × Mv)) : ∀ (r fu i : Nat), i + r = 5 → r < fu → F_X5_addSpan_L93 y (nI k) (fun b _ => K b) fu (m_g mo (zsG (M_g mo) k i)) (nI i) = K (m_g mo (zsG (M_g mo) k 5)) := by
  intro r
  induction r with
  | zero =>
    intro fu i hi hr
    obtain ⟨fu, rfl⟩ : ∃ f2, fu = f2 + 1 := ⟨fu - 1, by omega⟩
    have : i = 5 := by omega
    subst this
    unfold F_X5_addSpan_L93
    exact gp (by decide) rfl
  | succ r ih =>
    intro fu i hi hr
    obtain ⟨fu, rfl⟩ : ∃ f2, fu = f2 + 1 := ⟨fu - 1, by omega⟩
    unfold F_X5_addSpan_L93
    refine gn (show ¬ (5 : Int32) ≤ nI i from (show ¬ nI 5 ≤ nI i from nI_ge (by omega) (by omega))) (gb (lays_w _ hk (by omega) 0) ?_)
    rw [add1, r_g_g, mm_g, zsG_s]
    exact ih fu (i + 1) (by omega) (by omega)
theorem RG_add {g : Nat → Int32} {S : Br} (h : RG g S) (hn : s_n S < 10) (hv : s_v S = 0) (x : Nat) : RG (upd (zsG (upd g 0 (nI (s_n S + 1))) (s_n S) 5) (9 + 5 * s_n S + 0) (nI x)) (addS S x) := by
  obtain ⟨⟨a0, a1, a2, a3, a4, a5, a6, a7, a8⟩, b, c⟩ := h
  have lo : ∀ t, t ≠ 0 → t < 9 + 5 * s_n S → upd (zsG (upd g 0 (nI (s_n S + 1))) (s_n S) 5) (9 + 5 * s_n S + 0) (nI x) t = g t := by
    intro t h1 h2
    rw [pk_un (by omega), zsG_o _ (Or.inl h2), pk_un h1]
  have zz : ∀ i, 1 ≤ i → i < 5 → upd (zsG (upd g 0 (nI (s_n S + 1))) (s_n S) 5) (9 + 5 * s_n S + 0) (nI x) (9 + 5 * s_n S + i) = nI 0 := by
    intro i h1 h2
    rw [pk_un (by omega), zsG_i _ (by omega)]; rfl
  unfold RG
  simp only [p_addS_n, p_addS_L, p_addS_J, p_addS_A, p_addS_K, p_addS_T, p_addS_v, p_addS_N, p_addS_W, p_addS_P, p_addS_nx, p_addS_hr, p_addS_rt, p_addS_tl, p_addS_pd, p_addS_cr, p_addS_sk]
  refine ⟨⟨?_, (lo 1 (by omega) (by omega)).trans a1, (lo 2 (by omega) (by omega)).trans a2, (lo 3 (by omega) (by omega)).trans a3, (lo 4 (by omega) (by omega)).trans a4, (lo 5 (by omega) (by omega)).trans a5, (lo 6 (by omega) (by omega)).trans a6, (lo 7 (by omega) (by omega)).trans a7, (lo 8 (by omega) (by omega)).trans a8⟩, ?_, ?_⟩
  · rw [pk_un (by omega), zsG_o _ (Or.inl (by omega)), pk_us]
  · intro k hk
    by_cases e : k = s_n S
    · subst e
      rw [uN_s, uN_s, uN_s, uN_s, uN_s]
      exact ⟨pk_us, zz 1 (by omega) (by omega), zz 2 (by omega) (by omega), zz 3 (by omega) (by omega), zz 4 (by omega) (by omega)⟩
    · obtain ⟨b0, b1, b2, b3, b4⟩ := b k (by omega)
      rw [uN_o _ _ e, uN_o _ _ e, uN_o _ _ e, uN_o _ _ e, uN_o _ _ e]
      exact ⟨(lo _ (by omega) (by omega)).trans b0, (lo _ (by omega) (by omega)).trans b1, (lo _ (by omega) (by omega)).trans b2, (lo _ (by omega) (by omega)).trans b3, (lo _ (by omega) (by omega)).trans b4⟩
  · intro j hj
    omega
theorem CH_add {H : Nat} {S : Br} (hI : Iv H S) (hH : H + 48 ≤ 900000) (p q : Int32) : CH H S 0 p q (fun b => F_X0_appendSpan b p) (fun m => F_X5_addSpan m p) 0 1 2 := by
  have hn := hI.1.1
  have hv := hI.1.2.1
  rcases rng p 1 20 (by omega) (by omega) with hp | ⟨x, hx1, hx2, rfl⟩
  · refine Or.inr (Or.inl ⟨9, 1, Or.inl ⟨rfl, rfl⟩, by decide, fun j => ?_, fun mo h => ?_⟩)
    · unfold F_X2_allows F_X2_judgeNewSpan
      refine gp rfl ?_
      rcases hp with hp | hp
      · rw [if_pos (show p < 1 from hp)]; exact al_r (by decide)
      · by_cases c : p < 1
        · rw [if_pos c]; exact al_r (by decide)
        · rw [if_neg c, if_neg (nle_lt (show (20 : Int32) < p from hp))]; exact al_r (by decide)
    · show F_X5_addSpan mo p = _
      unfold F_X5_addSpan
      refine gb (in_f (show p < 1 ∨ 20 < p from hp)) (gp rfl (gb (fails_1 mo) (gn bt1 rfl)))
  · have hin : F_X5_in (nI x) 1 20 = some true := (show F_X5_in (nI x) (nI 1) (nI 20) = some true from in_t hx1 hx2 (by omega))
    have e1 : ¬ nI x < 1 := nI_nlt hx1 (by omega)
    have e2 : nI x ≤ 20 := (show nI x ≤ nI 20 from nI_le hx2 (by omega))
    by_cases c1 : s_v S = 0
    · by_cases c2 : s_n S < 10
      · refine Or.inl ⟨nI (s_n S), addS S x, fun j => ?_, c_add c2 x, Iv_add hI hH c2 c1 hx1 hx2, fun mo kp ch h hK => ?_⟩
        · unfold F_X2_allows F_X2_judgeNewSpan
          rw [if_pos rfl, if_neg e1, if_pos e2, B_vehicles_to, c1, B_spans_to, if_pos (by decide), if_pos (show nI (s_n S) < (10 : Int32) from (show nI (s_n S) < nI 10 from nI_lt c2 (by omega)))]
          exact al_0
        · have hg0 : M_g mo 0 = nI (s_n S) := h.1.1
          have hg1 : M_g mo 1 = nI (s_v S) := h.1.2.1
          refine ⟨0, upd (zsG (upd (M_g mo) 0 (nI (s_n S + 1))) (s_n S) 5) (9 + 5 * s_n S + 0) (nI x), M_lastOver mo, M_counted mo, RG_add h c2 c1 x, ?_⟩
          show F_X5_addSpan mo (nI x) = _
          unfold F_X5_addSpan
          refine gb hin (gn (by decide) (gb (fails_0 mo) (gp rfl (gk ub_1 (gp ?_ (gk ub_0 (gp ?_ (gb (hK (mF mo 0) (w_mF_g _ _) (w_mF_kept _ _) (w_mF_changes _ _) (w_mF_isWithin _ _)) (gk ub_0 (gk ub_0 (gk ub_0 ?_)))))))))))
          · rw [zc_1, w_mF_g, hg1, c1]; decide
          · rw [zc_0, w_mF_g, hg0]; exact fun z => absurd ((nI_eq (by omega) (by omega)).mp (show nI (s_n S) = nI 10 from z)) (by omega)
          · simp only [zc_0, w_mKp_g, w_mF_g, hg0, add1, mkM_g]
            have e9 := m_zero_L (m_g (mKp (mF mo 0) kp ch) (upd (M_g mo) 0 (nI (s_n S + 1)))) (k := s_n S) c2 (nI x) (fun b5 => (F_X5_lays b5 (nI (s_n S)) 0 (nI x)).bind (fun z7 => some (nI (s_n S), z7))) 5 1000 0 (by omega) (by omega)
            rw [zsG_0, mm_g, mm_g, r_g_g] at e9
            refine Eq.trans e9 ?_
            refine gb (lays_w (w := 0) _ c2 (by omega) (nI x)) ?_
            rw [r_g_g, mm_g, mK_e1]
      · refine Or.inr (Or.inr ⟨1, 10, by omega, by omega, by decide, fun j => ?_, fun mo h => ?_⟩)
        · unfold F_X2_allows F_X2_judgeNewSpan
          rw [if_pos rfl, if_neg e1, if_pos e2, B_vehicles_to, c1, B_spans_to, if_pos (by decide), if_neg (show ¬ nI (s_n S) < (10 : Int32) from (show ¬ nI (s_n S) < nI 10 from nI_nlt (by omega) (by omega)))]
          exact al_r (by decide)
        · have hg0 : M_g mo 0 = nI (s_n S) := h.1.1
          have hg1 : M_g mo 1 = nI (s_v S) := h.1.2.1
          show F_X5_addSpan mo (nI x) = _
          unfold F_X5_addSpan
          refine gb hin (gn (by decide) (gb (fails_0 mo) (gp rfl (gk ub_1 (gp ?_ (gk ub_0 (gn ?_ (gb (denies_e _ _ _ _) ?_))))))))
          · rw [zc_1, w_mF_g, hg1, c1]; decide
          · rw [zc_0, w_mF_g, hg0]; exact fun z => z (congrArg nI (show s_n S = 10 by omega))
          · rw [mDn_F]; rfl
    · refine Or.inr (Or.inr ⟨4, nI (s_v S), by omega, by omega, by decide, fun j => ?_, fun mo h => ?_⟩)
      · unfold F_X2_allows F_X2_judgeNewSpan
        rw [if_pos rfl, if_neg e1, if_pos e2, B_vehicles_to, if_neg (nI_nle (by omega) (by omega))]
        exact al_r (by decide)
      · have hg1 : M_g mo 1 = nI (s_v S) := h.1.2.1
        show F_X5_addSpan mo (nI x) = _
        unfold F_X5_addSpan
        refine gb hin (gn (by decide) (gb (fails_0 mo) (gp rfl (gk ub_1 (gn ?_ (gk ub_1 (gb (denies_e _ _ _ _) ?_)))))))
        · rw [zc_1, w_mF_g, hg1]; exact nI_nle (by omega) (by omega)
        · rw [mDn_F, zc_1, w_mF_g, hg1]; rfl
/-! a span less -/
def remS (S : Br) : Br := mkS (s_n S - 1) (s_L S) (s_J S) (s_A S) (s_K S) (s_T S) (s_v S) (s_N S) (s_W S) (s_P S) (s_nx S) (s_hr S) (s_rt S) (s_tl S) (s_pd S) (s_cr S) (s_sk S)
theorem p_remS_n (S : Br) : s_n (remS S) = s_n S - 1 := rfl
theorem p_remS_L (S : Br) : s_L (remS S) = s_L S := rfl
theorem p_remS_J (S : Br) : s_J (remS S) = s_J S := rfl
theorem p_remS_A (S : Br) : s_A (remS S) = s_A S := rfl
theorem p_remS_K (S : Br) : s_K (remS S) = s_K S := rfl
theorem p_remS_T (S : Br) : s_T (remS S) = s_T S := rfl
theorem p_remS_v (S : Br) : s_v (remS S) = s_v S := rfl
theorem p_remS_N (S : Br) : s_N (remS S) = s_N S := rfl
theorem p_remS_W (S : Br) : s_W (remS S) = s_W S := rfl
theorem p_remS_P (S : Br) : s_P (remS S) = s_P S := rfl
theorem p_remS_nx (S : Br) : s_nx (remS S) = s_nx S := rfl
theorem p_remS_hr (S : Br) : s_hr (remS S) = s_hr S := rfl
theorem p_remS_rt (S : Br) : s_rt (remS S) = s_rt S := rfl
theorem p_remS_tl (S : Br) : s_tl (remS S) = s_tl S := rfl
theorem p_remS_pd (S : Br) : s_pd (remS S) = s_pd S := rfl
theorem p_remS_cr (S : Br) : s_cr (remS S) = s_cr S := rfl
theorem p_remS_sk (S : Br) : s_sk (remS S) = s_sk S := rfl
theorem toB_remS (S : Br) : toB (remS S) = mkB (nI (s_n S - 1)) (fI (s_L S)) (fI (s_J S)) (fI (s_A S)) (fI (s_K S)) (fI (s_T S)) (nI (s_v S)) (fI (s_N S)) (fI (s_W S)) (fI (s_P S)) (nI (s_nx S)) (nI (s_hr S)) (nI (s_rt S)) (nI (s_tl S)) (nI (s_pd S)) (nI (s_cr S)) (nI (s_sk S)) := rfl
theorem Iv_rem {H : Nat} {S : Br} (h : Iv H S) (hH : H + 48 ≤ 900000) (hv : s_v S = 0) : Iv (H + 48) (remS S) := by
  obtain ⟨⟨a1, a2, a3, a4, a5, a6, a7, a8, a9⟩, b, c, d⟩ := h
  unfold Iv
  simp only [p_remS_n, p_remS_L, p_remS_J, p_remS_A, p_remS_K, p_remS_T, p_remS_v, p_remS_N, p_remS_W, p_remS_P, p_remS_nx, p_remS_hr, p_remS_rt, p_remS_tl, p_remS_pd, p_remS_cr, p_remS_sk]
  exact ⟨⟨by omega, a2, by omega, by omega, a5, a6, a7, a8, hH⟩, fun k hk => b k (by omega), fun j hj => by omega, fun j hj => by omega⟩
theorem m_zero76_L (mo : Mv) {k : Nat} (hk : k < 10) (hg : M_g mo 0 = nI k) (y : Int32) (K : Mv → Option (Int32 × Mv)) : ∀ (r fu i : Nat), i + r = 5 → r < fu → F_X5_removeLastSpan_L76 y (fun b _ => K b) fu (m_g mo (zsG (M_g mo) k i)) (nI i) = K (m_g mo (zsG (M_g mo) k 5)) := by
  intro r
  induction r with
  | zero =>
    intro fu i hi hr
    obtain ⟨fu, rfl⟩ : ∃ f2, fu = f2 + 1 := ⟨fu - 1, by omega⟩
    have : i = 5 := by omega
    subst this
    unfold F_X5_removeLastSpan_L76
    exact gp (by decide) rfl
  | succ r ih =>
    intro fu i hi hr
    obtain ⟨fu, rfl⟩ : ∃ f2, fu = f2 + 1 := ⟨fu - 1, by omega⟩
    unfold F_X5_removeLastSpan_L76
    refine gn (show ¬ (5 : Int32) ≤ nI i from (show ¬ nI 5 ≤ nI i from nI_ge (by omega) (by omega))) (gk ub_0 ?_)
    rw [r_g_g, zc_0, zsG_o _ (Or.inl (by omega)), hg]
    refine gb (lays_w _ hk (by omega) 0) ?_
    rw [add1, r_g_g, mm_g, zsG_s]
    exact ih fu (i + 1) (by omega) (by omega)
theorem RG_rem {g : Nat → Int32} {S : Br} (h : RG g S) (hn : s_n S ≤ 10) (hv : s_v S = 0) : RG (zsG (upd g 0 (nI (s_n S - 1))) (s_n S - 1) 5) (remS S) := by
  obtain ⟨⟨a0, a1, a2, a3, a4, a5, a6, a7, a8⟩, b, c⟩ := h
  have lo : ∀ t, t ≠ 0 → t < 9 + 5 * (s_n S - 1) → zsG (upd g 0 (nI (s_n S - 1))) (s_n S - 1) 5 t = g t := by
    intro t h1 h2
    rw [zsG_o _ (Or.inl h2), pk_un h1]
  unfold RG
  simp only [p_remS_n, p_remS_L, p_remS_J, p_remS_A, p_remS_K, p_remS_T, p_remS_v, p_remS_N, p_remS_W, p_remS_P, p_remS_nx, p_remS_hr, p_remS_rt, p_remS_tl, p_remS_pd, p_remS_cr, p_remS_sk]
  refine ⟨⟨?_, (lo 1 (by omega) (by omega)).trans a1, (lo 2 (by omega) (by omega)).trans a2, (lo 3 (by omega) (by omega)).trans a3, (lo 4 (by omega) (by omega)).trans a4, (lo 5 (by omega) (by omega)).trans a5, (lo 6 (by omega) (by omega)).trans a6, (lo 7 (by omega) (by omega)).trans a7, (lo 8 (by omega) (by omega)).trans a8⟩, ?_, ?_⟩
  · rw [zsG_o _ (Or.inl (by omega)), pk_us]
  · intro k hk
    obtain ⟨b0, b1, b2, b3, b4⟩ := b k (by omega)
    exact ⟨(lo _ (by omega) (by omega)).trans b0, (lo _ (by omega) (by omega)).trans b1, (lo _ (by omega) (by omega)).trans b2, (lo _ (by omega) (by omega)).trans b3, (lo _ (by omega) (by omega)).trans b4⟩
  · intro j hj
    omega
theorem CH_rem {H : Nat} {S : Br} (hI : Iv H S) (hH : H + 48 ≤ 900000) (p q : Int32) : CH H S 6 p q (fun b => F_X0_dropLastSpan b) (fun m => F_X5_removeLastSpan m) 0 0 1 := by
  have hn := hI.1.1
  have hv := hI.1.2.1
  have hh := hI.1.2.2.2.1
  have hall : ∀ j, F_X2_allows j (toB S) 6 p q = (F_X2_judgeRemoval (mkJ 0 0) (toB S)).bind (fun z7 => if ¬ (J_reason z7) = 0 then some (false, z7) else some (true, z7)) := by
    intro j
    unfold F_X2_allows
    rw [if_neg (by decide), if_neg (by decide), if_neg (by decide), if_neg (by decide), if_neg (by decide), if_neg (by decide)]
  by_cases c0 : s_n S = 0
  · refine Or.inr (Or.inr ⟨3, nI (s_hr S), by omega, by omega, by decide, fun j => ?_, fun mo h => ?_⟩)
    · rw [hall j]
      unfold F_X2_judgeRemoval
      rw [B_spans_to, c0, if_neg (fun z => z rfl)]
      exact al_r (by decide)
    · have hg0 : M_g mo 0 = nI (s_n S) := h.1.1
      have hg3 : M_g mo 3 = nI (s_hr S) := h.1.2.2.2.1
      show F_X5_removeLastSpan mo = _
      unfold F_X5_removeLastSpan
      refine gk ub_0 (gn ?_ (gk ub_3 (gb (denies_e _ _ _ _) ?_)))
      · rw [zc_0, hg0, c0]; exact fun z => z rfl
      · rw [zc_3, hg3]; rfl
  · by_cases c1 : s_v S = 0
    · refine Or.inl ⟨nI (s_J S (s_n S - 1)), remS S, fun j => ?_, ?_, Iv_rem hI hH c1, fun mo kp ch h hK => ?_⟩
      · rw [hall j]
        unfold F_X2_judgeRemoval
        rw [B_spans_to, if_pos (nI_ne0 (by omega) (by omega)), B_vehicles_to, c1, if_pos (by decide)]
        exact al_0
      · show F_X0_dropLastSpan (toB S) = _
        unfold F_X0_dropLastSpan
        rw [B_spans_to, sub1 (by omega), hs_t (show s_n S - 1 < s_n S by omega) hn, toB_remS]
        simp (disch := omega) only [B_spans_to, B_lengths_to, B_jars_to, B_ages_to, B_cracks_to, B_stresses_to, B_vehicles_to, B_numbers_to, B_weights_to, B_places_to, B_nextNumber_to, B_hour_to, B_rate_to, B_till_to, B_paid_to, B_crossed_to, B_sunk_to, Option.bind_some, ck_tt, inb_nI, nz_nI, fI_a, fI_u, nI_clamp, nI_add, pk_mul, pk_sub, pk_div, nI_ltI, nI_leI, nI_eq, imin_nI, imax_nI, bi_t, bi_f, if_pos, if_neg, l_0, l_1, l_2, l_3, l_4, l_5, l_6, l_7, l_8, l_9, l_10, l_20, l_24, l_47, l_48, l_50, l_57, l_58, l_59, l_60, l_61, l_83, l_93, l_99, l_200, l_581, l_664]
      · have hg0 : M_g mo 0 = nI (s_n S) := h.1.1
        have hg1 : M_g mo 1 = nI (s_v S) := h.1.2.1
        have hJ : M_g mo (9 + 5 * (s_n S - 1) + 1) = nI (s_J S (s_n S - 1)) := (h.2.1 (s_n S - 1) (by omega)).2.1
        refine ⟨M_isDenied mo, _, M_lastOver mo, M_counted mo, RG_rem h hn c1, ?_⟩
        show F_X5_removeLastSpan mo = _
        unfold F_X5_removeLastSpan
        refine gk ub_0 (gp ?_ (gk ub_1 (gp ?_ (gb (hK mo rfl rfl rfl rfl) (gk ub_0 (gk ub_0 (gk ub_0 ?_)))))))
        · rw [zc_0, hg0]; exact nI_ne0 (by omega) (by omega)
        · rw [zc_1, hg1, c1]; decide
        · simp only [zc_0, upd_at, w_mKp_g, hg0, mkM_g]
          rw [sub1 (by omega)]
          have e9 := m_zero76_L (m_g (mKp mo kp ch) (upd (M_g mo) 0 (nI (s_n S - 1)))) (k := s_n S - 1) (by omega) (by rw [r_g_g]; exact pk_us) (nI (s_J S (s_n S - 1))) (fun b4 => some (nI (s_J S (s_n S - 1)), b4)) 5 1000 0 (by omega) (by omega)
          rw [zsG_0, mm_g, mm_g, r_g_g, mK_e2] at e9
          refine gb (z := nI (s_J S (s_n S - 1))) ?_ e9
          unfold F_X5_of
          rw [l_9, l_5, pk_mul, nI_add, show nI (9 + 5 * (s_n S - 1)) + 1 = nI (9 + 5 * (s_n S - 1) + 1) from nI_add _ 1, inb_nI (by omega) (by omega), ck_tt, nI_clamp (by omega), r_g_g]
          exact congrArg some ((pk_un (by omega)).trans hJ)
    · refine Or.inr (Or.inr ⟨4, nI (s_v S), by omega, by omega, by decide, fun j => ?_, fun mo h => ?_⟩)
      · rw [hall j]
        unfold F_X2_judgeRemoval
        rw [B_spans_to, if_pos (nI_ne0 (by omega) (by omega)), B_vehicles_to, if_neg (nI_nle (by omega) (by omega))]
        exact al_r (by decide)
      · have hg0 : M_g mo 0 = nI (s_n S) := h.1.1
        have hg1 : M_g mo 1 = nI (s_v S) := h.1.2.1
        show F_X5_removeLastSpan mo = _
        unfold F_X5_removeLastSpan
        refine gk ub_0 (gp ?_ (gk ub_1 (gn ?_ (gk ub_1 (gb (denies_e _ _ _ _) ?_)))))
        · rw [zc_0, hg0]; exact nI_ne0 (by omega) (by omega)
        · rw [zc_1, hg1]; exact nI_nle (by omega) (by omega)
        · rw [zc_1, hg1]; rfl
/-! the rate -/
theorem Iv_rate {H : Nat} {S : Br} (h : Iv H S) (hH : H + 48 ≤ 900000) {x : Nat} (hx : x ≤ 20) : Iv (H + 48) (st_rt S x) := by
  obtain ⟨⟨a1, a2, a3, a4, a5, a6, a7, a8, a9⟩, b, c, d⟩ := h
  unfold Iv
  simp only [q_n_rt, q_L_rt, q_J_rt, q_A_rt, q_K_rt, q_T_rt, q_v_rt, q_N_rt, q_W_rt, q_P_rt, q_nx_rt, q_hr_rt, q_rt_rt, q_tl_rt, q_pd_rt, q_cr_rt, q_sk_rt]
  exact ⟨⟨a1, a2, by omega, by omega, hx, a6, a7, a8, hH⟩, b, c, d⟩
theorem CH_rate {H : Nat} {S : Br} (hI : Iv H S) (hH : H + 48 ≤ 900000) (p q : Int32) : CH H S 4 p q (fun b => F_X0_replaceRate b p) (fun m => F_X5_setRate m p) 0 1 2 := by
  have hr := hI.1.2.2.2.2.1
  have hall : ∀ j, F_X2_allows j (toB S) 4 p q = (F_X2_judgeRate (mkJ 0 0) (toB S) p).bind (fun z7 => if ¬ (J_reason z7) = 0 then some (false, z7) else some (true, z7)) := by
    intro j
    unfold F_X2_allows
    rw [if_neg (by decide), if_neg (by decide), if_neg (by decide), if_neg (by decide), if_pos rfl]
  rcases rng p 0 20 (by omega) (by omega) with hp | ⟨x, hx1, hx2, rfl⟩
  · refine Or.inr (Or.inl ⟨9, 1, Or.inl ⟨rfl, rfl⟩, by decide, fun j => ?_, fun mo h => ?_⟩)
    · rw [hall j]
      unfold F_X2_judgeRate
      by_cases c : p < 0
      · rw [if_pos c]; exact al_r (by decide)
      · have hp := hp.resolve_left c
        rw [if_neg c, if_neg (nle_lt (show (20 : Int32) < p from hp))]; exact al_r (by decide)
    · show F_X5_setRate mo p = _
      unfold F_X5_setRate
      refine gb (in_f (show p < 0 ∨ 20 < p from hp)) (gp rfl (gb (fails_1 mo) (gn bt1 rfl)))
  · have hin : F_X5_in (nI x) 0 20 = some true := (show F_X5_in (nI x) (nI 0) (nI 20) = some true from in_t hx1 hx2 (by omega))
    have e1 : ¬ nI x < 0 := nI_pos (by omega)
    have e2 : nI x ≤ 20 := (show nI x ≤ nI 20 from nI_le hx2 (by omega))
    by_cases c1 : x = s_rt S
    · refine Or.inr (Or.inr ⟨7, nI x, by omega, by omega, by decide, fun j => ?_, fun mo h => ?_⟩)
      · rw [hall j]
        unfold F_X2_judgeRate
        rw [if_neg e1, if_pos e2, B_rate_to, if_neg (fun z => z (congrArg nI c1))]
        exact al_r (by decide)
      · have hg4 : M_g mo 4 = nI (s_rt S) := h.1.2.2.2.2.1
        show F_X5_setRate mo (nI x) = _
        unfold F_X5_setRate
        refine gb hin (gn (by decide) (gb (fails_0 mo) (gp rfl (gk ub_4 (gn ?_ (gb (denies_e _ _ _ _) ?_))))))
        · rw [zc_4, w_mF_g, hg4]; exact fun z => z (congrArg nI c1)
        · rw [mDn_F]; rfl
    · refine Or.inl ⟨nI (s_rt S), st_rt S x, fun j => ?_, ?_, Iv_rate hI hH hx2, fun mo kp ch h hK => ?_⟩
      · rw [hall j]
        unfold F_X2_judgeRate
        rw [if_neg e1, if_pos e2, B_rate_to, if_pos (fun z => c1 ((nI_eq (by omega) (by omega)).mp z))]
        exact al_0
      · show F_X0_replaceRate (toB S) (nI x) = _
        unfold F_X0_replaceRate
        rw [← toB_rt, B_rate_to]
        simp only [B_spans_to, B_lengths_to, B_jars_to, B_ages_to, B_cracks_to, B_stresses_to, B_vehicles_to, B_numbers_to, B_weights_to, B_places_to, B_nextNumber_to, B_hour_to, B_rate_to, B_till_to, B_paid_to, B_crossed_to, B_sunk_to]
      · have hg4 : M_g mo 4 = nI (s_rt S) := h.1.2.2.2.2.1
        refine ⟨0, _, M_lastOver mo, M_counted mo, RG_rt h x, ?_⟩
        show F_X5_setRate mo (nI x) = _
        unfold F_X5_setRate
        refine gb hin (gn (by decide) (gb (fails_0 mo) (gp rfl (gk ub_4 (gp ?_ (gb (hK (mF mo 0) (w_mF_g _ _) (w_mF_kept _ _) (w_mF_changes _ _) (w_mF_isWithin _ _)) (gk ub_4 ?_)))))))
        · rw [zc_4, w_mF_g, hg4]; exact fun z => c1 ((nI_eq (by omega) (by omega)).mp z)
        · simp only [zc_4, w_mF_g, w_mKp_g, hg4, mkM_g, mK_e1]
/-! mending -/
def menS (S : Br) (k x : Nat) : Br := mkS (s_n S) (s_L S) (s_J S) (s_A S) (uN (s_K S) k (s_K S k - x)) (s_T S) (s_v S) (s_N S) (s_W S) (s_P S) (s_nx S) (s_hr S) (s_rt S) (s_tl S - 5 * x) (s_pd S) (s_cr S) (s_sk S)
theorem p_menS_n (S : Br) (k x : Nat) : s_n (menS S k x) = s_n S := rfl
theorem p_menS_L (S : Br) (k x : Nat) : s_L (menS S k x) = s_L S := rfl
theorem p_menS_J (S : Br) (k x : Nat) : s_J (menS S k x) = s_J S := rfl
theorem p_menS_A (S : Br) (k x : Nat) : s_A (menS S k x) = s_A S := rfl
theorem p_menS_K (S : Br) (k x : Nat) : s_K (menS S k x) = uN (s_K S) k (s_K S k - x) := rfl
theorem p_menS_T (S : Br) (k x : Nat) : s_T (menS S k x) = s_T S := rfl
theorem p_menS_v (S : Br) (k x : Nat) : s_v (menS S k x) = s_v S := rfl
theorem p_menS_N (S : Br) (k x : Nat) : s_N (menS S k x) = s_N S := rfl
theorem p_menS_W (S : Br) (k x : Nat) : s_W (menS S k x) = s_W S := rfl
theorem p_menS_P (S : Br) (k x : Nat) : s_P (menS S k x) = s_P S := rfl
theorem p_menS_nx (S : Br) (k x : Nat) : s_nx (menS S k x) = s_nx S := rfl
theorem p_menS_hr (S : Br) (k x : Nat) : s_hr (menS S k x) = s_hr S := rfl
theorem p_menS_rt (S : Br) (k x : Nat) : s_rt (menS S k x) = s_rt S := rfl
theorem p_menS_tl (S : Br) (k x : Nat) : s_tl (menS S k x) = s_tl S - 5 * x := rfl
theorem p_menS_pd (S : Br) (k x : Nat) : s_pd (menS S k x) = s_pd S := rfl
theorem p_menS_cr (S : Br) (k x : Nat) : s_cr (menS S k x) = s_cr S := rfl
theorem p_menS_sk (S : Br) (k x : Nat) : s_sk (menS S k x) = s_sk S := rfl
theorem toB_menS (S : Br) (k x : Nat) : toB (menS S k x) = mkB (nI (s_n S)) (fI (s_L S)) (fI (s_J S)) (fI (s_A S)) (fI (uN (s_K S) k (s_K S k - x))) (fI (s_T S)) (nI (s_v S)) (fI (s_N S)) (fI (s_W S)) (fI (s_P S)) (nI (s_nx S)) (nI (s_hr S)) (nI (s_rt S)) (nI (s_tl S - 5 * x)) (nI (s_pd S)) (nI (s_cr S)) (nI (s_sk S)) := rfl
theorem Iv_men {H : Nat} {S : Br} (h : Iv H S) (hH : H + 48 ≤ 900000) (k x : Nat) : Iv (H + 48) (menS S k x) := by
  obtain ⟨⟨a1, a2, a3, a4, a5, a6, a7, a8, a9⟩, b, c, d⟩ := h
  unfold Iv
  simp only [p_menS_n, p_menS_L, p_menS_J, p_menS_A, p_menS_K, p_menS_T, p_menS_v, p_menS_N, p_menS_W, p_menS_P, p_menS_nx, p_menS_hr, p_menS_rt, p_menS_tl, p_menS_pd, p_menS_cr, p_menS_sk]
  refine ⟨⟨a1, a2, by omega, by omega, a5, a6, a7, by omega, hH⟩, ?_, c, d⟩
  intro i hi
  obtain ⟨b1, b2, b3, b4, b5, b6⟩ := b i hi
  refine ⟨b1, b2, b3, b4, ?_, b6⟩
  by_cases e : i = k
  · subst e; rw [uN_s]; omega
  · rw [uN_o _ _ e]; exact b5
theorem RG_men {g : Nat → Int32} {S : Br} (h : RG g S) (hn : s_n S ≤ 10) {k : Nat} (x : Nat) (hk : k < s_n S) : RG (upd (upd g (9 + 5 * k + 3) (nI (s_K S k - x))) 5 (nI (s_tl S - 5 * x))) (menS S k x) := by
  have h1 := RG_tl (RG_K h hn (s_K S k - x) hk) (s_tl S - 5 * x)
  unfold RG at h1 ⊢
  simp only [q_n_tl, q_L_tl, q_J_tl, q_A_tl, q_K_tl, q_T_tl, q_v_tl, q_N_tl, q_W_tl, q_P_tl, q_nx_tl, q_hr_tl, q_rt_tl, q_tl_tl, q_pd_tl, q_cr_tl, q_sk_tl, q_n_K, q_L_K, q_J_K, q_A_K, q_K_K, q_T_K, q_v_K, q_N_K, q_W_K, q_P_K, q_nx_K, q_hr_K, q_rt_K, q_tl_K, q_pd_K, q_cr_K, q_sk_K] at h1
  simp only [p_menS_n, p_menS_L, p_menS_J, p_menS_A, p_menS_K, p_menS_T, p_menS_v, p_menS_N, p_menS_W, p_menS_P, p_menS_nx, p_menS_hr, p_menS_rt, p_menS_tl, p_menS_pd, p_menS_cr, p_menS_sk]
  exact h1
theorem CH_men {H : Nat} {S : Br} (hI : Iv H S) (hH : H + 48 ≤ 900000) (p q : Int32) : CH H S 3 p q (fun b => F_X0_repair b p q) (fun m => F_X5_mend m p q) 1 2 3 := by
  have hn := hI.1.1
  have ht := hI.1.2.2.2.2.2.2.2.1
  have hpd := hI.1.2.2.2.2.2.2.1
  have hcr := hI.1.2.2.2.2.2.1
  have hnx := hI.1.2.2.1
  have hall : ∀ j, F_X2_allows j (toB S) 3 p q = (F_X2_judgeRepair (mkJ 0 0) (toB S) p q).bind (fun z7 => if ¬ (J_reason z7) = 0 then some (false, z7) else some (true, z7)) := by
    intro j
    unfold F_X2_allows
    rw [if_neg (by decide), if_neg (by decide), if_neg (by decide), if_pos rfl]
  rcases pk_ix p (n := s_n S) (by omega) with hp | hp | ⟨k, hk, rfl⟩
  · refine Or.inr (Or.inl ⟨10, 1, Or.inr ⟨rfl, rfl⟩, by decide, fun j => ?_, fun mo h => ?_⟩)
    · rw [hall j]
      unfold F_X2_judgeRepair
      rw [hs_f (Or.inl hp), Option.bind_some, if_neg (by decide)]; exact al_r (by decide)
    · show F_X5_mend mo p q = _
      unfold F_X5_mend
      exact gb (m_isSpan_f h hn (Or.inl hp)) (gn (by decide) (gb (fails_1 mo) (gn bt1 rfl)))
  · refine Or.inr (Or.inl ⟨10, 1, Or.inr ⟨rfl, rfl⟩, by decide, fun j => ?_, fun mo h => ?_⟩)
    · rw [hall j]
      unfold F_X2_judgeRepair
      rw [hs_f (Or.inr hp), Option.bind_some, if_neg (by decide)]; exact al_r (by decide)
    · show F_X5_mend mo p q = _
      unfold F_X5_mend
      exact gb (m_isSpan_f h hn (Or.inr hp)) (gn (by decide) (gb (fails_1 mo) (gn bt1 rfl)))
  have hcr9 := (hI.2.1 k hk).2.2.2.2.1
  rcases rng q 1 9 (by omega) (by omega) with hq | ⟨x, hx1, hx2, rfl⟩
  · refine Or.inr (Or.inl ⟨9, 2, Or.inl ⟨rfl, rfl⟩, by decide, fun j => ?_, fun mo h => ?_⟩)
    · rw [hall j]
      unfold F_X2_judgeRepair
      rw [hs_t hk hn, Option.bind_some, if_pos (by decide)]
      by_cases c : q < 1
      · rw [if_pos c]; exact al_r (by decide)
      · have hq := hq.resolve_left c
        rw [if_neg c, if_neg (nle_lt (show (9 : Int32) < q from hq))]; exact al_r (by decide)
    · show F_X5_mend mo (nI k) q = _
      unfold F_X5_mend
      exact gb (m_isSpan_t h hn hk) (gp (by decide) (gb (in_f (show q < 1 ∨ 9 < q from hq)) (gp rfl (gb (fails_2 mo) (gn bt1 rfl)))))
  · have hin : F_X5_in (nI x) 1 9 = some true := (show F_X5_in (nI x) (nI 1) (nI 9) = some true from in_t hx1 hx2 (by omega))
    have e1 : ¬ nI x < 1 := nI_nlt hx1 (by omega)
    have e2 : nI x ≤ 9 := (show nI x ≤ nI 9 from nI_le hx2 (by omega))
    by_cases c1 : x ≤ s_K S k
    · by_cases c2 : 5 * x ≤ s_tl S
      · refine Or.inl ⟨nI (s_tl S - 5 * x), menS S k x, fun j => ?_, ?_, Iv_men hI hH k x, fun mo kp ch h hK => ?_⟩
        · rw [hall j]
          unfold F_X2_judgeRepair
          rw [hs_t hk hn, Option.bind_some, if_pos (by decide), if_neg e1, if_pos e2, inb_nI (by omega) (by omega), ck_tt, B_cracks_to, nI_clamp (by omega), fI_a, if_pos (nI_le c1 (by omega)), B_till_to, l_5, pk_mul, if_pos (nI_le (by omega) (by omega))]
          exact al_0
        · show F_X0_repair (toB S) (nI k) (nI x) = _
          unfold F_X0_repair
          rw [hs_t hk hn, show nI x * 5 = nI (5 * x) by rw [l_5, pk_mul, Nat.mul_comm], toB_menS]
          simp (disch := omega) only [B_spans_to, B_lengths_to, B_jars_to, B_ages_to, B_cracks_to, B_stresses_to, B_vehicles_to, B_numbers_to, B_weights_to, B_places_to, B_nextNumber_to, B_hour_to, B_rate_to, B_till_to, B_paid_to, B_crossed_to, B_sunk_to, Option.bind_some, ck_tt, inb_nI, nz_nI, fI_a, fI_u, nI_clamp, nI_add, pk_mul, pk_sub, pk_div, nI_ltI, nI_leI, nI_eq, imin_nI, imax_nI, bi_t, bi_f, if_pos, if_neg, l_0, l_1, l_2, l_3, l_4, l_5, l_6, l_7, l_8, l_9, l_10, l_20, l_24, l_47, l_48, l_50, l_57, l_58, l_59, l_60, l_61, l_83, l_93, l_99, l_200, l_581, l_664]
        · have hg5 : M_g mo 5 = nI (s_tl S) := h.1.2.2.2.2.2.1
          refine ⟨0, _, M_lastOver mo, M_counted mo, RG_men h hn x hk, ?_⟩
          show F_X5_mend mo (nI k) (nI x) = _
          unfold F_X5_mend
          refine gb (m_isSpan_t h hn hk) (gp (by decide) (gb hin (gn (by decide) (gb (fails_0 mo) (gp rfl (gb (of_K (S := S) (by rw [w_mF_g]; exact h) hn hk) (gp (show nI x ≤ nI (s_K S k) from nI_le c1 (by omega)) (gk ub_5 (gp ?_ (gb (hK (mF mo 0) (w_mF_g _ _) (w_mF_kept _ _) (w_mF_changes _ _) (w_mF_isWithin _ _)) (gb (of_K (S := S) (by rw [w_mKp_g, w_mF_g]; exact h) hn hk) (gb (lays_K _ (by omega) _) (gk ub_5 (gk ub_5 (gk ub_5 ?_)))))))))))))))
          · rw [zc_5, w_mF_g, hg5, l_5, pk_mul]; exact nI_le c2 (by omega)
          · simp only [zc_5, upd_at, r_g_g, w_mKp_g, w_mF_g, mkM_g, mm_g]
            rw [pk_un (by omega), hg5, l_5, pk_mul, pk_sub c1, pk_sub c2, mK_e1]
      · refine Or.inr (Or.inr ⟨5, nI (s_tl S), by omega, by omega, by decide, fun j => ?_, fun mo h => ?_⟩)
        · rw [hall j]
          unfold F_X2_judgeRepair
          rw [hs_t hk hn, Option.bind_some, if_pos (by decide), if_neg e1, if_pos e2, inb_nI (by omega) (by omega), ck_tt, B_cracks_to, nI_clamp (by omega), fI_a, if_pos (nI_le c1 (by omega)), B_till_to, show nI x * 5 = nI (5 * x) by rw [l_5, pk_mul, Nat.mul_comm], if_neg (nI_ge (by omega) (by omega))]
          exact al_r (by decide)
        · have hg5 : M_g mo 5 = nI (s_tl S) := h.1.2.2.2.2.2.1
          show F_X5_mend mo (nI k) (nI x) = _
          unfold F_X5_mend
          refine gb (m_isSpan_t h hn hk) (gp (by decide) (gb hin (gn (by decide) (gb (fails_0 mo) (gp rfl (gb (of_K (S := S) (by rw [w_mF_g]; exact h) hn hk) (gp (show nI x ≤ nI (s_K S k) from nI_le c1 (by omega)) (gk ub_5 (gn ?_ (gk ub_5 (gb (denies_e _ _ _ _) ?_)))))))))))
          · rw [zc_5, w_mF_g, hg5, l_5, pk_mul]; exact nI_ge (by omega) (by omega)
          · rw [mDn_F, zc_5, w_mF_g, hg5]; rfl
    · refine Or.inr (Or.inr ⟨6, nI (s_K S k), by omega, by omega, by decide, fun j => ?_, fun mo h => ?_⟩)
      · rw [hall j]
        unfold F_X2_judgeRepair
        rw [hs_t hk hn, Option.bind_some, if_pos (by decide), if_neg e1, if_pos e2, inb_nI (by omega) (by omega), ck_tt, B_cracks_to, nI_clamp (by omega), fI_a, if_neg (nI_ge (by omega) (by omega)), ck_tt]
        exact al_r (by decide)
      · show F_X5_mend mo (nI k) (nI x) = _
        unfold F_X5_mend
        exact gb (m_isSpan_t h hn hk) (gp (by decide) (gb hin (gn (by decide) (gb (fails_0 mo) (gp rfl (gb (of_K (S := S) (by rw [w_mF_g]; exact h) hn hk) (gn (nI_ge (by omega) (by omega)) (gb (of_K (S := S) (by rw [w_mF_g]; exact h) hn hk) (gb (denies_e _ _ _ _) (by rw [mDn_F]; rfl))))))))))
