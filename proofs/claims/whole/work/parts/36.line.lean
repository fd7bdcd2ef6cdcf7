section LINE
variable {H : Nat} {x : Xv} {b t sn : Bv} {h : Hv} {tx : Tv} {ln : Nv} {mo mb : Mv}
def mW (x : Mv) (y : Nat → Int32) (n : Int32) : Mv := mkM (M_g x) (M_kept x) (M_saved x) (M_before x) (M_trial x) (M_counted x) (M_isSaved x) (M_changes x) (M_isWithin x) (M_isDenied x) (M_code x) (M_why x) (M_detail x) (M_cause x) (M_input x) (M_length x) (M_fault x) (y) (n) (M_lastOver x) (M_at x) (M_told x) (M_toldMany x)
theorem w_mW_g (x : Mv) (y : Nat → Int32) (n : Int32) : M_g (mW x y n) = M_g x := rfl
theorem w_mW_kept (x : Mv) (y : Nat → Int32) (n : Int32) : M_kept (mW x y n) = M_kept x := rfl
theorem w_mW_saved (x : Mv) (y : Nat → Int32) (n : Int32) : M_saved (mW x y n) = M_saved x := rfl
theorem w_mW_before (x : Mv) (y : Nat → Int32) (n : Int32) : M_before (mW x y n) = M_before x := rfl
theorem w_mW_trial (x : Mv) (y : Nat → Int32) (n : Int32) : M_trial (mW x y n) = M_trial x := rfl
theorem w_mW_counted (x : Mv) (y : Nat → Int32) (n : Int32) : M_counted (mW x y n) = M_counted x := rfl
theorem w_mW_isSaved (x : Mv) (y : Nat → Int32) (n : Int32) : M_isSaved (mW x y n) = M_isSaved x := rfl
theorem w_mW_changes (x : Mv) (y : Nat → Int32) (n : Int32) : M_changes (mW x y n) = M_changes x := rfl
theorem w_mW_isWithin (x : Mv) (y : Nat → Int32) (n : Int32) : M_isWithin (mW x y n) = M_isWithin x := rfl
theorem w_mW_isDenied (x : Mv) (y : Nat → Int32) (n : Int32) : M_isDenied (mW x y n) = M_isDenied x := rfl
theorem w_mW_code (x : Mv) (y : Nat → Int32) (n : Int32) : M_code (mW x y n) = M_code x := rfl
theorem w_mW_why (x : Mv) (y : Nat → Int32) (n : Int32) : M_why (mW x y n) = M_why x := rfl
theorem w_mW_detail (x : Mv) (y : Nat → Int32) (n : Int32) : M_detail (mW x y n) = M_detail x := rfl
theorem w_mW_cause (x : Mv) (y : Nat → Int32) (n : Int32) : M_cause (mW x y n) = M_cause x := rfl
theorem w_mW_input (x : Mv) (y : Nat → Int32) (n : Int32) : M_input (mW x y n) = M_input x := rfl
theorem w_mW_length (x : Mv) (y : Nat → Int32) (n : Int32) : M_length (mW x y n) = M_length x := rfl
theorem w_mW_fault (x : Mv) (y : Nat → Int32) (n : Int32) : M_fault (mW x y n) = M_fault x := rfl
theorem w_mW_signs (x : Mv) (y : Nat → Int32) (n : Int32) : M_signs (mW x y n) = y := rfl
theorem w_mW_signMany (x : Mv) (y : Nat → Int32) (n : Int32) : M_signMany (mW x y n) = n := rfl
theorem w_mW_lastOver (x : Mv) (y : Nat → Int32) (n : Int32) : M_lastOver (mW x y n) = M_lastOver x := rfl
theorem w_mW_at (x : Mv) (y : Nat → Int32) (n : Int32) : M_at (mW x y n) = M_at x := rfl
theorem w_mW_told (x : Mv) (y : Nat → Int32) (n : Int32) : M_told (mW x y n) = M_told x := rfl
theorem w_mW_toldMany (x : Mv) (y : Nat → Int32) (n : Int32) : M_toldMany (mW x y n) = M_toldMany x := rfl
theorem mW_W (y : Mv) (s s2 : Nat → Int32) (n n2 : Int32) : mW (mW y s n) s2 n2 = mW y s2 n2 := by
  unfold mW
  simp only [M_g_mk, M_kept_mk, M_saved_mk, M_before_mk, M_trial_mk, M_counted_mk, M_isSaved_mk, M_changes_mk, M_isWithin_mk, M_isDenied_mk, M_code_mk, M_why_mk, M_detail_mk, M_cause_mk, M_input_mk, M_length_mk, M_fault_mk, M_signs_mk, M_signMany_mk, M_lastOver_mk, M_at_mk, M_told_mk, M_toldMany_mk]
def LR (ln : Nv) (sg : Nat → Int32) : Prop := ∀ i, i < ln.1 → ln.2 i < 256 ∧ sg i = nI (ln.2 i)
theorem ch_nar {a : Nat} (ha : a < 65536) : vp_nar .char (((nI a).toUInt32 % 65536).toInt32) = nI a := by
  rw [pk_vc, pk_char, pk_tn (by omega), Nat.mod_eq_of_lt ha]
theorem m_write {sg : Nat → Int32} {w a : Nat} (hw : w < 200) (ha : a < 65536) : F_X5_writes (mW mb sg (nI w)) (nI a) = some (mW mb (upd sg w (nI a)) (nI (w + 1))) := by
  unfold F_X5_writes
  rw [w_mW_signMany]
  refine gk (inb_nI hw (by omega)) ?_
  rw [ch_nar ha, nI_clamp (by omega), w_mW_signs, add1]
  refine congrArg some ?_
  unfold mW
  simp only [M_g_mk, M_kept_mk, M_saved_mk, M_before_mk, M_trial_mk, M_counted_mk, M_isSaved_mk, M_changes_mk, M_isWithin_mk, M_isDenied_mk, M_code_mk, M_why_mk, M_detail_mk, M_cause_mk, M_input_mk, M_length_mk, M_fault_mk, M_signs_mk, M_signMany_mk, M_lastOver_mk, M_at_mk, M_told_mk, M_toldMany_mk]
theorem ch_both {ln : Nv} {sg : Nat → Int32} {a : Nat} (hR : LR ln sg) (hw : ln.1 < 200) (ha : a < 256) : ∃ ln' sg', F_lnC ln a = some ln' ∧ F_X5_writes (mW mb sg (nI ln.1)) (nI a) = some (mW mb sg' (nI ln'.1)) ∧ LR ln' sg' ∧ ln'.1 = ln.1 + 1 := by
  refine ⟨(ln.1 + 1, sb_cat ln.2 ln.1 (fun _ => a)), upd sg ln.1 (nI a), gk (decide_eq_true ⟨hw, ha⟩) rfl, m_write hw (by omega), ?_, rfl⟩
  intro i hi
  have hi : i < ln.1 + 1 := hi
  show sb_cat ln.2 ln.1 (fun _ => a) i < 256 ∧ upd sg ln.1 (nI a) i = nI (sb_cat ln.2 ln.1 (fun _ => a) i)
  unfold sb_cat
  by_cases e : i < ln.1
  · rw [if_pos e, pk_un (by omega)]; exact hR i e
  · have : i = ln.1 := by omega
    subst this
    rw [if_neg (by omega), pk_us]; exact ⟨ha, rfl⟩
theorem dg1 {v : Nat} (h : v < 10) : sb_dg v = 1 := by unfold sb_dg; rw [if_pos h]
theorem dgS {v : Nat} (h1 : 10 ≤ v) (h2 : v < 1000000) : sb_dg v = sb_dg (v / 10) + 1 := by
  have k : v < 100 ∨ (100 ≤ v ∧ v < 1000) ∨ (1000 ≤ v ∧ v < 10000) ∨ (10000 ≤ v ∧ v < 100000) ∨ (100000 ≤ v) := by omega
  unfold sb_dg
  rcases k with k | ⟨k1, k2⟩ | ⟨k1, k2⟩ | ⟨k1, k2⟩ | k
  · rw [if_neg (by omega), if_pos (by omega), if_pos (by omega)]
  · rw [if_neg (by omega), if_neg (by omega), if_pos (by omega), if_neg (by omega), if_pos (by omega)]
  · rw [if_neg (by omega), if_neg (by omega), if_neg (by omega), if_pos (by omega), if_neg (by omega), if_neg (by omega), if_pos (by omega)]
  · rw [if_neg (by omega), if_neg (by omega), if_neg (by omega), if_neg (by omega), if_pos (by omega), if_neg (by omega), if_neg (by omega), if_neg (by omega), if_pos (by omega)]
  · rw [if_neg (by omega), if_neg (by omega), if_neg (by omega), if_neg (by omega), if_neg (by omega), if_pos (by omega), if_neg (by omega), if_neg (by omega), if_neg (by omega), if_neg (by omega), if_pos (by omega)]
theorem dg_le : ∀ (n v : Nat), 1 ≤ n → n ≤ 6 → v < 10 ^ n → sb_dg v ≤ n := by
  intro n
  induction n with
  | zero => intro v h; omega
  | succ n ih =>
    intro v _ h6 hv
    by_cases h : v < 10
    · rw [dg1 h]; omega
    · have hn : n ≠ 0 := by
        intro z
        subst z
        omega
      have h7 : (10 : Nat) ^ (n + 1) ≤ 10 ^ 6 := Nat.pow_le_pow_right (by omega) h6
      rw [dgS (by omega) (by omega)]
      have := ih (v / 10) (by omega) (by omega) (by
        rw [Nat.pow_succ] at hv
        exact Nat.div_lt_of_lt_mul (by rw [Nat.mul_comm]; exact hv))
      omega
theorem dec_last {v : Nat} : sb_dec v (sb_dg v - 1) = 48 + v % 10 := by
  unfold sb_dec
  rw [Nat.sub_self, Nat.pow_zero, Nat.div_one]
theorem dec_s {v i : Nat} (h1 : 10 ≤ v) (h2 : v < 1000000) (hi : i < sb_dg (v / 10)) : sb_dec v i = sb_dec (v / 10) i := by
  unfold sb_dec
  rw [dgS h1 h2, show sb_dg (v / 10) + 1 - 1 - i = (sb_dg (v / 10) - 1 - i) + 1 by omega, Nat.pow_succ, Nat.mul_comm, ← Nat.div_div_eq_div_mul]
theorem m_num : ∀ (n v w : Nat) (sg : Nat → Int32), 1 ≤ n → n ≤ 6 → v < 10 ^ n → w + sb_dg v ≤ 200 → ∃ sg', F_X5_writesNumber_n n (mW mb sg (nI w)) (nI v) = some (mW mb sg' (nI (w + sb_dg v))) ∧ (∀ i, i < w → sg' i = sg i) ∧ ∀ i, i < sb_dg v → sg' (w + i) = nI (sb_dec v i) := by
  intro n
  induction n with
  | zero => intro v w sg h; omega
  | succ n ih =>
    intro v w sg _ h6 hv hw
    have h7 : (10 : Nat) ^ (n + 1) ≤ 10 ^ 6 := Nat.pow_le_pow_right (by omega) h6
    have ed : (48 : Int32) + (nI v - nI v / 10 * 10) = nI (48 + v % 10) := by
      rw [l_10, pk_rem (by omega) (by omega) (by omega)]
      exact nI_add 48 (v % 10)
    have hv6 : v < 1000000 := by omega
    have e10 : nI v / 10 = nI (v / 10) := by
      rw [l_10]; exact pk_div (by omega) (by omega) (by omega)
    by_cases h : v < 10
    · have hd1 := dg1 h
      refine ⟨upd sg w (nI (48 + v % 10)), ?_, fun i hi => pk_un (by omega), ?_⟩
      · unfold F_X5_writesNumber_n
        refine gp (show nI v ≤ (9 : Int32) from (show nI v ≤ nI 9 from nI_le (by omega) (by omega))) ?_
        rw [ed, m_write (by omega) (by omega), dg1 h]
      · intro i hi
        rw [dg1 h] at hi
        have : i = 0 := by omega
        subst this
        rw [Nat.add_zero, pk_us]
        have := dec_last (v := v)
        rw [dg1 h] at this
        rw [this]
    · have hn : n ≠ 0 := by
        intro z
        subst z
        omega
      have hd := dgS (v := v) (by omega) (by omega)
      obtain ⟨sg1, e1, e2, e3⟩ := ih (v / 10) w sg (by omega) (by omega) (by
        rw [Nat.pow_succ] at hv
        exact Nat.div_lt_of_lt_mul (by rw [Nat.mul_comm]; exact hv)) (by omega)
      refine ⟨upd sg1 (w + sb_dg (v / 10)) (nI (48 + v % 10)), ?_, fun i hi => (pk_un (by omega)).trans (e2 i hi), ?_⟩
      · unfold F_X5_writesNumber_n
        refine gn (show ¬ nI v ≤ (9 : Int32) from (show ¬ nI v ≤ nI 9 from nI_ge (by omega) (by omega))) ?_
        refine gb (by rw [e10]; exact e1) ?_
        rw [ed, m_write (by omega) (by omega), hd]
        rfl
      · intro i hi
        by_cases e : i = sb_dg (v / 10)
        · subst e
          rw [pk_us]
          have := dec_last (v := v)
          rw [hd, Nat.add_sub_cancel] at this
          rw [this]
        · have hi2 : i < sb_dg (v / 10) := by omega
          rw [pk_un (by omega), e3 i hi2, dec_s (by omega) hv6 hi2]
theorem num_both {ln : Nv} {sg : Nat → Int32} {v : Nat} (hR : LR ln sg) (hv : v < 1000000) (hw : ln.1 + sb_dg v ≤ 200) : ∃ ln' sg', F_lnI ln (nI v) = some ln' ∧ F_X5_writesNumber (mW mb sg (nI ln.1)) (nI v) = some (mW mb sg' (nI ln'.1)) ∧ LR ln' sg' ∧ ln'.1 = ln.1 + sb_dg v := by
  obtain ⟨sg', e1, e2, e3⟩ := m_num (mb := mb) 6 v ln.1 sg (by omega) (by omega) hv hw
  refine ⟨(ln.1 + sb_dg v, sb_cat ln.2 ln.1 (sb_dec v)), sg', ?_, e1, ?_, rfl⟩
  · unfold F_lnI
    rw [nI_clamp (by omega)]
    exact gk (decide_eq_true ⟨nI_pos (by omega), hw⟩) rfl
  · intro i hi
    have hi : i < ln.1 + sb_dg v := hi
    show sb_cat ln.2 ln.1 (sb_dec v) i < 256 ∧ sg' i = nI (sb_cat ln.2 ln.1 (sb_dec v) i)
    unfold sb_cat
    by_cases e : i < ln.1
    · rw [if_pos e, e2 i e]; exact hR i e
    · have h9 := e3 (i - ln.1) (by omega)
      rw [show ln.1 + (i - ln.1) = i by omega] at h9
      rw [if_neg e]
      refine ⟨?_, h9⟩
      unfold sb_dec
      omega
theorem beh_both {ln : Nv} {sg : Nat → Int32} {v a : Nat} (hR : LR ln sg) (ha : a < 256) (hv : v < 1000000) (hw : ln.1 + 1 + sb_dg v ≤ 200) : ∃ l1 ln' sg', F_lnC ln a = some l1 ∧ F_lnI l1 (nI v) = some ln' ∧ F_X5_writesBehind (mW mb sg (nI ln.1)) (nI a) (nI v) = some (mW mb sg' (nI ln'.1)) ∧ LR ln' sg' ∧ ln'.1 = ln.1 + 1 + sb_dg v := by
  have hd := sb_dg_in v
  obtain ⟨l1, s1, e1, e2, e3, e4⟩ := ch_both (mb := mb) hR (by omega) ha
  obtain ⟨l2, s2, f1, f2, f3, f4⟩ := num_both (mb := mb) e3 hv (by omega)
  refine ⟨l1, l2, s2, e1, f1, ?_, f3, by omega⟩
  unfold F_X5_writesBehind
  exact gb e2 (gb f2 rfl)
theorem LN_W {ln : Nv} {sg : Nat → Int32} (hR : LR ln sg) (hw : ln.1 ≤ 200) (m2 : Mv) : LNR ln (mW m2 sg (nI ln.1)) := ⟨hw, w_mW_signMany _ _ _, fun i hi => ⟨(hR i hi).1, by rw [w_mW_signs]; exact (hR i hi).2⟩⟩
theorem Rel.W {ln' : Nv} {sg : Nat → Int32} {c : Int32} (hR : Rel H x b t sn h tx ln mo) (hH : H + 800 ≤ 900000) (hL : LR ln' sg) (hw : ln'.1 ≤ 200) : Rel (H + 800) x b t sn h tx ln' (mW (mF mo c) sg (nI ln'.1)) := by
  have h1 := hR.up (H1 := H + 800) (by omega) hH
  have h2 := LN_W hL hw (mF mo c)
  unfold Rel TXR at h1 ⊢
  simp only [w_mW_g, w_mW_kept, w_mW_saved, w_mW_before, w_mW_trial, w_mW_counted, w_mW_isSaved, w_mW_changes, w_mW_isWithin, w_mW_isDenied, w_mW_code, w_mW_why, w_mW_detail, w_mW_cause, w_mW_input, w_mW_length, w_mW_fault, w_mW_signs, w_mW_signMany, w_mW_lastOver, w_mW_at, w_mW_told, w_mW_toldMany, w_mF_g, w_mF_kept, w_mF_saved, w_mF_before, w_mF_trial, w_mF_counted, w_mF_isSaved, w_mF_changes, w_mF_isWithin, w_mF_isDenied, w_mF_code, w_mF_why, w_mF_detail, w_mF_cause, w_mF_input, w_mF_length, w_mF_fault, w_mF_signs, w_mF_signMany, w_mF_lastOver, w_mF_at, w_mF_told, w_mF_toldMany]
  obtain ⟨b1, b2, b3, b4, b5, b6, b7, b8, b9, -⟩ := h1
  exact ⟨b1, b2, b3, b4, b5, b6, b7, b8, b9, h2⟩
theorem Rel.Wc {ln' : Nv} {sg : Nat → Int32} {c : Int32} (hR : Rel H x b t sn h tx ln mo) (hH : H + 800 ≤ 900000) (hL : LR ln' sg) (hw : ln'.1 ≤ 200) : Rel (H + 800) x b t sn h tx ln' (mW (m_code mo c) sg (nI ln'.1)) := by
  have h1 := hR.up (H1 := H + 800) (by omega) hH
  have h2 := LN_W hL hw (m_code mo c)
  unfold Rel TXR at h1 ⊢
  simp only [w_mW_g, w_mW_kept, w_mW_saved, w_mW_before, w_mW_trial, w_mW_counted, w_mW_isSaved, w_mW_changes, w_mW_isWithin, w_mW_isDenied, w_mW_code, w_mW_why, w_mW_detail, w_mW_cause, w_mW_input, w_mW_length, w_mW_fault, w_mW_signs, w_mW_signMany, w_mW_lastOver, w_mW_at, w_mW_told, w_mW_toldMany, r_g_code, r_kept_code, r_saved_code, r_before_code, r_trial_code, r_counted_code, r_isSaved_code, r_changes_code, r_isWithin_code, r_isDenied_code, r_code_code, r_why_code, r_detail_code, r_cause_code, r_input_code, r_length_code, r_fault_code, r_signs_code, r_signMany_code, r_lastOver_code, r_at_code, r_told_code, r_toldMany_code]
  obtain ⟨b1, b2, b3, b4, b5, b6, b7, b8, b9, -⟩ := h1
  exact ⟨b1, b2, b3, b4, b5, b6, b7, b8, b9, h2⟩
theorem L106 {S : Br} {k : Nat} (hI : Iv H S) (hk : k < s_n S) (hg : RG (M_g mb) S) (Kc : Nv → Option ((Int32 × Nv) ⊕ (String × Nv))) (Km : Mv → Option (Int32 × Mv)) : ∀ (r fu fu2 i : Nat) (ln : Nv) (sg : Nat → Int32), i + r = s_K S k → r < fu → r < fu2 → LR ln sg → ln.1 + r ≤ 200 → ∃ ln' sg', F_X4_writeSpan_L106 (toB S) (nI k) Kc fu ln (nI i) = Kc ln' ∧ F_X5_writeSpan_L69 (nI k) (fun b13 _ => Km b13) fu2 (mW mb sg (nI ln.1)) (nI i) = Km (mW mb sg' (nI ln'.1)) ∧ LR ln' sg' ∧ ln'.1 = ln.1 + r := by
  have hn := hI.1.1
  have h9 := (hI.2.1 k hk).2.2.2.2.1
  intro r
  induction r with
  | zero =>
    intro fu fu2 i ln sg hi hf1 hf2 hL hw
    obtain ⟨fu, rfl⟩ : ∃ f2, fu = f2 + 1 := ⟨fu - 1, by omega⟩
    obtain ⟨fu2, rfl⟩ : ∃ f2, fu2 = f2 + 1 := ⟨fu2 - 1, by omega⟩
    refine ⟨ln, sg, ?_, ?_, hL, rfl⟩
    · unfold F_X4_writeSpan_L106
      refine gk (inb_nI (by omega) (by omega)) (gp ?_ rfl)
      rw [B_cracks_to, nI_clamp (by omega), fI_a]
      exact nI_le (by omega) (by omega)
    · unfold F_X5_writeSpan_L69
      exact gb (of_K (S := S) (by rw [w_mW_g]; exact hg) hn hk) (gp (nI_le (by omega) (by omega)) rfl)
  | succ r ih =>
    intro fu fu2 i ln sg hi hf1 hf2 hL hw
    obtain ⟨fu, rfl⟩ : ∃ f2, fu = f2 + 1 := ⟨fu - 1, by omega⟩
    obtain ⟨fu2, rfl⟩ : ∃ f2, fu2 = f2 + 1 := ⟨fu2 - 1, by omega⟩
    obtain ⟨l1, s1, e1, e2, e3, e4⟩ := ch_both (mb := mb) (a := 47) hL (by omega) (by omega)
    obtain ⟨l2, s2, f1, f2, f3, f4⟩ := ih fu fu2 (i + 1) l1 s1 (by omega) (by omega) (by omega) e3 (by omega)
    refine ⟨l2, s2, ?_, ?_, f3, by omega⟩
    · unfold F_X4_writeSpan_L106
      refine gk (inb_nI (by omega) (by omega)) (gn ?_ (gb e1 ?_))
      · rw [B_cracks_to, nI_clamp (by omega), fI_a]
        exact nI_ge (by omega) (by omega)
      · rw [add1]; exact f1
    · unfold F_X5_writeSpan_L69
      refine gb (of_K (S := S) (by rw [w_mW_g]; exact hg) hn hk) (gn (nI_ge (by omega) (by omega)) (gb e2 ?_))
      rw [add1]; exact f2
theorem L137 {S : Br} {k : Nat} (hI : Iv H S) (hk : k < s_n S) (hg : RG (M_g mb) S) : ∀ (r fu fu2 i : Nat) (ln : Nv) (sg : Nat → Int32), i + r = s_v S → r < fu → r < fu2 → LR ln sg → ln.1 + 10 * r ≤ 200 → ∃ ln' sg', F_X4_writeSpan_L137 (toB S) (nI k) fu ln (nI i) = some (.inl (nI ln'.1, ln')) ∧ F_X5_writeSpan_L93 (nI k) (fun b20 _ => some (M_signMany b20, b20)) fu2 (mW mb sg (nI ln.1)) (nI i) = some (nI ln'.1, mW mb sg' (nI ln'.1)) ∧ LR ln' sg' ∧ ln'.1 ≤ 200 := by
  have hn := hI.1.1
  have hv := hI.1.2.1
  have hnx := hI.1.2.2.1
  have hH9 := hI.1.2.2.2.2.2.2.2.2
  intro r
  induction r with
  | zero =>
    intro fu fu2 i ln sg hi hf1 hf2 hL hw
    obtain ⟨fu, rfl⟩ : ∃ f2, fu = f2 + 1 := ⟨fu - 1, by omega⟩
    obtain ⟨fu2, rfl⟩ : ∃ f2, fu2 = f2 + 1 := ⟨fu2 - 1, by omega⟩
    refine ⟨ln, sg, ?_, ?_, hL, by omega⟩
    · unfold F_X4_writeSpan_L137
      exact gp (by rw [B_vehicles_to]; exact nI_le (by omega) (by omega)) rfl
    · unfold F_X5_writeSpan_L93
      refine gk ub_1 (gp ?_ ?_)
      · rw [zc_1, w_mW_g, hg.1.2.1]; exact nI_le (by omega) (by omega)
      · rw [w_mW_signMany]
  | succ r ih =>
    intro fu fu2 i ln sg hi hf1 hf2 hL hw
    obtain ⟨fu, rfl⟩ : ∃ f2, fu = f2 + 1 := ⟨fu - 1, by omega⟩
    obtain ⟨fu2, rfl⟩ : ∃ f2, fu2 = f2 + 1 := ⟨fu2 - 1, by omega⟩
    obtain ⟨c1, c2, c3, c4⟩ := hI.2.2.1 i (by omega)
    have eC0 : ¬ B_vehicles (toB S) ≤ nI i := by rw [B_vehicles_to]; exact nI_ge (by omega) (by omega)
    have eP : B_places (toB S) (nI i).toNatClampNeg = nI (s_P S i) := by rw [B_places_to, nI_clamp (by omega)]; rfl
    have eN : B_numbers (toB S) (nI i).toNatClampNeg = nI (s_N S i) := by rw [B_numbers_to, nI_clamp (by omega)]; rfl
    have eW : B_weights (toB S) (nI i).toNatClampNeg = nI (s_W S i) := by rw [B_weights_to, nI_clamp (by omega)]; rfl
    have eM0 : ¬ (M_g (mW mb sg (nI ln.1))) (1 : Int32).toNatClampNeg ≤ nI i := by rw [zc_1, w_mW_g, hg.1.2.1]; exact nI_ge (by omega) (by omega)
    by_cases c : s_P S i = k
    · have d1 := dg_le 6 (s_N S i) (by omega) (by omega) (by omega)
      have d2 := dg_le 2 (s_W S i) (by omega) (by omega) (by omega)
      obtain ⟨l1, l2, s2, e1, e2, e3, e4, e5⟩ := beh_both (mb := mb) (a := 32) (v := s_N S i) hL (by omega) (by omega) (by omega)
      obtain ⟨l3, l4, s4, f1, f2, f3, f4, f5⟩ := beh_both (mb := mb) (a := 119) (v := s_W S i) e4 (by omega) (by omega) (by omega)
      obtain ⟨l5, s5, g1, g2, g3, g4⟩ := ih fu fu2 (i + 1) l4 s4 (by omega) (by omega) (by omega) f4 (by omega)
      refine ⟨l5, s5, ?_, ?_, g3, g4⟩
      · unfold F_X4_writeSpan_L137
        refine gn eC0 (gk (inb_nI (by omega) (by omega)) (gn (by rw [eP]; exact fun z => z (congrArg nI c)) (gb e1 (gk (inb_nI (by omega) (by omega)) (gb (by rw [eN]; exact e2) (gb f1 (gk (inb_nI (by omega) (by omega)) (gb (by rw [eW]; exact f2) ?_))))))))
        rw [add1]; exact g1
      · unfold F_X5_writeSpan_L93
        refine gk ub_1 (gn eM0 (gb (on_P (S := S) (by rw [w_mW_g]; exact hg) hv (by omega)) (gp (congrArg nI c) (gb (on_N (S := S) (by rw [w_mW_g]; exact hg) hv (by omega)) (gb e3 (gb (on_W (S := S) (by rw [w_mW_g]; exact hg) hv (by omega)) (gb f3 ?_)))))))
        rw [add1]; exact g2
    · obtain ⟨l5, s5, g1, g2, g3, g4⟩ := ih fu fu2 (i + 1) ln sg (by omega) (by omega) (by omega) hL (by omega)
      refine ⟨l5, s5, ?_, ?_, g3, g4⟩
      · unfold F_X4_writeSpan_L137
        refine gn eC0 (gk (inb_nI (by omega) (by omega)) (gp (by rw [eP]; exact fun z => c ((nI_eq (by omega) (by omega)).mp z)) ?_))
        rw [add1]; exact g1
      · unfold F_X5_writeSpan_L93
        refine gk ub_1 (gn eM0 (gb (on_P (S := S) (by rw [w_mW_g]; exact hg) hv (by omega)) (gn (fun z => c ((nI_eq (by omega) (by omega)).mp z)) ?_)))
        rw [add1]; exact g2
def RLn (H : Nat) (x : Xv) (b t sn : Bv) (h : Hv) (tx : Tv) (exs : List String) (z : (Int32 × Nv) ⊕ (String × Nv)) (zm : Int32 × Mv) : Prop :=
  Sum.elim (fun y => M_code zm.2 = 0 ∧ y.1 = zm.1 ∧ Rel (H + 800) x b t sn h tx y.2 zm.2) (fun y => cd exs 1 y.1 = some (M_code zm.2) ∧ ¬ M_code zm.2 = 0 ∧ Rel (H + 800) x b t sn h tx y.2 zm.2) z
theorem op_writeSpan (hR : Rel H x b t sn h tx ln mo) (hH : H + 800 ≤ 900000) (p : Int32) : ∃ z zm, F_X4_writeSpan x b ln p = some z ∧ F_X5_writeSpan mo p = some zm ∧ RLn H x b t sn h tx ["java/lang/IndexOutOfBoundsException"] z zm := by
  obtain ⟨⟨S, rfl, hI, hg⟩, -⟩ := id hR
  have hn := hI.1.1
  have hv := hI.1.2.1
  have hhr := hI.1.2.2.2.1
  have hH9 := hI.1.2.2.2.2.2.2.2.2
  rcases span_c (x := x) hI hg p with ⟨k, hk, rfl, e1, e2⟩ | ⟨e1, e2⟩
  · obtain ⟨b1, b2, b3, b4, b5, b6⟩ := hI.2.1 k hk
    have hst := hI.strb hk
    have hgb : RG (M_g (mF mo 0)) S := by rw [w_mF_g]; exact hg
    have hgw : ∀ s n, RG (M_g (mW (mF mo 0) s n)) S := fun s n => by rw [w_mW_g]; exact hgb
    have q1 := dg1 (v := k) (by omega)
    have q2 := dg_le 2 (s_L S k) (by omega) (by omega) (by omega)
    have q3 := dg_le 2 (s_J S k) (by omega) (by omega) (by omega)
    have q4 := dg_le 6 (s_A S k) (by omega) (by omega) (by omega)
    have q5 := dg_le 4 (str S k) (by omega) (by omega) (by omega)
    obtain ⟨l1, s1, c1, m1, r1, n1⟩ := num_both (mb := mF mo 0) (ln := (0, ln.2)) (sg := M_signs mo) (v := k) (fun i hi => absurd hi (Nat.not_lt_zero _)) (by omega) (by rw [q1]; show 0 + 1 ≤ 200; omega)
    have n1 : l1.1 = 0 + sb_dg k := n1
    obtain ⟨l2, l3, s3, c2, c3, m3, r3, n3⟩ := beh_both (mb := mF mo 0) (a := 58) (v := s_L S k) r1 (by omega) (by omega) (by omega)
    obtain ⟨l4, l5, s5, c4, c5, m5, r5, n5⟩ := beh_both (mb := mF mo 0) (a := 106) (v := s_J S k) r3 (by omega) (by omega) (by omega)
    obtain ⟨l6, l7, s7, c6, c7, m7, r7, n7⟩ := beh_both (mb := mF mo 0) (a := 104) (v := s_A S k) r5 (by omega) (by omega) (by omega)
    obtain ⟨l8, l9, s9, c8, c9, m9, r9, n9⟩ := beh_both (mb := mF mo 0) (a := 61) (v := str S k) r7 (by omega) (by omega) (by omega)
    obtain ⟨la, sa, ca, ma, ra, na⟩ := L106 (mb := mF mo 0) hI hk hgb (fun ln => F_X4_writeSpan_L137 (toB S) (nI k) 1000 ln 0) (fun b13 => F_X5_writeSpan_L93 (nI k) (fun b20 _ => some (M_signMany b20, b20)) 1000 b13 0) (s_K S k) 1000 1000 0 l9 s9 (by omega) (by omega) (by omega) r9 (by omega)
    obtain ⟨lb, sb, cb, mb2, rb, nb⟩ := L137 (mb := mF mo 0) hI hk hgb (s_v S) 1000 1000 0 la sa (by omega) (by omega) (by omega) ra (by omega)
    refine ⟨.inl (nI lb.1, lb), (nI lb.1, mW (mF mo 0) sb (nI lb.1)), ?_, ?_, ⟨by rw [w_mW_code, w_mF_code], rfl, hR.W hH rb nb⟩⟩
    · have iN : inb (nI k) 10 = true := inb_nI (by omega) (by omega)
      unfold F_X4_writeSpan obx
      rw [e1, Option.bind_some, Sum.elim_inl]
      refine gb c1 (gb c2 (gk iN (gb (by rw [B_lengths_to, nI_clamp (by omega)]; exact c3) (gb c4 (gk iN (gb (by rw [B_jars_to, nI_clamp (by omega)]; exact c5) (gb c6 (gk iN (gb (by rw [B_ages_to, nI_clamp (by omega)]; exact c7) (gb c8 (gb (c_str hI hk) (gb c9 ?_))))))))))))
      exact ca.trans cb
    · unfold F_X5_writeSpan
      refine gb e2 (gp rfl ?_)
      have e0 : mkM (M_g (mF mo 0)) (M_kept (mF mo 0)) (M_saved (mF mo 0)) (M_before (mF mo 0)) (M_trial (mF mo 0)) (M_counted (mF mo 0)) (M_isSaved (mF mo 0)) (M_changes (mF mo 0)) (M_isWithin (mF mo 0)) (M_isDenied (mF mo 0)) (M_code (mF mo 0)) (M_why (mF mo 0)) (M_detail (mF mo 0)) (M_cause (mF mo 0)) (M_input (mF mo 0)) (M_length (mF mo 0)) (M_fault (mF mo 0)) (M_signs (mF mo 0)) 0 (M_lastOver (mF mo 0)) (M_at (mF mo 0)) (M_told (mF mo 0)) (M_toldMany (mF mo 0)) = mW (mF mo 0) (M_signs mo) (nI 0) := by
        unfold mW
        simp only [w_mF_g, w_mF_kept, w_mF_saved, w_mF_before, w_mF_trial, w_mF_counted, w_mF_isSaved, w_mF_changes, w_mF_isWithin, w_mF_isDenied, w_mF_code, w_mF_why, w_mF_detail, w_mF_cause, w_mF_input, w_mF_length, w_mF_fault, w_mF_signs, w_mF_signMany, w_mF_lastOver, w_mF_at, w_mF_told, w_mF_toldMany]
        rfl
      refine gb (by rw [e0]; exact m1) (gb (of_L (S := S) (hgw _ _) hn hk) (gb m3 (gb (of_J (S := S) (hgw _ _) hn hk) (gb m5 (gb (of_A (S := S) (hgw _ _) hn hk) (gb m7 (gb (m_strong (S := S) hI (hgw _ _) hk) (gb m9 ?_))))))))
      exact ma.trans mb2
  · refine ⟨.inr ("java/lang/IndexOutOfBoundsException", ln), (0, mF mo 1), ?_, ?_, ⟨?_, ?_, hR.F hH 1⟩⟩
    · unfold F_X4_writeSpan obx
      rw [e1]; rfl
    · unfold F_X5_writeSpan
      exact gb e2 (gn bt1 rfl)
    · rw [w_mF_code]; exact (show cd ["java/lang/IndexOutOfBoundsException"] 1 "java/lang/IndexOutOfBoundsException" = some 1 by decide)
    · rw [w_mF_code]; decide
theorem bridge_L {S : Br} (hI : Iv H S) (hg : RG (M_g mb) S) : ∀ (r fu fu2 i : Nat) (ln : Nv) (sg : Nat → Int32), i + r = s_n S → r < fu → r < fu2 → LR ln sg → ln.1 + 5 * r ≤ 200 → ∃ ln' sg', F_X4_writeBridge_L10 (toB S) fu ln (nI i) = some (nI ln'.1, ln') ∧ F_X5_writeBridge_L12 (fun b10 _ => some (M_signMany b10, b10)) fu2 (mW mb sg (nI ln.1)) (nI i) = some (nI ln'.1, mW mb sg' (nI ln'.1)) ∧ LR ln' sg' ∧ ln'.1 ≤ 200 := by
  have hn := hI.1.1
  have hgw : ∀ s n, RG (M_g (mW mb s n)) S := fun s n => by rw [w_mW_g]; exact hg
  intro r
  induction r with
  | zero =>
    intro fu fu2 i ln sg hi hf1 hf2 hL hw
    obtain ⟨fu, rfl⟩ : ∃ f2, fu = f2 + 1 := ⟨fu - 1, by omega⟩
    obtain ⟨fu2, rfl⟩ : ∃ f2, fu2 = f2 + 1 := ⟨fu2 - 1, by omega⟩
    refine ⟨ln, sg, ?_, ?_, hL, by omega⟩
    · unfold F_X4_writeBridge_L10
      exact gp (by rw [B_spans_to]; exact nI_le (by omega) (by omega)) rfl
    · unfold F_X5_writeBridge_L12
      refine gk ub_0 (gp ?_ ?_)
      · rw [zc_0, w_mW_g, hg.1.1]; exact nI_le (by omega) (by omega)
      · rw [w_mW_signMany]
  | succ r ih =>
    intro fu fu2 i ln sg hi hf1 hf2 hL hw
    obtain ⟨fu, rfl⟩ : ∃ f2, fu = f2 + 1 := ⟨fu - 1, by omega⟩
    obtain ⟨fu2, rfl⟩ : ∃ f2, fu2 = f2 + 1 := ⟨fu2 - 1, by omega⟩
    have hld := hI.ldb i
    have d3 := dg_le 3 (ld S i) (by omega) (by omega) (by omega)
    have eC0 : ¬ B_spans (toB S) ≤ nI i := by rw [B_spans_to]; exact nI_ge (by omega) (by omega)
    have eM0 : ∀ s n, ¬ (M_g (mW mb s n)) (0 : Int32).toNatClampNeg ≤ nI i := fun s n => by rw [zc_0, w_mW_g, hg.1.1]; exact nI_ge (by omega) (by omega)
    -- after the sign between
    have rest : ∀ (l1 : Nv) (s1 : Nat → Int32), LR l1 s1 → l1.1 ≤ ln.1 + 1 → ∃ ln' sg', ((F_X0_loadOf (toB S) (nI i)).bind fun z2 => (F_lnI l1 z2).bind fun z3 => (F_X0_strains (toB S) (nI i)).bind fun z4 => (if bi z4 = 0 then some z3 else F_lnC z3 33).bind fun z5 => F_X4_writeBridge_L10 (toB S) fu z5 (nI i + 1)) = some (nI ln'.1, ln') ∧ ((F_X5_loaded (mW mb s1 (nI l1.1)) (nI i)).bind (fun z6 => (F_X5_writesNumber (mW mb s1 (nI l1.1)) z6).bind (fun z7 => (F_X5_strains z7 (nI i)).bind (fun z8 => if (bi z8) = 0 then F_X5_writeBridge_L12 (fun b10 _ => some (M_signMany b10, b10)) fu2 z7 (nI i + 1) else (F_X5_writes z7 33).bind (fun z9 => F_X5_writeBridge_L12 (fun b10 _ => some (M_signMany b10, b10)) fu2 z9 (nI i + 1)))))) = some (nI ln'.1, mW mb sg' (nI ln'.1)) ∧ LR ln' sg' ∧ ln'.1 ≤ 200 := by
      intro l1 s1 hL1 hw1
      obtain ⟨l2, s2, e1, e2, e3, e4⟩ := num_both (mb := mb) (v := ld S i) hL1 (by omega) (by omega)
      have eS : F_X0_strains (toB S) (nI i) = some (stn S i) := c_strains hI (by omega)
      have eSm : F_X5_strains (mW mb s2 (nI l2.1)) (nI i) = some (stn S i) := m_strains hI (hgw _ _) (by omega)
      by_cases c : stn S i = true
      · obtain ⟨l3, s3, f1, f2, f3, f4⟩ := ch_both (mb := mb) (a := 33) e3 (by omega) (by omega)
        obtain ⟨l4, s4, g1, g2, g3, g4⟩ := ih fu fu2 (i + 1) l3 s3 (by omega) (by omega) (by omega) f3 (by omega)
        refine ⟨l4, s4, ?_, ?_, g3, g4⟩
        · refine gb (c_ld hI (by omega)) (gb e1 (gb eS ?_))
          rw [c]
          refine gb (gn bt1 f1) ?_
          rw [add1]; exact g1
        · refine gb (m_loaded hI (hgw _ _) (by omega)) (gb e2 (gb eSm ?_))
          rw [c]
          refine gn bt1 (gb f2 ?_)
          rw [add1]; exact g2
      · have c : stn S i = false := by simpa using c
        obtain ⟨l4, s4, g1, g2, g3, g4⟩ := ih fu fu2 (i + 1) l2 s2 (by omega) (by omega) (by omega) e3 (by omega)
        refine ⟨l4, s4, ?_, ?_, g3, g4⟩
        · refine gb (c_ld hI (by omega)) (gb e1 (gb eS ?_))
          rw [c]
          refine gb (gp rfl rfl) ?_
          rw [add1]; exact g1
        · refine gb (m_loaded hI (hgw _ _) (by omega)) (gb e2 (gb eSm ?_))
          rw [c]
          refine gp rfl ?_
          rw [add1]; exact g2
    by_cases c0 : i = 0
    · obtain ⟨l4, s4, g1, g2, g3, g4⟩ := rest ln sg hL (by omega)
      have h0 : nI i ≤ 0 := by rw [c0]; decide
      refine ⟨l4, s4, ?_, ?_, g3, g4⟩
      · unfold F_X4_writeBridge_L10
        exact gn eC0 (gb (gp h0 rfl) g1)
      · unfold F_X5_writeBridge_L12
        exact gk ub_0 (gn (eM0 _ _) (gp h0 g2))
    · obtain ⟨l1, s1, e1, e2, e3, e4⟩ := ch_both (mb := mb) (a := 124) hL (by omega) (by omega)
      obtain ⟨l4, s4, g1, g2, g3, g4⟩ := rest l1 s1 e3 (by omega)
      have h0 : ¬ nI i ≤ 0 := nI_nle (by omega) (by omega)
      refine ⟨l4, s4, ?_, ?_, g3, g4⟩
      · unfold F_X4_writeBridge_L10
        exact gn eC0 (gb (gn h0 e1) g1)
      · unfold F_X5_writeBridge_L12
        exact gk ub_0 (gn (eM0 _ _) (gn h0 (gb e2 g2)))
theorem op_writeBridge (hR : Rel H x b t sn h tx ln mo) (hH : H + 800 ≤ 900000) : ∃ z zm, F_X4_writeBridge x b ln = some z ∧ F_X5_writeBridge mo = some (z.1, zm) ∧ Rel (H + 800) x b t sn h tx z.2 zm := by
  obtain ⟨⟨S, rfl, hI, hg⟩, -⟩ := id hR
  obtain ⟨l4, s4, g1, g2, g3, g4⟩ := bridge_L (mb := m_code mo 0) hI (by rw [r_g_code]; exact hg) (s_n S) 1000 1000 0 (0, ln.2) (M_signs mo) (by omega) (by have := hI.1.1; omega) (by have := hI.1.1; omega) (fun i hi => absurd hi (Nat.not_lt_zero _)) (by have := hI.1.1; show 0 + _ ≤ 200; omega)
  refine ⟨(nI l4.1, l4), mW (m_code mo 0) s4 (nI l4.1), g1, ?_, hR.Wc hH g3 g4⟩
  unfold F_X5_writeBridge
  have e0 : mkM (M_g mo) (M_kept mo) (M_saved mo) (M_before mo) (M_trial mo) (M_counted mo) (M_isSaved mo) (M_changes mo) (M_isWithin mo) (M_isDenied mo) 0 (M_why mo) (M_detail mo) (M_cause mo) (M_input mo) (M_length mo) (M_fault mo) (M_signs mo) 0 (M_lastOver mo) (M_at mo) (M_told mo) (M_toldMany mo) = mW (m_code mo 0) (M_signs mo) (nI 0) := by
    unfold mW
    simp only [r_g_code, r_kept_code, r_saved_code, r_before_code, r_trial_code, r_counted_code, r_isSaved_code, r_changes_code, r_isWithin_code, r_isDenied_code, r_code_code, r_why_code, r_detail_code, r_cause_code, r_input_code, r_length_code, r_fault_code, r_signs_code, r_signMany_code, r_lastOver_code, r_at_code, r_told_code, r_toldMany_code]
    rfl
  rw [e0]
  exact g2
theorem isch_nI {a : Nat} (ha : a < 256) : isch (nI a) = true := by
  unfold isch
  refine decide_eq_true ?_
  rw [pk_char, pk_tn (by omega), Nat.mod_eq_of_lt (by omega)]
theorem op_lineCharacter (hR : Rel H x b t sn h tx ln mo) (hH : H + 800 ≤ 900000) (p : Int32) : ∃ z zm, F_X4_lineCharacter x b ln p = some z ∧ F_X5_lineCharacter mo p = some zm ∧ R1 ["java/lang/IndexOutOfBoundsException"] z zm ∧ Rel (H + 800) x b t sn h tx ln zm.2 := by
  obtain ⟨-, -, -, -, -, -, -, -, -, ⟨n1, n2, n3⟩⟩ := id hR
  have key : ∀ p : Int32, p < 0 ∨ nI ln.1 ≤ p → F_X4_lineCharacter x b ln p = some (.inr "java/lang/IndexOutOfBoundsException") ∧ F_X5_lineCharacter mo p = some (32, mF mo 1) := by
    intro p hp
    have hin : F_X5_in p 0 (M_signMany mo - 1) = some false := by
      refine in_f ?_
      rcases hp with hp | hp
      · exact Or.inl hp
      · refine Or.inr ?_
        rw [Int32.le_iff_toInt_le, nI_toInt (by omega)] at hp
        rw [Int32.lt_iff_toInt_lt, n2, l_1, pk_sub_toInt (by omega) (by omega)]
        omega
    refine ⟨?_, ?_⟩
    · unfold F_X4_lineCharacter
      by_cases c : p < 0
      · rw [if_pos c]
      · rw [if_neg c, if_neg (fun z => nle_lt z (hp.resolve_left c))]
    · unfold F_X5_lineCharacter
      exact gb hin (gp rfl (gb (fails_1 mo) (gn bt1 rfl)))
  have out : F_X4_lineCharacter x b ln p = some (.inr "java/lang/IndexOutOfBoundsException") ∧ F_X5_lineCharacter mo p = some (32, mF mo 1) → ∃ z zm, F_X4_lineCharacter x b ln p = some z ∧ F_X5_lineCharacter mo p = some zm ∧ R1 ["java/lang/IndexOutOfBoundsException"] z zm ∧ Rel (H + 800) x b t sn h tx ln zm.2 := by
    intro ⟨e1, e2⟩
    refine ⟨_, _, e1, e2, ⟨?_, ?_⟩, hR.F hH 1⟩
    · rw [w_mF_code]; decide
    · rw [w_mF_code]; decide
  rcases pk_ix p (n := ln.1) (by omega) with hp | hp | ⟨i, hi, rfl⟩
  · exact out (key p (Or.inl hp))
  · exact out (key p (Or.inr hp))
  · obtain ⟨k1, k2⟩ := n3 i hi
    refine ⟨.inl (nI (ln.2 i)), (nI (ln.2 i), mF mo 0), ?_, ?_, ⟨w_mF_code _ _, rfl⟩, hR.F hH 0⟩
    · unfold F_X4_lineCharacter
      refine gn (nI_pos (by omega)) (gp (nI_lt hi (by omega)) ?_)
      rw [nI_clamp (by omega)]
      exact gk (decide_eq_true hi) rfl
    · have hin : F_X5_in (nI i) 0 (M_signMany mo - 1) = some true := by
        rw [n2, sub1 (by omega)]
        exact in_t (a := 0) (Nat.zero_le _) (by omega) (by omega)
      unfold F_X5_lineCharacter
      refine gb hin (gn bt1 (gb (fails_0 mo) (gp rfl (gk (inb_nI (by omega) (by omega)) ?_))))
      rw [w_mF_signs, nI_clamp (by omega), k2]
      exact gk (isch_nI k1) rfl
end LINE
