/-! the reference: an hour -/
theorem sub1 {n : Nat} (h : 1 ≤ n) : nI n - 1 = nI (n - 1) := pk_sub h
theorem add1 (n : Nat) : nI n + 1 = nI (n + 1) := nI_add n 1
theorem m_toll {H : Nat} {S : Br} {mo : Mv} (hI : Iv H S) (h : RG (M_g mo) S) {j : Nat} (hj : j < s_v S) : F_X5_toll mo (nI (s_W S j)) = some (nI (tol S j)) := by
  have h1 := tol_le hI hj
  unfold F_X5_toll
  rw [ub_4, ck_tt, zc_4, h.1.2.2.2.2.1, l_10, nz_nI (by omega) (by omega), ck_tt, pk_mul, l_9, nI_add, pk_div (by omega) (by omega) (by omega)]
  rfl
theorem m_beh_f {S : Br} {mo : Mv} (h : RG (M_g mo) S) (hv : s_v S ≤ 8) {q : Nat} (hq : q < s_v S) (hP : ∀ j, j < s_v S → s_P S j < 2 ^ 31) (K : Int32 → Option Bool) : ∀ (r fu i j : Nat), i + r = q → r < fu → i ≤ j → j < q → s_P S j = s_P S q → F_X5_isBehind_L2 mo (nI q) K fu (nI i) = some true := by
  intro r
  induction r with
  | zero => intro fu i j h1 h2 h3 h4; omega
  | succ r ih =>
    intro fu i j hi hr h3 h4 h5
    obtain ⟨fu, rfl⟩ : ∃ f2, fu = f2 + 1 := ⟨fu - 1, by omega⟩
    have hPi := hP i (by omega)
    have hPq := hP q hq
    unfold F_X5_isBehind_L2
    rw [if_neg (nI_ge (by omega) (by omega)), on_P h hv (by omega), Option.bind_some, on_P h hv hq, Option.bind_some]
    by_cases c : s_P S i = s_P S q
    · rw [if_neg (fun z => z (congrArg nI c))]
    · have : i ≠ j := fun z => c (z ▸ h5)
      rw [if_pos (fun z => c ((nI_eq (by omega) (by omega)).mp z)), l_1, nI_add]
      exact ih fu (i + 1) j (by omega) (by omega) (by omega) h4 h5
theorem m_beh_t {S : Br} {mo : Mv} (h : RG (M_g mo) S) (hv : s_v S ≤ 8) {q : Nat} (hq : q < s_v S) (hP : ∀ j, j < s_v S → s_P S j < 2 ^ 31) (K : Int32 → Option Bool) : ∀ (r fu i : Nat), i + r = q → r < fu → (∀ j, i ≤ j → j < q → s_P S j ≠ s_P S q) → F_X5_isBehind_L2 mo (nI q) K fu (nI i) = K (nI q) := by
  intro r
  induction r with
  | zero =>
    intro fu i hi hr _
    obtain ⟨fu, rfl⟩ : ∃ f2, fu = f2 + 1 := ⟨fu - 1, by omega⟩
    have : i = q := by omega
    subst this
    unfold F_X5_isBehind_L2
    rw [if_pos (nI_le (Nat.le_refl _) (by omega))]
  | succ r ih =>
    intro fu i hi hr h5
    obtain ⟨fu, rfl⟩ : ∃ f2, fu = f2 + 1 := ⟨fu - 1, by omega⟩
    have hPi := hP i (by omega)
    have hPq := hP q hq
    have c := h5 i (Nat.le_refl _) (by omega)
    unfold F_X5_isBehind_L2
    rw [if_neg (nI_ge (by omega) (by omega)), on_P h hv (by omega), Option.bind_some, on_P h hv hq, Option.bind_some, if_pos (fun z => c ((nI_eq (by omega) (by omega)).mp z)), l_1, nI_add]
    exact ih fu (i + 1) (by omega) (by omega) (fun j h1 h2 => h5 j (by omega) h2)
def mG (x : Mv) (y : Nat → Int32) (lo : Int32) (ct : Nat → Int32) : Mv := mkM (y) (M_kept x) (M_saved x) (M_before x) (M_trial x) (ct) (M_isSaved x) (M_changes x) (M_isWithin x) (M_isDenied x) (M_code x) (M_why x) (M_detail x) (M_cause x) (M_input x) (M_length x) (M_fault x) (M_signs x) (M_signMany x) (lo) (M_at x) (M_told x) (M_toldMany x)
theorem w_mG_g (x : Mv) (y : Nat → Int32) (lo : Int32) (ct : Nat → Int32) : M_g (mG x y lo ct) = y := rfl
theorem w_mG_kept (x : Mv) (y : Nat → Int32) (lo : Int32) (ct : Nat → Int32) : M_kept (mG x y lo ct) = M_kept x := rfl
theorem w_mG_saved (x : Mv) (y : Nat → Int32) (lo : Int32) (ct : Nat → Int32) : M_saved (mG x y lo ct) = M_saved x := rfl
theorem w_mG_before (x : Mv) (y : Nat → Int32) (lo : Int32) (ct : Nat → Int32) : M_before (mG x y lo ct) = M_before x := rfl
theorem w_mG_trial (x : Mv) (y : Nat → Int32) (lo : Int32) (ct : Nat → Int32) : M_trial (mG x y lo ct) = M_trial x := rfl
theorem w_mG_counted (x : Mv) (y : Nat → Int32) (lo : Int32) (ct : Nat → Int32) : M_counted (mG x y lo ct) = ct := rfl
theorem w_mG_isSaved (x : Mv) (y : Nat → Int32) (lo : Int32) (ct : Nat → Int32) : M_isSaved (mG x y lo ct) = M_isSaved x := rfl
theorem w_mG_changes (x : Mv) (y : Nat → Int32) (lo : Int32) (ct : Nat → Int32) : M_changes (mG x y lo ct) = M_changes x := rfl
theorem w_mG_isWithin (x : Mv) (y : Nat → Int32) (lo : Int32) (ct : Nat → Int32) : M_isWithin (mG x y lo ct) = M_isWithin x := rfl
theorem w_mG_isDenied (x : Mv) (y : Nat → Int32) (lo : Int32) (ct : Nat → Int32) : M_isDenied (mG x y lo ct) = M_isDenied x := rfl
theorem w_mG_code (x : Mv) (y : Nat → Int32) (lo : Int32) (ct : Nat → Int32) : M_code (mG x y lo ct) = M_code x := rfl
theorem w_mG_why (x : Mv) (y : Nat → Int32) (lo : Int32) (ct : Nat → Int32) : M_why (mG x y lo ct) = M_why x := rfl
theorem w_mG_detail (x : Mv) (y : Nat → Int32) (lo : Int32) (ct : Nat → Int32) : M_detail (mG x y lo ct) = M_detail x := rfl
theorem w_mG_cause (x : Mv) (y : Nat → Int32) (lo : Int32) (ct : Nat → Int32) : M_cause (mG x y lo ct) = M_cause x := rfl
theorem w_mG_input (x : Mv) (y : Nat → Int32) (lo : Int32) (ct : Nat → Int32) : M_input (mG x y lo ct) = M_input x := rfl
theorem w_mG_length (x : Mv) (y : Nat → Int32) (lo : Int32) (ct : Nat → Int32) : M_length (mG x y lo ct) = M_length x := rfl
theorem w_mG_fault (x : Mv) (y : Nat → Int32) (lo : Int32) (ct : Nat → Int32) : M_fault (mG x y lo ct) = M_fault x := rfl
theorem w_mG_signs (x : Mv) (y : Nat → Int32) (lo : Int32) (ct : Nat → Int32) : M_signs (mG x y lo ct) = M_signs x := rfl
theorem w_mG_signMany (x : Mv) (y : Nat → Int32) (lo : Int32) (ct : Nat → Int32) : M_signMany (mG x y lo ct) = M_signMany x := rfl
theorem w_mG_lastOver (x : Mv) (y : Nat → Int32) (lo : Int32) (ct : Nat → Int32) : M_lastOver (mG x y lo ct) = lo := rfl
theorem w_mG_at (x : Mv) (y : Nat → Int32) (lo : Int32) (ct : Nat → Int32) : M_at (mG x y lo ct) = M_at x := rfl
theorem w_mG_told (x : Mv) (y : Nat → Int32) (lo : Int32) (ct : Nat → Int32) : M_told (mG x y lo ct) = M_told x := rfl
theorem w_mG_toldMany (x : Mv) (y : Nat → Int32) (lo : Int32) (ct : Nat → Int32) : M_toldMany (mG x y lo ct) = M_toldMany x := rfl
/-- the number of the latest vehicle that crosses -/
def lov : Nat → Br → Nat → Int32 → Int32
  | 0, _, _, lo => lo
  | r + 1, S, k, lo => if s_P S k + 1 = s_n S then lov r (xsS S k) k (nI (s_N S k)) else if may S k = true then lov r (mvS S k) (k + 1) lo else lov r S (k + 1) lo
theorem drv_1 {r k : Nat} {S : Br} (c : s_P S k + 1 = s_n S) : drv (r + 1) S k = drv r (xsS S k) k := if_pos c
theorem drv_2 {r k : Nat} {S : Br} (c : ¬ s_P S k + 1 = s_n S) (c2 : may S k = true) : drv (r + 1) S k = drv r (mvS S k) (k + 1) := (if_neg c).trans (if_pos c2)
theorem drv_3 {r k : Nat} {S : Br} (c : ¬ s_P S k + 1 = s_n S) (c2 : ¬ may S k = true) : drv (r + 1) S k = drv r S (k + 1) := (if_neg c).trans (if_neg c2)
theorem lov_1 {r k : Nat} {S : Br} {lo : Int32} (c : s_P S k + 1 = s_n S) : lov (r + 1) S k lo = lov r (xsS S k) k (nI (s_N S k)) := if_pos c
theorem lov_2 {r k : Nat} {S : Br} {lo : Int32} (c : ¬ s_P S k + 1 = s_n S) (c2 : may S k = true) : lov (r + 1) S k lo = lov r (mvS S k) (k + 1) lo := (if_neg c).trans (if_pos c2)
theorem lov_3 {r k : Nat} {S : Br} {lo : Int32} (c : ¬ s_P S k + 1 = s_n S) (c2 : ¬ may S k = true) : lov (r + 1) S k lo = lov r S (k + 1) lo := (if_neg c).trans (if_neg c2)
theorem drv_cr : ∀ (r : Nat) (S : Br) (k : Nat), s_cr S ≤ s_cr (drv r S k) := by
  intro r
  induction r with
  | zero => intro S k; exact Nat.le_refl _
  | succ r ih =>
    intro S k
    unfold drv
    by_cases c : s_P S k + 1 = s_n S
    · rw [if_pos c]
      have := ih (xsS S k) k
      rw [p_xsS_cr] at this
      omega
    · rw [if_neg c]
      by_cases c2 : may S k = true
      · rw [if_pos c2]
        have := ih (mvS S k) (k + 1)
        rw [p_mvS_cr] at this
        exact this
      · rw [if_neg c2]; exact ih S (k + 1)
theorem RG_pay {g : Nat → Int32} {S : Br} (h : RG g S) (j : Nat) : RG (upd (upd (upd g 5 (nI (s_tl S + tol S j))) 6 (nI (s_pd S + tol S j))) 7 (nI (s_cr S + 1))) (pay S j) := by
  have h1 := RG_cr (RG_pd (RG_tl h (s_tl S + tol S j)) (s_pd S + tol S j)) (s_cr S + 1)
  unfold RG at h1 ⊢
  simp only [q_n_cr, q_L_cr, q_J_cr, q_A_cr, q_K_cr, q_T_cr, q_v_cr, q_N_cr, q_W_cr, q_P_cr, q_nx_cr, q_hr_cr, q_rt_cr, q_tl_cr, q_pd_cr, q_cr_cr, q_sk_cr, q_n_pd, q_L_pd, q_J_pd, q_A_pd, q_K_pd, q_T_pd, q_v_pd, q_N_pd, q_W_pd, q_P_pd, q_nx_pd, q_hr_pd, q_rt_pd, q_tl_pd, q_pd_pd, q_cr_pd, q_sk_pd, q_n_tl, q_L_tl, q_J_tl, q_A_tl, q_K_tl, q_T_tl, q_v_tl, q_N_tl, q_W_tl, q_P_tl, q_nx_tl, q_hr_tl, q_rt_tl, q_tl_tl, q_pd_tl, q_cr_tl, q_sk_tl] at h1
  simp only [p_pay_n, p_pay_L, p_pay_J, p_pay_A, p_pay_K, p_pay_T, p_pay_v, p_pay_N, p_pay_W, p_pay_P, p_pay_nx, p_pay_hr, p_pay_rt, p_pay_tl, p_pay_pd, p_pay_cr, p_pay_sk]
  exact h1
theorem RG_mv {g : Nat → Int32} {S : Br} (h : RG g S) (hn : s_n S ≤ 10) {k : Nat} (hk : k < s_v S) : RG (upd g (59 + 3 * k + 2) (nI (s_P S k + 1))) (mvS S k) := by
  have h1 := RG_P h hn (s_P S k + 1) hk
  unfold RG at h1 ⊢
  simp only [q_n_P, q_L_P, q_J_P, q_A_P, q_K_P, q_T_P, q_v_P, q_N_P, q_W_P, q_P_P, q_nx_P, q_hr_P, q_rt_P, q_tl_P, q_pd_P, q_cr_P, q_sk_P] at h1
  simp only [p_mvS_n, p_mvS_L, p_mvS_J, p_mvS_A, p_mvS_K, p_mvS_T, p_mvS_v, p_mvS_N, p_mvS_W, p_mvS_P, p_mvS_nx, p_mvS_hr, p_mvS_rt, p_mvS_tl, p_mvS_pd, p_mvS_cr, p_mvS_sk]
  exact h1
theorem m_drives_L {H : Nat} (K : Mv → Int32 → Option (Int32 × Mv)) : ∀ (r fu k c : Nat) (S : Br) (mo : Mv), Iv H S → RG (M_g mo) S → k + r = s_v S → r < fu → ∃ g', RG g' (drv r S k) ∧ F_X5_drives_L4 (fun b x _ => K b x) fu mo (nI c) (nI k) = K (mG mo g' (lov r S k (M_lastOver mo)) (M_counted mo)) (nI (c + (s_cr (drv r S k) - s_cr S))) := by
  intro r
  induction r with
  | zero =>
    intro fu k c S mo hI h hk hr
    obtain ⟨fu, rfl⟩ : ∃ f2, fu = f2 + 1 := ⟨fu - 1, by omega⟩
    have hv := hI.1.2.1
    refine ⟨M_g mo, h, ?_⟩
    unfold F_X5_drives_L4 drv lov
    rw [ub_1, ck_tt, zc_1, h.1.2.1, if_pos (nI_le (by omega) (by omega)), Nat.sub_self]
    rfl
  | succ r ih =>
    intro fu k c S mo hI h hk hr
    obtain ⟨fu, rfl⟩ : ∃ f2, fu = f2 + 1 := ⟨fu - 1, by omega⟩
    have hv := hI.1.2.1
    have hn := hI.1.1
    have hp := (hI.2.2.1 k (by omega)).2.2.1
    have hw := (hI.2.2.1 k (by omega)).2.1
    have hk9 : k < s_v S := by omega
    have hP : ∀ j, j < s_v S → s_P S j < 2 ^ 31 := fun j hj => by have := (hI.2.2.1 j hj).2.2.1; omega
    unfold F_X5_drives_L4
    rw [ub_1, ck_tt, zc_1, h.1.2.1, if_neg (nI_ge (by omega) (by omega)), on_P h hv hk9, Option.bind_some, ub_0, ck_tt, zc_0, h.1.1, sub1 (by omega)]
    by_cases c1 : s_P S k + 1 = s_n S
    · rw [drv_1 c1, lov_1 c1, if_neg (fun z => z (congrArg nI (by omega))), on_W h hv hk9, Option.bind_some, m_toll hI h hk9, Option.bind_some, ub_5, ub_6, ub_7, ck_tt, ck_tt, ck_tt, ck_tt, ck_tt, ck_tt, zc_5, zc_6, zc_7, h.1.2.2.2.2.2.1, nI_add, pk_un (show (6 : Nat) ≠ 5 by omega), h.1.2.2.2.2.2.2.1, nI_add, pk_un (show (7 : Nat) ≠ 6 by omega), pk_un (show (7 : Nat) ≠ 5 by omega), h.1.2.2.2.2.2.2.2.1, add1, mkM_g]
      have hR := RG_pay h k
      have hN := on_N (mo := m_g mo (upd (upd (upd (M_g mo) 5 (nI (s_tl S + tol S k))) 6 (nI (s_pd S + tol S k))) 7 (nI (s_cr S + 1)))) (S := pay S k) (by rw [r_g_g]; exact hR) (by rw [p_pay_v]; exact hv) (k := k) (by rw [p_pay_v]; exact hk9)
      rw [p_pay_N] at hN
      rw [hN, Option.bind_some]
      have e0 : ∀ (y : Nat → Int32), mkM y (M_kept mo) (M_saved mo) (M_before mo) (M_trial mo) (M_counted mo) (M_isSaved mo) (M_changes mo) (M_isWithin mo) (M_isDenied mo) (M_code mo) (M_why mo) (M_detail mo) (M_cause mo) (M_input mo) (M_length mo) (M_fault mo) (M_signs mo) (M_signMany mo) (nI (s_N S k)) (M_at mo) (M_told mo) (M_toldMany mo) = mG mo y (nI (s_N S k)) (M_counted mo) := fun y => rfl
      rw [e0]
      have hD := m_drops (mo := mG mo (upd (upd (upd (M_g mo) 5 (nI (s_tl S + tol S k))) 6 (nI (s_pd S + tol S k))) 7 (nI (s_cr S + 1))) (nI (s_N S k)) (M_counted mo)) (v := s_v S) hv hk9 (by rw [w_mG_g, pk_un (by omega), pk_un (by omega), pk_un (by omega)]; exact h.1.2.1)
      rw [w_mG_g] at hD
      rw [hD, Option.bind_some]
      have hR2 := RG_drop hR (by rw [p_pay_n]; exact hn) (q := k) (by rw [p_pay_v]; exact hk9)
      rw [p_pay_v, xs_e] at hR2
      obtain ⟨g', hg', h9⟩ := ih fu k (c + 1) (xsS S k) (m_g (mG mo (upd (upd (upd (M_g mo) 5 (nI (s_tl S + tol S k))) 6 (nI (s_pd S + tol S k))) 7 (nI (s_cr S + 1))) (nI (s_N S k)) (M_counted mo)) (drG (upd (upd (upd (M_g mo) 5 (nI (s_tl S + tol S k))) 6 (nI (s_pd S + tol S k))) 7 (nI (s_cr S + 1))) k (s_v S - 1))) (Iv_cross hI hk9) (by rw [r_g_g]; exact hR2) (by rw [p_xsS_v]; omega) (by omega)
      refine ⟨g', hg', ?_⟩
      have e2 : c + (s_cr (drv r (xsS S k) k) - s_cr S) = c + 1 + (s_cr (drv r (xsS S k) k) - s_cr (xsS S k)) := by
        have := drv_cr r (xsS S k) k
        rw [p_xsS_cr] at this ⊢
        omega
      rw [e2, add1]
      refine h9.trans ?_
      unfold mG
      simp only [r_g_g, r_kept_g, r_saved_g, r_before_g, r_trial_g, r_counted_g, r_isSaved_g, r_changes_g, r_isWithin_g, r_isDenied_g, r_code_g, r_why_g, r_detail_g, r_cause_g, r_input_g, r_length_g, r_fault_g, r_signs_g, r_signMany_g, r_lastOver_g, r_at_g, r_told_g, r_toldMany_g, w_mG_g, w_mG_kept, w_mG_saved, w_mG_before, w_mG_trial, w_mG_counted, w_mG_isSaved, w_mG_changes, w_mG_isWithin, w_mG_isDenied, w_mG_code, w_mG_why, w_mG_detail, w_mG_cause, w_mG_input, w_mG_length, w_mG_fault, w_mG_signs, w_mG_signMany, w_mG_lastOver, w_mG_at, w_mG_told, w_mG_toldMany, M_g_mk, M_kept_mk, M_saved_mk, M_before_mk, M_trial_mk, M_counted_mk, M_isSaved_mk, M_changes_mk, M_isWithin_mk, M_isDenied_mk, M_code_mk, M_why_mk, M_detail_mk, M_cause_mk, M_input_mk, M_length_mk, M_fault_mk, M_signs_mk, M_signMany_mk, M_lastOver_mk, M_at_mk, M_told_mk, M_toldMany_mk]
    · rw [if_pos (fun z => c1 (by have := (nI_eq (by omega) (by omega)).mp z; omega))]
      by_cases c2 : ∀ j, j < k → s_P S j ≠ s_P S k
      · have hb : F_X5_isBehind mo (nI k) = some false := m_beh_t h hv hk9 hP _ k 1000 0 (by omega) (by omega) (fun j _ h => c2 j h)
        have hld := hI.ldb (s_P S k + 1)
        have hst := hI.strb (k := s_P S k + 1) (by omega)
        rw [hb, Option.bind_some, if_neg (fun z => z rfl), add1, m_loaded hI h (by omega), Option.bind_some, on_W h hv hk9, Option.bind_some, m_strong hI h (by omega), Option.bind_some, nI_add, add1]
        by_cases c3 : ld S (s_P S k + 1) + s_W S k ≤ str S (s_P S k + 1)
        · have hm : may S k = true := decide_eq_true ⟨c2, c3⟩
          rw [drv_2 c1 hm, lov_2 c1 hm, if_neg (nI_nlt c3 (by omega)), l_59, l_3, pk_mul, nI_add, l_2, nI_add, inb_nI (by omega) (by omega), ck_tt, nI_clamp (by omega), mkM_g]
          obtain ⟨g', hg', h9⟩ := ih fu (k + 1) c (mvS S k) (m_g mo (upd (M_g mo) (59 + 3 * k + 2) (nI (s_P S k + 1)))) (Iv_mv hI hk9 c1 c2) (by rw [r_g_g]; exact RG_mv h hn hk9) (by rw [p_mvS_v]; omega) (by omega)
          refine ⟨g', hg', ?_⟩
          rw [p_mvS_cr] at h9
          refine h9.trans ?_
          unfold mG
          simp only [r_g_g, r_kept_g, r_saved_g, r_before_g, r_trial_g, r_counted_g, r_isSaved_g, r_changes_g, r_isWithin_g, r_isDenied_g, r_code_g, r_why_g, r_detail_g, r_cause_g, r_input_g, r_length_g, r_fault_g, r_signs_g, r_signMany_g, r_lastOver_g, r_at_g, r_told_g, r_toldMany_g]
        · have hm : ¬ may S k = true := fun z => c3 (of_decide_eq_true z).2
          rw [drv_3 c1 hm, lov_3 c1 hm, if_pos (nI_lt (by omega) (by omega))]
          obtain ⟨g', hg', h9⟩ := ih fu (k + 1) c S mo hI h (by omega) (by omega)
          exact ⟨g', hg', h9⟩
      · obtain ⟨j, hj⟩ : ∃ j, j < k ∧ s_P S j = s_P S k := by
          refine Classical.byContradiction fun z => c2 fun j hj he => z ⟨j, hj, he⟩
        have hb : F_X5_isBehind mo (nI k) = some true := m_beh_f h hv hk9 hP _ k 1000 0 j (by omega) (by omega) (by omega) hj.1 hj.2
        have hm : ¬ may S k = true := fun z => c2 (of_decide_eq_true z).1
        rw [drv_3 c1 hm, lov_3 c1 hm, hb, Option.bind_some, if_pos (by decide), add1]
        obtain ⟨g', hg', h9⟩ := ih fu (k + 1) c S mo hI h (by omega) (by omega)
        exact ⟨g', hg', h9⟩
theorem m_drives {H : Nat} {S : Br} {mo : Mv} (hI : Iv H S) (h : RG (M_g mo) S) : ∃ g', RG g' (drv (s_v S) S 0) ∧ F_X5_drives mo = some (nI (s_cr (drv (s_v S) S 0) - s_cr S), mG mo g' (lov (s_v S) S 0 (M_lastOver mo)) (M_counted mo)) := by
  obtain ⟨g', h1, h2⟩ := m_drives_L (fun b x => some (x, b)) (s_v S) 1000 0 0 S mo hI h (by omega) (by have := hI.1.2.1; omega)
  refine ⟨g', h1, ?_⟩
  rw [Nat.zero_add] at h2
  exact h2
theorem ss_n1 {S : Br} {i t k : Nat} (ht : t = tF S i) (hk : k = kF S i) : ss S (i + 1) = st_T (st_K (ss S i) (uN (s_K (ss S i)) i k)) (uN (s_T (ss S i)) i t) := by
  unfold ss st_T st_K
  simp only [s_n_mk, s_L_mk, s_J_mk, s_A_mk, s_K_mk, s_T_mk, s_v_mk, s_N_mk, s_W_mk, s_P_mk, s_nx_mk, s_hr_mk, s_rt_mk, s_tl_mk, s_pd_mk, s_cr_mk, s_sk_mk]
  rw [pre_s _ _ _ ht, pre_s _ _ _ hk]
theorem ss_n2 {S : Br} {i t : Nat} (ht : t = tF S i) (hk : kF S i = s_K S i) : ss S (i + 1) = st_T (ss S i) (uN (s_T (ss S i)) i t) := by
  unfold ss st_T
  simp only [s_n_mk, s_L_mk, s_J_mk, s_A_mk, s_K_mk, s_T_mk, s_v_mk, s_N_mk, s_W_mk, s_P_mk, s_nx_mk, s_hr_mk, s_rt_mk, s_tl_mk, s_pd_mk, s_cr_mk, s_sk_mk]
  rw [pre_s _ _ _ ht, pre_k _ _ _ hk]
theorem m_stress1 {H : Nat} {S : Br} {mo : Mv} (hI : Iv H S) {i : Nat} (h : RG (M_g mo) (ss S i)) (hi : i < s_n S) : ∃ g', RG g' (ss S (i + 1)) ∧ F_X5_stresses mo (nI i) = some (m_g mo g') := by
  have hn := hI.1.1
  have hI2 := Iv_ss hI i
  obtain ⟨b1, b2, b3, b4, b5, b6⟩ := hI.2.1 i hi
  have hn2 : s_n (ss S i) ≤ 10 := by rw [p_ss_n]; exact hn
  have hi2 : i < s_n (ss S i) := by rw [p_ss_n]; exact hi
  have eT : s_T (ss S i) i = s_T S i := by rw [p_ss_T, pre_i _ _ (Nat.le_refl _)]
  have eK : s_K (ss S i) i = s_K S i := by rw [p_ss_K, pre_i _ _ (Nat.le_refl _)]
  unfold F_X5_stresses
  rw [m_strains hI2 h hi2, Option.bind_some, ss_stn]
  by_cases c : stn S i = true
  · have ht : tN S i = s_T S i + 1 := by unfold tN; rw [if_pos c]
    rw [c, if_neg (by decide), of_T h hn2 hi2, Option.bind_some, eT, l_1, nI_add]
    by_cases c3 : s_T S i + 1 = 3
    · have ht3 : tF S i = 0 := by unfold tF; rw [ht, if_pos c3]
      rw [if_neg (show ¬ ¬ nI (s_T S i + 1) = 3 from fun z => z (congrArg nI c3)), of_K h hn2 hi2, Option.bind_some, eK]
      by_cases c9 : s_K S i < 9
      · have hk : kF S i = s_K S i + 1 := by unfold kF; rw [ht, if_pos ⟨c3, c9⟩]
        have hR1 := RG_K h hn2 (s_K S i + 1) hi2
        have hR2 := RG_T hR1 (by rw [q_n_K]; exact hn2) 0 (by rw [q_n_K]; exact hi2)
        rw [q_T_K, ← ss_n1 ht3.symm hk.symm] at hR2
        refine ⟨_, hR2, ?_⟩
        rw [if_neg (show ¬ (9 : Int32) ≤ nI (s_K S i) from (show ¬ nI 9 ≤ nI (s_K S i) from nI_ge (by omega) (by omega))), Option.bind_some, nI_add, lays_K mo (by omega), Option.bind_some, lays_T _ (by omega), Option.bind_some, r_g_g, mm_g]
        rfl
      · have hk : kF S i = s_K S i := by unfold kF; rw [if_neg (fun z => c9 z.2)]
        have hR2 := RG_T h hn2 0 hi2
        rw [← ss_n2 ht3.symm hk] at hR2
        refine ⟨_, hR2, ?_⟩
        rw [if_pos (show (9 : Int32) ≤ nI (s_K S i) from (show nI 9 ≤ nI (s_K S i) from nI_le (by omega) (by omega))), lays_T _ (by omega), Option.bind_some]
        rfl
    · have ht3 : tF S i = s_T S i + 1 := by unfold tF; rw [ht, if_neg c3]
      have hk : kF S i = s_K S i := by unfold kF; rw [ht, if_neg (fun z => c3 z.1)]
      have hR2 := RG_T h hn2 (s_T S i + 1) hi2
      rw [← ss_n2 ht3.symm hk] at hR2
      refine ⟨_, hR2, ?_⟩
      rw [if_pos (show ¬ nI (s_T S i + 1) = 3 from fun z => c3 ((nI_eq (by omega) (by omega)).mp (show nI (s_T S i + 1) = nI 3 from z))), lays_T _ (by omega), Option.bind_some]
  · have c : stn S i = false := by simpa using c
    have ht : tN S i = 0 := by unfold tN; rw [c]; rfl
    have ht3 : tF S i = 0 := by unfold tF; rw [ht]; rfl
    have hk : kF S i = s_K S i := by unfold kF; rw [ht, if_neg (fun z => absurd z.1 (by decide))]
    have hR2 := RG_T h hn2 0 hi2
    rw [← ss_n2 ht3.symm hk] at hR2
    refine ⟨_, hR2, ?_⟩
    rw [c, if_pos (by decide), if_pos (by decide), lays_T _ (by omega), Option.bind_some]
    rfl
theorem m_stress_L {H : Nat} {S : Br} (hI : Iv H S) (y : Int32) (K : Mv → Option (Int32 × Mv)) : ∀ (r fu i : Nat) (mo : Mv), RG (M_g mo) (ss S i) → i + r = s_n S → r < fu → ∃ g', RG g' (ss S (s_n S)) ∧ F_X5_goes_L58 y (fun b _ => K b) fu mo (nI i) = K (m_g mo g') := by
  have hn := hI.1.1
  intro r
  induction r with
  | zero =>
    intro fu i mo h hi hr
    obtain ⟨fu, rfl⟩ : ∃ f2, fu = f2 + 1 := ⟨fu - 1, by omega⟩
    have : i = s_n S := by omega
    subst this
    refine ⟨M_g mo, h, ?_⟩
    unfold F_X5_goes_L58
    rw [ub_0, ck_tt, zc_0, h.1.1, p_ss_n, if_pos (nI_le (Nat.le_refl _) (by omega))]
    rfl
  | succ r ih =>
    intro fu i mo h hi hr
    obtain ⟨fu, rfl⟩ : ∃ f2, fu = f2 + 1 := ⟨fu - 1, by omega⟩
    obtain ⟨g1, hg1, e1⟩ := m_stress1 hI h (by omega)
    obtain ⟨g2, hg2, e2⟩ := ih fu (i + 1) (m_g mo g1) (by rw [r_g_g]; exact hg1) (by omega) (by omega)
    refine ⟨g2, hg2, ?_⟩
    rw [mm_g] at e2
    unfold F_X5_goes_L58
    rw [ub_0, ck_tt, zc_0, h.1.1, p_ss_n, if_neg (nI_ge (by omega) (by omega)), e1, Option.bind_some, l_1, nI_add]
    exact e2
/-! cracks spread -/
theorem m_spread_L2 {S : Br} (hn : s_n S ≤ 10) (K : Mv → Option Mv) : ∀ (r fu i : Nat) (mo : Mv), RG (M_g mo) S → (∀ k, k < i → M_counted mo k = nI (s_K S k)) → i + r = s_n S → r < fu → ∃ ct, (∀ k, k < s_n S → ct k = nI (s_K S k)) ∧ F_X5_spreads_L2 (fun b _ => K b) fu mo (nI i) = K (m_counted mo ct) := by
  intro r
  induction r with
  | zero =>
    intro fu i mo h hc hi hr
    obtain ⟨fu, rfl⟩ : ∃ f2, fu = f2 + 1 := ⟨fu - 1, by omega⟩
    have : i = s_n S := by omega
    subst this
    refine ⟨M_counted mo, hc, ?_⟩
    unfold F_X5_spreads_L2
    rw [ub_0, ck_tt, zc_0, h.1.1, if_pos (nI_le (Nat.le_refl _) (by omega))]
    rfl
  | succ r ih =>
    intro fu i mo h hc hi hr
    obtain ⟨fu, rfl⟩ : ∃ f2, fu = f2 + 1 := ⟨fu - 1, by omega⟩
    obtain ⟨ct, hct, e2⟩ := ih fu (i + 1) (m_counted mo (upd (M_counted mo) i (nI (s_K S i)))) h (by
      intro k hk
      show upd (M_counted mo) i (nI (s_K S i)) k = _
      by_cases e : k = i
      · subst e; exact pk_us
      · exact (pk_un e).trans (hc k (by omega))) (by omega) (by omega)
    refine ⟨ct, hct, ?_⟩
    unfold F_X5_spreads_L2
    rw [ub_0, ck_tt, zc_0, h.1.1, if_neg (nI_ge (by omega) (by omega)), of_K h hn (by omega), Option.bind_some, inb_nI (by omega) (by omega), ck_tt, nI_clamp (by omega), l_1, nI_add]
    exact e2
theorem m_inf_t {S S0 : Br} {mo : Mv} (h : RG (M_g mo) S) (hn : s_n S ≤ 10) (hc : ∀ k, k < s_n S → M_counted mo k = nI (s_K S0 k)) (h9 : ∀ k, k < s_n S → s_K S0 k ≤ 9) {k j : Nat} (hk : k < s_n S) (hj : j < s_n S) : F_X5_isInfected mo (nI k) (nI j) = some (decide (5 ≤ s_K S0 j ∧ s_K S0 k < s_K S0 j)) := by
  have h1 := h9 k hk
  have h2 := h9 j hj
  unfold F_X5_isInfected
  rw [m_isSpan_t h hn hj, Option.bind_some, if_neg (by decide), inb_nI (by omega) (by omega), ck_tt, nI_clamp (by omega), hc j hj, l_4]
  by_cases c : s_K S0 j ≤ 4
  · rw [if_pos (nI_le c (by omega)), decide_eq_false (by omega)]
  · rw [if_neg (nI_ge (by omega) (by omega)), inb_nI (by omega) (by omega), ck_tt, ck_tt, nI_clamp (by omega), hc k hk]
    by_cases c2 : s_K S0 j ≤ s_K S0 k
    · rw [if_pos (nI_le c2 (by omega)), decide_eq_false (by omega)]
    · rw [if_neg (nI_ge (by omega) (by omega)), decide_eq_true (by omega)]
theorem m_inf_f {S : Br} {mo : Mv} (h : RG (M_g mo) S) (hn : s_n S ≤ 10) {k : Nat} {q : Int32} (hq : q < 0 ∨ nI (s_n S) ≤ q) : F_X5_isInfected mo (nI k) q = some false := by
  unfold F_X5_isInfected
  rw [m_isSpan_f h hn hq, Option.bind_some, if_pos (by decide)]
theorem m_spread_L32 {H : Nat} {S : Br} (hI : Iv H S) (K : Mv → Option Mv) : ∀ (r fu i : Nat) (mo : Mv), RG (M_g mo) (sp S i) → (∀ k, k < s_n S → M_counted mo k = nI (s_K S k)) → i + r = s_n S → r < fu → ∃ g', RG g' (sp S (s_n S)) ∧ F_X5_spreads_L32 (fun b _ => K b) fu mo (nI i) = K (m_g mo g') := by
  have hn := hI.1.1
  intro r
  induction r with
  | zero =>
    intro fu i mo h hc hi hr
    obtain ⟨fu, rfl⟩ : ∃ f2, fu = f2 + 1 := ⟨fu - 1, by omega⟩
    have : i = s_n S := by omega
    subst this
    refine ⟨M_g mo, h, ?_⟩
    unfold F_X5_spreads_L32
    rw [ub_0, ck_tt, zc_0, h.1.1, p_sp_n, if_pos (nI_le (Nat.le_refl _) (by omega))]
    rfl
  | succ r ih =>
    intro fu i mo h hc hi hr
    obtain ⟨fu, rfl⟩ : ∃ f2, fu = f2 + 1 := ⟨fu - 1, by omega⟩
    have h9 : ∀ k, k < s_n S → s_K S k ≤ 9 := fun k hk => (hI.2.1 k hk).2.2.2.2.1
    have hw := wst_le hI (k := i) (by omega)
    have hi9 : i < s_n S := by omega
    have h9i := h9 i hi9
    have eN : ¬ (5 ≤ wst S i ∧ s_K S i < wst S i) → sp S (i + 1) = sp S i := by
      intro z
      unfold sp
      rw [pre_k _ _ _ (by unfold sF; rw [if_neg z])]
    have hnp : s_n (sp S i) ≤ 10 := by rw [p_sp_n]; exact hn
    have eY : (5 ≤ wst S i ∧ s_K S i < wst S i) → st_K (sp S i) (uN (s_K (sp S i)) i (s_K S i + 1)) = sp S (i + 1) := by
      intro z
      unfold sp st_K
      simp only [s_n_mk, s_L_mk, s_J_mk, s_A_mk, s_K_mk, s_T_mk, s_v_mk, s_N_mk, s_W_mk, s_P_mk, s_nx_mk, s_hr_mk, s_rt_mk, s_tl_mk, s_pd_mk, s_cr_mk, s_sk_mk]
      rw [pre_s _ _ _ (by unfold sF; rw [if_pos z])]
    have hR := RG_K h hnp (s_K S i + 1) (by rw [p_sp_n]; exact hi9)
    have goN : ¬ (5 ≤ wst S i ∧ s_K S i < wst S i) → ∃ g', RG g' (sp S (s_n S)) ∧ F_X5_spreads_L32 (fun b _ => K b) fu mo (nI (i + 1)) = K (m_g mo g') := by
      intro z
      exact ih fu (i + 1) mo (by rw [eN z]; exact h) hc (by omega) (by omega)
    have goY : (5 ≤ wst S i ∧ s_K S i < wst S i) → ∃ g', RG g' (sp S (s_n S)) ∧ F_X5_spreads_L32 (fun b _ => K b) fu (m_g mo (upd (M_g mo) (9 + 5 * i + 3) (nI (s_K S i + 1)))) (nI (i + 1)) = K (m_g mo g') := by
      intro z
      rw [eY z] at hR
      obtain ⟨g', hg', e9⟩ := ih fu (i + 1) (m_g mo (upd (M_g mo) (9 + 5 * i + 3) (nI (s_K S i + 1)))) (by rw [r_g_g]; exact hR) hc (by omega) (by omega)
      rw [mm_g] at e9
      exact ⟨g', hg', e9⟩
    have inL : ∃ bL : Bool, F_X5_isInfected mo (nI i) (nI i - 1) = some bL ∧ (bL = true ↔ 5 ≤ (if i = 0 then 0 else s_K S (i - 1)) ∧ s_K S i < (if i = 0 then 0 else s_K S (i - 1))) := by
      by_cases c : i = 0
      · subst c
        refine ⟨false, m_inf_f h hnp (Or.inl (by decide)), ?_⟩
        rw [if_pos rfl]
        exact ⟨fun z => (by cases z), fun z => (by omega)⟩
      · rw [l_1, pk_sub (by omega)]
        refine ⟨_, m_inf_t (S0 := S) h hnp (by rw [p_sp_n]; exact hc) (by rw [p_sp_n]; exact h9) (by rw [p_sp_n]; exact hi9) (by rw [p_sp_n]; omega), ?_⟩
        rw [if_neg c]
        exact decide_eq_true_iff
    have inR : ∃ bR : Bool, F_X5_isInfected mo (nI i) (nI i + 1) = some bR ∧ (bR = true ↔ 5 ≤ (if i + 1 < s_n S then s_K S (i + 1) else 0) ∧ s_K S i < (if i + 1 < s_n S then s_K S (i + 1) else 0)) := by
      rw [l_1, nI_add]
      by_cases c : i + 1 < s_n S
      · refine ⟨_, m_inf_t (S0 := S) h hnp (by rw [p_sp_n]; exact hc) (by rw [p_sp_n]; exact h9) (by rw [p_sp_n]; exact hi9) (by rw [p_sp_n]; exact c), ?_⟩
        rw [if_pos c]
        exact decide_eq_true_iff
      · refine ⟨false, m_inf_f h hnp (Or.inr (by rw [p_sp_n]; exact nI_le (by omega) (by omega))), ?_⟩
        rw [if_neg c]
        exact ⟨fun z => (by cases z), fun z => (by omega)⟩
    obtain ⟨bL, eL, iL⟩ := inL
    obtain ⟨bR, eR, iR⟩ := inR
    have hwd : wst S i = max (if i = 0 then 0 else s_K S (i - 1)) (if i + 1 < s_n S then s_K S (i + 1) else 0) := rfl
    unfold F_X5_spreads_L32
    rw [ub_0, ck_tt, zc_0, h.1.1, p_sp_n, if_neg (nI_ge (by omega) (by omega)), inb_nI (by omega) (by omega), ck_tt, ck_tt, nI_clamp (by omega), hc i hi9, eL, eR, show nI (s_K S i) + 1 = nI (s_K S i + 1) from nI_add (s_K S i) 1, show nI i + 1 = nI (i + 1) from nI_add i 1]
    by_cases c : 9 ≤ s_K S i
    · rw [if_pos (show (9 : Int32) ≤ nI (s_K S i) from (show nI 9 ≤ nI (s_K S i) from nI_le c (by omega)))]
      exact goN (by omega)
    · rw [if_neg (show ¬ (9 : Int32) ≤ nI (s_K S i) from (show ¬ nI 9 ≤ nI (s_K S i) from nI_ge (by omega) (by omega))), Option.bind_some]
      by_cases c1 : bL = true
      · have z := iL.mp c1
        obtain ⟨g', hg', e9⟩ := goY (by omega)
        refine ⟨g', hg', ?_⟩
        rw [c1, if_pos (by decide), lays_K mo (by omega), Option.bind_some]
        exact e9
      · have z1 := mt iL.mpr c1
        rw [show bL = false by simpa using c1, if_neg (by decide), Option.bind_some]
        by_cases c2 : bR = true
        · have z := iR.mp c2
          obtain ⟨g', hg', e9⟩ := goY (by omega)
          refine ⟨g', hg', ?_⟩
          rw [c2, if_neg (by decide), lays_K mo (by omega), Option.bind_some]
          exact e9
        · have z2 := mt iR.mpr c2
          rw [show bR = false by simpa using c2, if_pos (by decide)]
          exact goN (by omega)
theorem m_spread {H : Nat} {S : Br} {mo : Mv} (hI : Iv H S) (h : RG (M_g mo) S) : ∃ g' ct, RG g' (sp S (s_n S)) ∧ F_X5_spreads mo = some (mG mo g' (M_lastOver mo) ct) := by
  have hn := hI.1.1
  obtain ⟨ct, hct, e1⟩ := m_spread_L2 hn (fun b => F_X5_spreads_L32 (fun b8 _ => some b8) 1000 b 0) (s_n S) 1000 0 mo h (fun k hk => absurd hk (Nat.not_lt_zero _)) (by omega) (by omega)
  obtain ⟨g', hg', e2⟩ := m_spread_L32 hI (fun b => some b) (s_n S) 1000 0 (m_counted mo ct) (by rw [sp_0]; exact h) hct (by omega) (by omega)
  refine ⟨g', ct, hg', ?_⟩
  unfold F_X5_spreads
  refine e1.trans ?_
  exact e2
/-! vehicles sink -/
theorem snk_1 {k r : Nat} {S : Br} (c : ld S k ≤ str S k) : snk k (r + 1) S = S := if_pos c
theorem snk_2 {k r : Nat} {S : Br} (c : ¬ ld S k ≤ str S k) (c2 : s_P S r = k) : snk k (r + 1) S = snk k r (skS S r) := (if_neg c).trans (if_pos c2)
theorem snk_3 {k r : Nat} {S : Br} (c : ¬ ld S k ≤ str S k) (c2 : ¬ s_P S r = k) : snk k (r + 1) S = snk k r S := (if_neg c).trans (if_neg c2)
theorem RG_skS {g : Nat → Int32} {S : Br} {q : Nat} (h : RG g S) (hn : s_n S ≤ 10) (hq : q < s_v S) : RG (upd (drG g q (s_v S - 1)) 8 (nI (s_sk S + 1))) (skS S q) := by
  have h1 := RG_sk (RG_drop h hn hq) (s_sk S + 1)
  unfold RG at h1 ⊢
  simp only [q_n_sk, q_L_sk, q_J_sk, q_A_sk, q_K_sk, q_T_sk, q_v_sk, q_N_sk, q_W_sk, q_P_sk, q_nx_sk, q_hr_sk, q_rt_sk, q_tl_sk, q_pd_sk, q_cr_sk, q_sk_sk, p_rmv_n, p_rmv_L, p_rmv_J, p_rmv_A, p_rmv_K, p_rmv_T, p_rmv_v, p_rmv_N, p_rmv_W, p_rmv_P, p_rmv_nx, p_rmv_hr, p_rmv_rt, p_rmv_tl, p_rmv_pd, p_rmv_cr, p_rmv_sk] at h1
  simp only [p_skS_n, p_skS_L, p_skS_J, p_skS_A, p_skS_K, p_skS_T, p_skS_v, p_skS_N, p_skS_W, p_skS_P, p_skS_nx, p_skS_hr, p_skS_rt, p_skS_tl, p_skS_pd, p_skS_cr, p_skS_sk]
  exact h1
theorem m_sink_L {H k : Nat} (K : Mv → Option Mv) : ∀ (r fu : Nat) (S : Br) (mo : Mv), Iv H S → RG (M_g mo) S → k < s_n S → r ≤ s_v S → r < fu → ∃ g', RG g' (snk k r S) ∧ F_X5_sinks_L9 (nI k) (fun b _ => K b) fu mo (nI r + (-1)) = K (m_g mo g') := by
  intro r
  induction r with
  | zero =>
    intro fu S mo hI h hk hr hfu
    obtain ⟨fu, rfl⟩ : ∃ f2, fu = f2 + 1 := ⟨fu - 1, by omega⟩
    refine ⟨M_g mo, h, ?_⟩
    unfold F_X5_sinks_L9
    rw [if_pos (by decide)]
    rfl
  | succ r ih =>
    intro fu S mo hI h hk hr hfu
    obtain ⟨fu, rfl⟩ : ∃ f2, fu = f2 + 1 := ⟨fu - 1, by omega⟩
    have hv := hI.1.2.1
    have hn := hI.1.1
    have hp := (hI.2.2.1 r (by omega)).2.2.1
    have hld := hI.ldb k
    have hst := hI.strb hk
    unfold F_X5_sinks_L9
    rw [pk_m1, if_neg (nI_pos (by omega)), m_loaded hI h (by omega), Option.bind_some, m_strong hI h hk, Option.bind_some]
    by_cases c : ld S k ≤ str S k
    · rw [snk_1 c, if_pos ((nI_leI (by omega) (by omega)).mpr c)]
      exact ⟨M_g mo, h, rfl⟩
    · rw [if_neg (fun z => c ((nI_leI (by omega) (by omega)).mp z)), on_P h hv (by omega), Option.bind_some]
      by_cases c2 : s_P S r = k
      · rw [snk_2 c c2, if_pos (congrArg nI c2), m_drops hv (show r < s_v S by omega) h.1.2.1, Option.bind_some, ub_8, ck_tt, ck_tt, zc_8]
        have hR := RG_drop h hn (show r < s_v S by omega)
        have hR2 := RG_skS h hn (show r < s_v S by omega)
        have e8 : (drG (M_g mo) r (s_v S - 1)) 8 = nI (s_sk S) := hR.1.2.2.2.2.2.2.2.2.trans (by rw [p_rmv_sk])
        obtain ⟨g', hg', h9⟩ := ih fu (skS S r) (m_g mo (upd (drG (M_g mo) r (s_v S - 1)) 8 (nI (s_sk S + 1)))) (Iv_sk1 hI (show r < s_v S by omega)) (by rw [r_g_g]; exact hR2) (by rw [p_skS_n]; exact hk) (by rw [p_skS_v]; omega) (by omega)
        refine ⟨g', hg', ?_⟩
        rw [r_g_g, e8, l_1, nI_add, e_g]
        rw [mm_g] at h9
        exact h9
      · rw [snk_3 c c2, if_neg (fun z => c2 ((nI_eq (by omega) (by omega)).mp z))]
        exact ih fu S mo hI h hk (by omega) (by omega)
theorem m_sinkA_L {H : Nat} (y : Int32) (K : Mv → Option (Int32 × Mv)) : ∀ (r fu i : Nat) (S : Br) (mo : Mv), Iv H S → RG (M_g mo) S → i + r = s_n S → r < fu → ∃ g', RG g' (snkA r i S) ∧ F_X5_goes_L97 y (fun b _ => K b) fu mo (nI i) = K (m_g mo g') := by
  intro r
  induction r with
  | zero =>
    intro fu i S mo hI h hi hr
    obtain ⟨fu, rfl⟩ : ∃ f2, fu = f2 + 1 := ⟨fu - 1, by omega⟩
    have hn := hI.1.1
    have : i = s_n S := by omega
    subst this
    refine ⟨M_g mo, h, ?_⟩
    unfold F_X5_goes_L97
    rw [ub_0, ck_tt, zc_0, h.1.1, if_pos (nI_le (Nat.le_refl _) (by omega))]
    rfl
  | succ r ih =>
    intro fu i S mo hI h hi hr
    obtain ⟨fu, rfl⟩ : ∃ f2, fu = f2 + 1 := ⟨fu - 1, by omega⟩
    have hn := hI.1.1
    have hv := hI.1.2.1
    obtain ⟨g1, hg1, e1⟩ := m_sink_L (H := H) (k := i) (fun b => some b) (s_v S) 1000 S mo hI h (by omega) (Nat.le_refl _) (by omega)
    obtain ⟨g2, hg2, e2⟩ := ih fu (i + 1) (snk i (s_v S) S) (m_g mo g1) (Iv_snk _ S hI (Nat.le_refl _)) (by rw [r_g_g]; exact hg1) (by rw [snk_n]; omega) (by omega)
    rw [mm_g] at e2
    refine ⟨g2, hg2, ?_⟩
    have e3 : F_X5_sinks mo (nI i) = some (m_g mo g1) := by
      unfold F_X5_sinks
      rw [ub_1, ck_tt, zc_1, h.1.2.1, Int32.sub_eq_add_neg]
      exact e1
    unfold F_X5_goes_L97
    rw [ub_0, ck_tt, zc_0, h.1.1, if_neg (nI_ge (by omega) (by omega)), e3, Option.bind_some, l_1, nI_add]
    exact e2
/-! ages -/
theorem ag_n1 {S : Br} {i t : Nat} (ht : t = agF (s_J S) (s_A S) i) : ag S (i + 1) = st_A (ag S i) (uN (s_A (ag S i)) i t) := by
  unfold ag st_A
  simp only [s_n_mk, s_L_mk, s_J_mk, s_A_mk, s_K_mk, s_T_mk, s_v_mk, s_N_mk, s_W_mk, s_P_mk, s_nx_mk, s_hr_mk, s_rt_mk, s_tl_mk, s_pd_mk, s_cr_mk, s_sk_mk]
  rw [pre_s _ _ _ ht]
theorem m_age_L {H : Nat} {S : Br} (hI : Iv H S) (K : Mv → Option (Int32 × Mv)) : ∀ (r fu i : Nat) (mo : Mv), RG (M_g mo) (ag S i) → i + r = s_n S → r < fu → ∃ g', RG g' (ag S (s_n S)) ∧ F_X5_goes_L12 (fun b _ => K b) fu mo (nI i) = K (m_g mo g') := by
  have hn := hI.1.1
  intro r
  induction r with
  | zero =>
    intro fu i mo h hi hr
    obtain ⟨fu, rfl⟩ : ∃ f2, fu = f2 + 1 := ⟨fu - 1, by omega⟩
    have : i = s_n S := by omega
    subst this
    refine ⟨M_g mo, h, ?_⟩
    unfold F_X5_goes_L12
    rw [ub_0, ck_tt, zc_0, h.1.1, p_ag_n, if_pos (nI_le (Nat.le_refl _) (by omega))]
    rfl
  | succ r ih =>
    intro fu i mo h hi hr
    obtain ⟨fu, rfl⟩ : ∃ f2, fu = f2 + 1 := ⟨fu - 1, by omega⟩
    have hi9 : i < s_n (ag S i) := by rw [p_ag_n]; omega
    have hn9 : s_n (ag S i) ≤ 10 := by rw [p_ag_n]; exact hn
    obtain ⟨b1, b2, b3, b4, b5, b6⟩ := hI.2.1 i (by omega)
    unfold F_X5_goes_L12
    rw [ub_0, ck_tt, zc_0, h.1.1, if_neg (nI_ge hi9 (by omega)), of_J h hn9 hi9, Option.bind_some, p_ag_J, show nI i + 1 = nI (i + 1) from nI_add i 1]
    by_cases c : 0 < s_J S i
    · have hR := RG_A h hn9 (s_A S i + 1) hi9
      rw [← ag_n1 (by unfold agF; rw [if_pos c])] at hR
      obtain ⟨g2, hg2, e2⟩ := ih fu (i + 1) (m_g mo (upd (M_g mo) (9 + 5 * i + 2) (nI (s_A S i + 1)))) (by rw [r_g_g]; exact hR) (by omega) (by omega)
      refine ⟨g2, hg2, ?_⟩
      rw [mm_g] at e2
      rw [if_neg (show ¬ nI (s_J S i) ≤ 0 from nI_nle c (by omega)), of_A h hn9 hi9, Option.bind_some, p_ag_A, pre_i _ _ (Nat.le_refl _), show nI (s_A S i) + 1 = nI (s_A S i + 1) from nI_add _ 1, lays_A mo (by omega), Option.bind_some]
      exact e2
    · have e6 : ag S (i + 1) = ag S i := by unfold ag; rw [pre_k _ _ _ (by unfold agF; rw [if_neg c])]
      obtain ⟨g2, hg2, e2⟩ := ih fu (i + 1) mo (by rw [e6]; exact h) (by omega) (by omega)
      refine ⟨g2, hg2, ?_⟩
      rw [if_pos (show nI (s_J S i) ≤ 0 from (show nI (s_J S i) ≤ nI 0 from nI_le (by omega) (by omega)))]
      exact e2
theorem snk_cr {k : Nat} : ∀ (r : Nat) (S : Br), s_cr (snk k r S) = s_cr S := by
  intro r
  induction r with
  | zero => intro S; rfl
  | succ r ih =>
    intro S
    unfold snk
    by_cases c : ld S k ≤ str S k
    · rw [if_pos c]
    · rw [if_neg c]
      by_cases c2 : s_P S r = k
      · rw [if_pos c2, ih, p_skS_cr]
      · rw [if_neg c2, ih]
theorem snkA_cr : ∀ (r i : Nat) (S : Br), s_cr (snkA r i S) = s_cr S := by
  intro r
  induction r with
  | zero => intro i S; rfl
  | succ r ih => intro i S; show s_cr (snkA r (i + 1) _) = _; rw [ih, snk_cr]
theorem hA4_cr (S : Br) : s_cr (hA4 S) = s_cr (hA2 S) := by
  unfold hA4
  by_cases c : s_hr (hA3 S) % 6 = 0
  · rw [if_pos c]; rfl
  · rw [if_neg c]; rfl
theorem hrs_cr (S : Br) : s_cr (hrs S) = s_cr (hA2 S) := (snkA_cr _ _ _).trans (hA4_cr S)
def loH (S : Br) (lo : Int32) : Int32 := lov (s_v S) (hA1 S) 0 lo
theorem m_goes {H : Nat} {S : Br} {mo : Mv} (hI : Iv H S) (hH : H + 1 ≤ 900000) (h : RG (M_g mo) S) : ∃ g' ct, RG g' (hrs S) ∧ F_X5_goes mo = some (nI (s_cr (hrs S) - s_cr S), mG mo g' (loH S (M_lastOver mo)) ct) := by
  have hn := hI.1.1
  have hb := (Iv_h3 hI hH).1.2.2.2.1
  have hR0 := RG_hr h (s_hr S + 1)
  obtain ⟨gb, hgb, eb⟩ := m_drives (mo := m_g mo (upd (M_g mo) 3 (nI (s_hr S + 1)))) (Iv_h0 hI hH) hR0
  -- the stages, from the end
  have key : ∀ (ga : Nat → Int32), RG ga (hA1 S) → ∃ g' ct, RG g' (hrs S) ∧ ((F_X5_drives (m_g mo ga)).bind (fun z6 => F_X5_goes_L58 z6.1 (fun b8 x9 => ck (inb 3 83) (ck (nz 6) (if ¬ (((M_g b8) (3 : Int32).toNatClampNeg) - ((M_g b8) (3 : Int32).toNatClampNeg) / 6 * 6) = 0 then F_X5_goes_L97 z6.1 (fun b11 x12 => some (z6.1, b11)) 1000 b8 0 else (F_X5_spreads b8).bind (fun z13 => F_X5_goes_L97 z6.1 (fun b14 x15 => some (z6.1, b14)) 1000 z13 0)))) 1000 z6.2 0)) = some (nI (s_cr (hrs S) - s_cr S), mG mo g' (loH S (M_lastOver mo)) ct) := by
    intro ga hga
    obtain ⟨g2, hg2, e2⟩ := m_drives (mo := m_g mo ga) (Iv_h1 hI hH) hga
    have hg2 : RG g2 (hA2 S) := hg2
    rw [e2, Option.bind_some]
    obtain ⟨g3, hg3, e3⟩ := m_stress_L (Iv_h2 hI hH) (nI (s_cr (hA2 S) - s_cr S)) (fun b8 => ck (inb 3 83) (ck (nz 6) (if ¬ (((M_g b8) (3 : Int32).toNatClampNeg) - ((M_g b8) (3 : Int32).toNatClampNeg) / 6 * 6) = 0 then F_X5_goes_L97 (nI (s_cr (hA2 S) - s_cr S)) (fun b11 x12 => some ((nI (s_cr (hA2 S) - s_cr S)), b11)) 1000 b8 0 else (F_X5_spreads b8).bind (fun z13 => F_X5_goes_L97 (nI (s_cr (hA2 S) - s_cr S)) (fun b14 x15 => some ((nI (s_cr (hA2 S) - s_cr S)), b14)) 1000 z13 0)))) (s_n (hA2 S)) 1000 0 (mG (m_g mo ga) g2 (loH S (M_lastOver mo)) (M_counted mo)) (by rw [ss_0]; exact hg2) (by omega) (by have := (Iv_h2 hI hH).1.1; omega)
    have hg3 : RG g3 (hA3 S) := hg3
    have ez : nz 6 = true := by decide
    have e3b := e3.trans (show _ = if ¬ (g3 3 - g3 3 / 6 * 6) = 0 then F_X5_goes_L97 (nI (s_cr (hA2 S) - s_cr S)) (fun b11 x12 => some ((nI (s_cr (hA2 S) - s_cr S)), b11)) 1000 (mG mo g3 (loH S (M_lastOver mo)) (M_counted mo)) 0 else (F_X5_spreads (mG mo g3 (loH S (M_lastOver mo)) (M_counted mo))).bind (fun z13 => F_X5_goes_L97 (nI (s_cr (hA2 S) - s_cr S)) (fun b14 x15 => some ((nI (s_cr (hA2 S) - s_cr S)), b14)) 1000 z13 0) by
      rw [ub_3, ck_tt, ez, ck_tt, zc_3]; rfl)
    have ecr : nI (s_cr (hrs S) - s_cr S) = nI (s_cr (hA2 S) - s_cr S) := by rw [hrs_cr]
    rw [ecr]
    rw [hg3.1.2.2.2.1, l_6, pk_rem (by omega) (by omega) (by omega), l_0] at e3b
    by_cases c : s_hr (hA3 S) % 6 = 0
    · have e4 : hA4 S = sp (hA3 S) (s_n (hA3 S)) := by unfold hA4; rw [if_pos c]
      obtain ⟨g4, ct, hg4, e5⟩ := m_spread (mo := mG mo g3 (loH S (M_lastOver mo)) (M_counted mo)) (Iv_h3 hI hH) hg3
      rw [← e4] at hg4
      obtain ⟨g5, hg5, e6⟩ := m_sinkA_L (nI (s_cr (hA2 S) - s_cr S)) (fun b11 => some ((nI (s_cr (hA2 S) - s_cr S)), b11)) (s_n (hA4 S)) 1000 0 (hA4 S) (mG (mG mo g3 (loH S (M_lastOver mo)) (M_counted mo)) g4 (M_lastOver (mG mo g3 (loH S (M_lastOver mo)) (M_counted mo))) ct) (Iv_h4 hI hH) hg4 (by omega) (by have := (Iv_h4 hI hH).1.1; omega)
      refine ⟨g5, ct, hg5, ?_⟩
      rw [c, if_neg (fun z => z rfl), e5, Option.bind_some] at e3b
      exact e3b.trans e6
    · have e4 : hA4 S = hA3 S := by unfold hA4; rw [if_neg c]
      rw [← e4] at hg3
      obtain ⟨g5, hg5, e6⟩ := m_sinkA_L (nI (s_cr (hA2 S) - s_cr S)) (fun b11 => some ((nI (s_cr (hA2 S) - s_cr S)), b11)) (s_n (hA4 S)) 1000 0 (hA4 S) (mG mo g3 (loH S (M_lastOver mo)) (M_counted mo)) (Iv_h4 hI hH) hg3 (by omega) (by have := (Iv_h4 hI hH).1.1; omega)
      refine ⟨g5, M_counted mo, hg5, ?_⟩
      rw [if_pos (fun z => c ((nI_eq (by omega) (by omega)).mp z))] at e3b
      exact e3b.trans e6
  obtain ⟨ga, hga, ea⟩ := m_age_L (Iv_h0 hI hH) (fun b4 => (F_X5_drives b4).bind (fun z6 => F_X5_goes_L58 z6.1 (fun b8 x9 => ck (inb 3 83) (ck (nz 6) (if ¬ (((M_g b8) (3 : Int32).toNatClampNeg) - ((M_g b8) (3 : Int32).toNatClampNeg) / 6 * 6) = 0 then F_X5_goes_L97 z6.1 (fun b11 x12 => some (z6.1, b11)) 1000 b8 0 else (F_X5_spreads b8).bind (fun z13 => F_X5_goes_L97 z6.1 (fun b14 x15 => some (z6.1, b14)) 1000 z13 0)))) 1000 z6.2 0)) (s_n S) 1000 0 (m_g mo (upd (M_g mo) 3 (nI (s_hr S + 1)))) (by rw [ag_0]; exact hR0) (Nat.zero_add _) (by omega)
  obtain ⟨g', ct, hg', e9⟩ := key ga hga
  refine ⟨g', ct, hg', ?_⟩
  unfold F_X5_goes
  rw [ub_3, ck_tt, ck_tt, zc_3, h.1.2.2.2.1, l_1, nI_add]
  exact ea.trans e9
