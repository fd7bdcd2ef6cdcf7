/-! rows copied; the changes that can be taken back -/
theorem va_cpy_0 {α : Type} (f t : Nat → α) (a c : Nat) : va_cpy f t a c 0 = t := by
  funext j; exact pk_cpy_out (by omega)
theorem va_cpy_s (f t : Nat → Int32) (a c i : Nat) : upd (va_cpy f t a c i) (c + i) (f (a + i)) = va_cpy f t a c (i + 1) := by
  funext j
  by_cases e : j = c + i
  · subst e
    rw [pk_us, pk_cpy_in (by omega) (by omega)]
    exact congrArg f (by omega)
  · rw [pk_un e]
    by_cases e2 : c ≤ j ∧ j < c + i
    · rw [pk_cpy_in e2.1 e2.2, pk_cpy_in e2.1 (by omega)]
    · rw [pk_cpy_out (by omega), pk_cpy_out (by omega)]
theorem m_copies {n1 n2 a c : Nat} (ha : a + 83 ≤ n1) (hc : c + 83 ≤ n2) (h1 : n1 < 2 ^ 31) (h2 : n2 < 2 ^ 31) (f t : Nat → Int32) : F_X5_copies n1 n2 f t (nI a) (nI c) = some (va_cpy f t a c 83) := by
  have key : ∀ (r fu i : Nat), i + r = 83 → r < fu → F_X5_copies_L3 n1 n2 f (nI a) (nI c) (fun b1 x2 => some b1) fu (va_cpy f t a c i) (nI i) = some (va_cpy f t a c 83) := by
    intro r
    induction r with
    | zero =>
      intro fu i hi hr
      obtain ⟨fu, rfl⟩ : ∃ f2, fu = f2 + 1 := ⟨fu - 1, by omega⟩
      have : i = 83 := by omega
      subst this
      unfold F_X5_copies_L3
      exact gp (by decide) rfl
    | succ r ih =>
      intro fu i hi hr
      obtain ⟨fu, rfl⟩ : ∃ f2, fu = f2 + 1 := ⟨fu - 1, by omega⟩
      unfold F_X5_copies_L3
      rw [if_neg (show ¬ (83 : Int32) ≤ nI i from (show ¬ nI 83 ≤ nI i from nI_ge (by omega) (by omega))), nI_add, nI_add, inb_nI (by omega) h1, ck_tt, inb_nI (by omega) h2, ck_tt, nI_clamp (by omega), nI_clamp (by omega), va_cpy_s, show nI i + 1 = nI (i + 1) from nI_add i 1]
      exact ih fu (i + 1) (by omega) (by omega)
  have h9 := key 83 1000 0 (by omega) (by omega)
  rw [va_cpy_0] at h9
  exact h9
def shK (f : Nat → Int32) (i : Nat) : Nat → Int32 := fun t => if t < i then f (t + 83) else f t
theorem shK_0 (f : Nat → Int32) : shK f 0 = f := by
  funext t; unfold shK; rw [if_neg (by omega)]
theorem shK_s (f : Nat → Int32) (i : Nat) : upd (shK f i) i (shK f i (i + 83)) = shK f (i + 1) := by
  funext t; unfold upd shK
  by_cases e : t = i
  · subst e; rw [if_pos rfl, if_neg (by omega), if_pos (by omega)]
  · rw [if_neg e]
    by_cases e2 : t < i
    · rw [if_pos e2, if_pos (by omega)]
    · rw [if_neg e2, if_neg (by omega)]
theorem m_keeps_L (K : Mv → Option Mv) (mo : Mv) : ∀ (r fu i : Nat), i + r = 581 → r < fu → F_X5_keeps_g_L24 (fun b _ => K b) fu (m_kept mo (shK (M_kept mo) i)) (nI i) = K (m_kept mo (shK (M_kept mo) 581)) := by
  intro r
  induction r with
  | zero =>
    intro fu i hi hr
    obtain ⟨fu, rfl⟩ : ∃ f2, fu = f2 + 1 := ⟨fu - 1, by omega⟩
    have : i = 581 := by omega
    subst this
    unfold F_X5_keeps_g_L24
    exact gp (by decide) rfl
  | succ r ih =>
    intro fu i hi hr
    obtain ⟨fu, rfl⟩ : ∃ f2, fu = f2 + 1 := ⟨fu - 1, by omega⟩
    unfold F_X5_keeps_g_L24
    rw [if_neg (show ¬ (581 : Int32) ≤ nI i from (show ¬ nI 581 ≤ nI i from nI_ge (by omega) (by omega))), show nI i + 83 = nI (i + 83) from nI_add i 83, inb_nI (by omega) (by omega), ck_tt, inb_nI (by omega) (by omega), ck_tt, nI_clamp (by omega), nI_clamp (by omega), show nI i + 1 = nI (i + 1) from nI_add i 1]
    rw [r_kept_kept, e_kept, shK_s]
    exact ih fu (i + 1) (by omega) (by omega)
theorem m_keepsb_L (K : Mv → Option Mv) (mo : Mv) : ∀ (r fu i : Nat), i + r = 581 → r < fu → F_X5_keeps_b_L24 (fun b _ => K b) fu (m_kept mo (shK (M_kept mo) i)) (nI i) = K (m_kept mo (shK (M_kept mo) 581)) := by
  intro r
  induction r with
  | zero =>
    intro fu i hi hr
    obtain ⟨fu, rfl⟩ : ∃ f2, fu = f2 + 1 := ⟨fu - 1, by omega⟩
    have : i = 581 := by omega
    subst this
    unfold F_X5_keeps_b_L24
    exact gp (by decide) rfl
  | succ r ih =>
    intro fu i hi hr
    obtain ⟨fu, rfl⟩ : ∃ f2, fu = f2 + 1 := ⟨fu - 1, by omega⟩
    unfold F_X5_keeps_b_L24
    rw [if_neg (show ¬ (581 : Int32) ≤ nI i from (show ¬ nI 581 ≤ nI i from nI_ge (by omega) (by omega))), show nI i + 83 = nI (i + 83) from nI_add i 83, inb_nI (by omega) (by omega), ck_tt, inb_nI (by omega) (by omega), ck_tt, nI_clamp (by omega), nI_clamp (by omega), show nI i + 1 = nI (i + 1) from nI_add i 1]
    rw [r_kept_kept, e_kept, shK_s]
    exact ih fu (i + 1) (by omega) (by omega)
def pushK (g kp : Nat → Int32) (c : Nat) : Nat → Int32 := if c = 8 then va_cpy g (shK kp 581) 0 581 83 else va_cpy g kp 0 (83 * c) 83
def pushC (c : Nat) : Nat := if c = 8 then 8 else c + 1
theorem mkept_self (x : Mv) : m_kept x (M_kept x) = x := rfl
theorem m_keeps {mo : Mv} {c : Nat} (hc : c ≤ 8) (hch : M_changes mo = nI c) (hw : M_isWithin mo = 0) : F_X5_keeps_g mo = some (mKp mo (pushK (M_g mo) (M_kept mo) c) (nI (pushC c))) := by
  unfold F_X5_keeps_g pushK pushC
  rw [if_pos hw, hch]
  by_cases c8 : c = 8
  · subst c8
    rw [if_neg (fun z => z rfl), if_pos rfl, if_pos rfl]
    have e9 := m_keeps_L (fun b2 => (F_X5_copies 83 664 (M_g b2) (M_kept b2) 0 (83 * ((M_changes b2) - 1))).bind (fun z4 => some (mkM (M_g b2) z4 (M_saved b2) (M_before b2) (M_trial b2) (M_counted b2) (M_isSaved b2) (((M_changes b2) - 1) + 1) (M_isWithin b2) (M_isDenied b2) (M_code b2) (M_why b2) (M_detail b2) (M_cause b2) (M_input b2) (M_length b2) (M_fault b2) (M_signs b2) (M_signMany b2) (M_lastOver b2) (M_at b2) (M_told b2) (M_toldMany b2)))) (m_code mo 0) 581 1000 0 (by omega) (by omega)
    rw [shK_0, mkept_self] at e9
    simp only [r_g_code, r_kept_code, r_saved_code, r_before_code, r_trial_code, r_counted_code, r_isSaved_code, r_changes_code, r_isWithin_code, r_isDenied_code, r_code_code, r_why_code, r_detail_code, r_cause_code, r_input_code, r_length_code, r_fault_code, r_signs_code, r_signMany_code, r_lastOver_code, r_at_code, r_told_code, r_toldMany_code, r_g_kept, r_kept_kept, r_saved_kept, r_before_kept, r_trial_kept, r_counted_kept, r_isSaved_kept, r_changes_kept, r_isWithin_kept, r_isDenied_kept, r_code_kept, r_why_kept, r_detail_kept, r_cause_kept, r_input_kept, r_length_kept, r_fault_kept, r_signs_kept, r_signMany_kept, r_lastOver_kept, r_at_kept, r_told_kept, r_toldMany_kept, hch] at e9
    rw [show nI 8 - 1 = nI 7 from rfl, show (83 : Int32) * nI 7 = nI 581 from rfl, show nI 7 + 1 = nI 8 from rfl] at e9
    refine Eq.trans ?_ (e9.trans ?_)
    · have e7 : m_code mo 0 = mkM (M_g mo) (M_kept mo) (M_saved mo) (M_before mo) (M_trial mo) (M_counted mo) (M_isSaved mo) (nI 8) (M_isWithin mo) (M_isDenied mo) 0 (M_why mo) (M_detail mo) (M_cause mo) (M_input mo) (M_length mo) (M_fault mo) (M_signs mo) (M_signMany mo) (M_lastOver mo) (M_at mo) (M_told mo) (M_toldMany mo) := by
        rw [← hch]; rfl
      rw [e7]; rfl
    · refine gb (m_copies (n1 := 83) (n2 := 664) (a := 0) (c := 581) (by omega) (by omega) (by omega) (by omega) (M_g mo) (shK (M_kept mo) 581)) ?_
      unfold mKp
      rfl
  · rw [if_pos (show ¬ nI c = (8 : Int32) from fun z => c8 ((nI_eq (by omega) (by omega)).mp (show nI c = nI 8 from z))), if_neg c8, if_neg c8, show (83 : Int32) * nI c = nI (83 * c) from pk_mul 83 c]
    refine gb (m_copies (n1 := 83) (n2 := 664) (a := 0) (c := 83 * c) (by omega) (by omega) (by omega) (by omega) (M_g mo) (M_kept mo)) ?_
    rw [add1]; rfl
theorem m_keepsb {mo : Mv} {c : Nat} (hc : c ≤ 8) (hch : M_changes mo = nI c) (hw : M_isWithin mo = 0) : F_X5_keeps_b mo = some (mKp mo (pushK (M_before mo) (M_kept mo) c) (nI (pushC c))) := by
  unfold F_X5_keeps_b pushK pushC
  rw [if_pos hw, hch]
  by_cases c8 : c = 8
  · subst c8
    rw [if_neg (fun z => z rfl), if_pos rfl, if_pos rfl]
    have e9 := m_keepsb_L (fun b2 => (F_X5_copies 83 664 (M_before b2) (M_kept b2) 0 (83 * ((M_changes b2) - 1))).bind (fun z4 => some (mkM (M_g b2) z4 (M_saved b2) (M_before b2) (M_trial b2) (M_counted b2) (M_isSaved b2) (((M_changes b2) - 1) + 1) (M_isWithin b2) (M_isDenied b2) (M_code b2) (M_why b2) (M_detail b2) (M_cause b2) (M_input b2) (M_length b2) (M_fault b2) (M_signs b2) (M_signMany b2) (M_lastOver b2) (M_at b2) (M_told b2) (M_toldMany b2)))) (m_code mo 0) 581 1000 0 (by omega) (by omega)
    rw [shK_0, mkept_self] at e9
    simp only [r_g_code, r_kept_code, r_saved_code, r_before_code, r_trial_code, r_counted_code, r_isSaved_code, r_changes_code, r_isWithin_code, r_isDenied_code, r_code_code, r_why_code, r_detail_code, r_cause_code, r_input_code, r_length_code, r_fault_code, r_signs_code, r_signMany_code, r_lastOver_code, r_at_code, r_told_code, r_toldMany_code, r_g_kept, r_kept_kept, r_saved_kept, r_before_kept, r_trial_kept, r_counted_kept, r_isSaved_kept, r_changes_kept, r_isWithin_kept, r_isDenied_kept, r_code_kept, r_why_kept, r_detail_kept, r_cause_kept, r_input_kept, r_length_kept, r_fault_kept, r_signs_kept, r_signMany_kept, r_lastOver_kept, r_at_kept, r_told_kept, r_toldMany_kept, hch] at e9
    rw [show nI 8 - 1 = nI 7 from rfl, show (83 : Int32) * nI 7 = nI 581 from rfl, show nI 7 + 1 = nI 8 from rfl] at e9
    refine Eq.trans ?_ (e9.trans ?_)
    · have e7 : m_code mo 0 = mkM (M_g mo) (M_kept mo) (M_saved mo) (M_before mo) (M_trial mo) (M_counted mo) (M_isSaved mo) (nI 8) (M_isWithin mo) (M_isDenied mo) 0 (M_why mo) (M_detail mo) (M_cause mo) (M_input mo) (M_length mo) (M_fault mo) (M_signs mo) (M_signMany mo) (M_lastOver mo) (M_at mo) (M_told mo) (M_toldMany mo) := by
        rw [← hch]; rfl
      rw [e7]; rfl
    · refine gb (m_copies (n1 := 83) (n2 := 664) (a := 0) (c := 581) (by omega) (by omega) (by omega) (by omega) (M_before mo) (shK (M_kept mo) 581)) ?_
      unfold mKp
      rfl
  · rw [if_pos (show ¬ nI c = (8 : Int32) from fun z => c8 ((nI_eq (by omega) (by omega)).mp (show nI c = nI 8 from z))), if_neg c8, if_neg c8, show (83 : Int32) * nI c = nI (83 * c) from pk_mul 83 c]
    refine gb (m_copies (n1 := 83) (n2 := 664) (a := 0) (c := 83 * c) (by omega) (by omega) (by omega) (by omega) (M_before mo) (M_kept mo)) ?_
    rw [add1]; rfl
theorem KP_keeps {mo : Mv} {c : Nat} (hc : c ≤ 8) (hch : M_changes mo = nI c) (hw : M_isWithin mo = 0) : KP mo (pushK (M_g mo) (M_kept mo) c) (nI (pushC c)) := by
  intro mo2 h1 h2 h3 h4
  rw [m_keeps (mo := mo2) hc (h3.trans hch) (h4.trans hw), h1, h2]
theorem KP_within {mo : Mv} (hw : ¬ M_isWithin mo = 0) : KP mo (M_kept mo) (M_changes mo) := by
  intro mo2 h1 h2 h3 h4
  unfold F_X5_keeps_g
  rw [if_neg (fun z => hw (h4.symm.trans z)), ← h2, ← h3]
  unfold mKp
  rfl
/-! copies of bridges -/
def cpN (f g : Nat → Nat) (m : Nat) : Nat → Nat := fun i => if i < m then f i else g i
theorem cpN_i (f g : Nat → Nat) {m i : Nat} (h : i < m) : cpN f g m i = f i := if_pos h
theorem cpN_e (f g : Nat → Nat) (m : Nat) : va_cpy (fI f) (fI g) 0 0 m = fI (cpN f g m) := by
  funext i
  unfold fI cpN
  by_cases h : i < m
  · rw [pk_cpy_in (by omega) (by omega), if_pos h]
    exact congrArg (fun z => nI (f z)) (by omega)
  · rw [pk_cpy_out (by omega), if_neg h]
def cpS (T S : Br) : Br := mkS (s_n S) (cpN (s_L S) (s_L T) 10) (cpN (s_J S) (s_J T) 10) (cpN (s_A S) (s_A T) 10) (cpN (s_K S) (s_K T) 10) (cpN (s_T S) (s_T T) 10) (s_v S) (cpN (s_N S) (s_N T) 8) (cpN (s_W S) (s_W T) 8) (cpN (s_P S) (s_P T) 8) (s_nx S) (s_hr S) (s_rt S) (s_tl S) (s_pd S) (s_cr S) (s_sk S)
theorem p_cpS_n (T S : Br) : s_n (cpS T S) = s_n S := rfl
theorem p_cpS_L (T S : Br) : s_L (cpS T S) = cpN (s_L S) (s_L T) 10 := rfl
theorem p_cpS_J (T S : Br) : s_J (cpS T S) = cpN (s_J S) (s_J T) 10 := rfl
theorem p_cpS_A (T S : Br) : s_A (cpS T S) = cpN (s_A S) (s_A T) 10 := rfl
theorem p_cpS_K (T S : Br) : s_K (cpS T S) = cpN (s_K S) (s_K T) 10 := rfl
theorem p_cpS_T (T S : Br) : s_T (cpS T S) = cpN (s_T S) (s_T T) 10 := rfl
theorem p_cpS_v (T S : Br) : s_v (cpS T S) = s_v S := rfl
theorem p_cpS_N (T S : Br) : s_N (cpS T S) = cpN (s_N S) (s_N T) 8 := rfl
theorem p_cpS_W (T S : Br) : s_W (cpS T S) = cpN (s_W S) (s_W T) 8 := rfl
theorem p_cpS_P (T S : Br) : s_P (cpS T S) = cpN (s_P S) (s_P T) 8 := rfl
theorem p_cpS_nx (T S : Br) : s_nx (cpS T S) = s_nx S := rfl
theorem p_cpS_hr (T S : Br) : s_hr (cpS T S) = s_hr S := rfl
theorem p_cpS_rt (T S : Br) : s_rt (cpS T S) = s_rt S := rfl
theorem p_cpS_tl (T S : Br) : s_tl (cpS T S) = s_tl S := rfl
theorem p_cpS_pd (T S : Br) : s_pd (cpS T S) = s_pd S := rfl
theorem p_cpS_cr (T S : Br) : s_cr (cpS T S) = s_cr S := rfl
theorem p_cpS_sk (T S : Br) : s_sk (cpS T S) = s_sk S := rfl
theorem toB_cpS (T S : Br) : toB (cpS T S) = mkB (nI (s_n S)) (fI (cpN (s_L S) (s_L T) 10)) (fI (cpN (s_J S) (s_J T) 10)) (fI (cpN (s_A S) (s_A T) 10)) (fI (cpN (s_K S) (s_K T) 10)) (fI (cpN (s_T S) (s_T T) 10)) (nI (s_v S)) (fI (cpN (s_N S) (s_N T) 8)) (fI (cpN (s_W S) (s_W T) 8)) (fI (cpN (s_P S) (s_P T) 8)) (nI (s_nx S)) (nI (s_hr S)) (nI (s_rt S)) (nI (s_tl S)) (nI (s_pd S)) (nI (s_cr S)) (nI (s_sk S)) := rfl
theorem c_copy (T S : Br) : F_X0_copyFrom (toB T) (toB S) = some (toB (cpS T S)) := by
  unfold F_X0_copyFrom
  rw [show (10 : Int32).toNatClampNeg = 10 by decide, show (8 : Int32).toNatClampNeg = 8 by decide, show (0 : Int32).toNatClampNeg = 0 by decide]
  rw [toB_cpS]
  simp only [B_spans_to, B_lengths_to, B_jars_to, B_ages_to, B_cracks_to, B_stresses_to, B_vehicles_to, B_numbers_to, B_weights_to, B_places_to, B_nextNumber_to, B_hour_to, B_rate_to, B_till_to, B_paid_to, B_crossed_to, B_sunk_to, cpN_e]
theorem Iv_cp {H : Nat} {S : Br} (T : Br) (h : Iv H S) : Iv H (cpS T S) := by
  obtain ⟨a, b, c, d⟩ := h
  have a1 := a.1
  have a2 := a.2.1
  unfold Iv
  simp only [p_cpS_n, p_cpS_L, p_cpS_J, p_cpS_A, p_cpS_K, p_cpS_T, p_cpS_v, p_cpS_N, p_cpS_W, p_cpS_P, p_cpS_nx, p_cpS_hr, p_cpS_rt, p_cpS_tl, p_cpS_pd, p_cpS_cr, p_cpS_sk]
  refine ⟨a, ?_, ?_, ?_⟩
  · intro k hk
    rw [cpN_i _ _ (by omega), cpN_i _ _ (by omega), cpN_i _ _ (by omega), cpN_i _ _ (by omega), cpN_i _ _ (by omega)]
    exact b k hk
  · intro j hj
    rw [cpN_i _ _ (by omega), cpN_i _ _ (by omega), cpN_i _ _ (by omega)]
    exact c j hj
  · intro j hj
    rw [cpN_i _ _ (by omega), cpN_i _ _ (by omega), cpN_i _ _ (by omega), cpN_i _ _ (by omega)]
    exact d j hj
theorem RG_cp {g : Nat → Int32} {S : Br} (T : Br) (h : RG g S) (hn : s_n S ≤ 10) (hv : s_v S ≤ 8) : RG g (cpS T S) := by
  obtain ⟨a, b, c⟩ := h
  unfold RG
  simp only [p_cpS_n, p_cpS_L, p_cpS_J, p_cpS_A, p_cpS_K, p_cpS_T, p_cpS_v, p_cpS_N, p_cpS_W, p_cpS_P, p_cpS_nx, p_cpS_hr, p_cpS_rt, p_cpS_tl, p_cpS_pd, p_cpS_cr, p_cpS_sk]
  refine ⟨a, ?_, ?_⟩
  · intro k hk
    rw [cpN_i _ _ (by omega), cpN_i _ _ (by omega), cpN_i _ _ (by omega), cpN_i _ _ (by omega), cpN_i _ _ (by omega)]
    exact b k hk
  · intro j hj
    rw [cpN_i _ _ (by omega), cpN_i _ _ (by omega), cpN_i _ _ (by omega)]
    exact c j hj
theorem RG_ext {g g1 : Nat → Int32} {S : Br} (hn : s_n S ≤ 10) (hv : s_v S ≤ 8) (h : RG g S) (he : ∀ t, t < 83 → g1 t = g t) : RG g1 S := by
  obtain ⟨⟨a0, a1, a2, a3, a4, a5, a6, a7, a8⟩, b, c⟩ := h
  refine ⟨⟨(he 0 (by omega)).trans a0, (he 1 (by omega)).trans a1, (he 2 (by omega)).trans a2, (he 3 (by omega)).trans a3, (he 4 (by omega)).trans a4, (he 5 (by omega)).trans a5, (he 6 (by omega)).trans a6, (he 7 (by omega)).trans a7, (he 8 (by omega)).trans a8⟩, ?_, ?_⟩
  · intro k hk
    obtain ⟨b0, b1, b2, b3, b4⟩ := b k hk
    exact ⟨(he _ (by omega)).trans b0, (he _ (by omega)).trans b1, (he _ (by omega)).trans b2, (he _ (by omega)).trans b3, (he _ (by omega)).trans b4⟩
  · intro j hj
    obtain ⟨c0, c1, c2⟩ := c j hj
    exact ⟨(he _ (by omega)).trans c0, (he _ (by omega)).trans c1, (he _ (by omega)).trans c2⟩
/-- the ring of the class, the rows of the reference -/
def HR (H : Nat) (h : Hv) (kp : Nat → Int32) (c : Nat) : Prop :=
  ∃ nw, nw < 8 ∧ c ≤ 8 ∧ H_newest h = nI nw ∧ H_count h = nI c ∧ (∀ i, i < 8 → ∃ Q, H_st h i = toB Q) ∧
  ∀ i, i < c → ∃ Q, H_st h ((nw + 8 - (c - 1 - i)) % 8) = toB Q ∧ Iv H Q ∧ RG (fun t => kp (83 * i + t)) Q
theorem HR.mono {H H1 c : Nat} {h : Hv} {kp : Nat → Int32} (hh : HR H h kp c) (h1 : H ≤ H1) (h2 : H1 ≤ 900000) : HR H1 h kp c := by
  obtain ⟨nw, a1, a2, a3, a4, a5, a6⟩ := hh
  refine ⟨nw, a1, a2, a3, a4, a5, fun i hi => ?_⟩
  obtain ⟨Q, q1, q2, q3⟩ := a6 i hi
  exact ⟨Q, q1, q2.mono h1 h2, q3⟩
theorem HR_push {H c : Nat} {h : Hv} {kp g : Nat → Int32} {S : Br} (hh : HR H h kp c) (hI : Iv H S) (hg : RG g S) : ∃ h', F_X1_keep h (toB S) = some h' ∧ HR H h' (pushK g kp c) (pushC c) := by
  obtain ⟨nw, a1, a2, a3, a4, a5, a6⟩ := hh
  have hn := hI.1.1
  have hv := hI.1.2.1
  have e1 : (nI nw + 1) - (nI nw + 1) / 8 * 8 = nI ((nw + 1) % 8) := by
    rw [l_1, nI_add, l_8, pk_rem (by omega) (by omega) (by omega)]
  obtain ⟨T, hT⟩ := a5 ((nw + 1) % 8) (by omega)
  have hI2 := Iv_cp T hI
  have hg2 := RG_cp T hg hn hv
  have ec : imin (nI c + 1) 8 = nI (pushC c) := by
    rw [l_1, nI_add, l_8, imin_nI (by omega) (by omega)]
    unfold pushC
    by_cases c8 : c = 8
    · rw [if_pos c8, c8]; rfl
    · rw [if_neg c8, Nat.min_eq_left (by omega)]
  refine ⟨mkH (nI ((nw + 1) % 8)) (nI (pushC c)) (va_up (H_st h) ((nw + 1) % 8) (toB (cpS T S))), ?_, (nw + 1) % 8, by omega, by unfold pushC; by_cases c8 : c = 8 <;> simp [c8]; omega, rfl, rfl, ?_, ?_⟩
  · unfold F_X1_keep
    rw [a3, e1, inb_nI (by omega) (by omega), ck_tt, nI_clamp (by omega), hT, c_copy, Option.bind_some, a4, ec]
  · intro i hi
    show ∃ Q, (if i = (nw + 1) % 8 then toB (cpS T S) else H_st h i) = toB Q
    by_cases e : i = (nw + 1) % 8
    · exact ⟨cpS T S, if_pos e⟩
    · rw [if_neg e]; exact a5 i hi
  · intro i hi
    have stN : ∀ t, t ≠ (nw + 1) % 8 → va_up (H_st h) ((nw + 1) % 8) (toB (cpS T S)) t = H_st h t := fun t ht => if_neg ht
    have stE : ∀ t, t = (nw + 1) % 8 → va_up (H_st h) ((nw + 1) % 8) (toB (cpS T S)) t = toB (cpS T S) := fun t ht => if_pos ht
    show ∃ Q, va_up (H_st h) ((nw + 1) % 8) (toB (cpS T S)) (((nw + 1) % 8 + 8 - (pushC c - 1 - i)) % 8) = toB Q ∧ Iv H Q ∧ RG (fun t => pushK g kp c (83 * i + t)) Q
    by_cases c8 : c = 8
    · subst c8
      have hp : pushC 8 = 8 := rfl
      rw [hp] at hi ⊢
      have hk : pushK g kp 8 = va_cpy g (shK kp 581) 0 581 83 := rfl
      by_cases e : i = 7
      · subst e
        refine ⟨cpS T S, stE _ (by omega), hI2, ?_⟩
        refine RG_ext hn hv hg2 fun t ht => ?_
        rw [hk, pk_cpy_in (by omega) (by omega)]
        exact congrArg g (by omega)
      · obtain ⟨Q, q1, q2, q3⟩ := a6 (i + 1) (by omega)
        refine ⟨Q, ?_, q2, ?_⟩
        · rw [stN _ (by omega), show ((nw + 1) % 8 + 8 - (8 - 1 - i)) % 8 = (nw + 8 - (8 - 1 - (i + 1))) % 8 by omega]
          exact q1
        · refine RG_ext q2.1.1 q2.1.2.1 q3 fun t ht => ?_
          rw [hk, pk_cpy_out (by omega)]
          unfold shK
          rw [if_pos (by omega)]
          exact congrArg kp (by omega)
    · have hp : pushC c = c + 1 := if_neg c8
      rw [hp] at hi ⊢
      have hk : pushK g kp c = va_cpy g kp 0 (83 * c) 83 := if_neg c8
      by_cases e : i = c
      · subst e
        refine ⟨cpS T S, stE _ (by omega), hI2, ?_⟩
        refine RG_ext hn hv hg2 fun t ht => ?_
        rw [hk, pk_cpy_in (by omega) (by omega)]
        exact congrArg g (by omega)
      · obtain ⟨Q, q1, q2, q3⟩ := a6 i (by omega)
        refine ⟨Q, ?_, q2, ?_⟩
        · rw [stN _ (by omega), show ((nw + 1) % 8 + 8 - (c + 1 - 1 - i)) % 8 = (nw + 8 - (c - 1 - i)) % 8 by omega]
          exact q1
        · refine RG_ext q2.1.1 q2.1.2.1 q3 fun t ht => ?_
          rw [hk, pk_cpy_out (by omega)]
/-! what class and reference have in common between two calls -/
def TXR (tx : Tv) (mo : Mv) : Prop := ∃ l, l ≤ 60 ∧ T_length tx = nI l ∧ M_length mo = nI l ∧ ∀ i, i < l → ∃ c, c < 65536 ∧ T_signs tx i = nI c ∧ M_input mo i = nI c
def LNR (ln : Nv) (mo : Mv) : Prop := ln.1 ≤ 200 ∧ M_signMany mo = nI ln.1 ∧ ∀ i, i < ln.1 → ln.2 i < 256 ∧ M_signs mo i = nI (ln.2 i)
def Rel (H : Nat) (x : Xv) (b t sn : Bv) (h : Hv) (tx : Tv) (ln : Nv) (mo : Mv) : Prop :=
  (∃ S, b = toB S ∧ Iv H S ∧ RG (M_g mo) S) ∧ (∃ T, t = toB T) ∧
  (∃ Q, sn = toB Q ∧ (¬ X_snapshotSaved x = 0 → Iv H Q ∧ RG (M_saved mo) Q)) ∧ (isb (X_snapshotSaved x) = true ∧ M_isSaved mo = X_snapshotSaved x) ∧
  (∃ c, M_changes mo = nI c ∧ HR H h (M_kept mo) c) ∧ M_isWithin mo = 0 ∧
  (X_deniedNumber x = M_why mo ∧ X_deniedDetail x = M_detail mo ∧ X_deniedCause x = M_cause mo) ∧
  (X_faultKept x = M_fault mo ∧ (M_fault mo = -1 ∨ ∃ f, f ≤ 60 ∧ M_fault mo = nI f)) ∧ TXR tx mo ∧ LNR ln mo
