/-! the class: stresses, cracks, sinking, hours -/
def tN (S : Br) (k : Nat) : Nat := if stn S k = true then s_T S k + 1 else 0
def tF (S : Br) (k : Nat) : Nat := if tN S k = 3 then 0 else tN S k
def kF (S : Br) (k : Nat) : Nat := if tN S k = 3 ∧ s_K S k < 9 then s_K S k + 1 else s_K S k
def ss (S : Br) (i : Nat) : Br := mkS (s_n S) (s_L S) (s_J S) (s_A S) (pre (kF S) (s_K S) i) (pre (tF S) (s_T S) i) (s_v S) (s_N S) (s_W S) (s_P S) (s_nx S) (s_hr S) (s_rt S) (s_tl S) (s_pd S) (s_cr S) (s_sk S)
theorem p_ss_n (S : Br) (i : Nat) : s_n (ss S i) = s_n S := rfl
theorem p_ss_L (S : Br) (i : Nat) : s_L (ss S i) = s_L S := rfl
theorem p_ss_J (S : Br) (i : Nat) : s_J (ss S i) = s_J S := rfl
theorem p_ss_A (S : Br) (i : Nat) : s_A (ss S i) = s_A S := rfl
theorem p_ss_K (S : Br) (i : Nat) : s_K (ss S i) = pre (kF S) (s_K S) i := rfl
theorem p_ss_T (S : Br) (i : Nat) : s_T (ss S i) = pre (tF S) (s_T S) i := rfl
theorem p_ss_v (S : Br) (i : Nat) : s_v (ss S i) = s_v S := rfl
theorem p_ss_N (S : Br) (i : Nat) : s_N (ss S i) = s_N S := rfl
theorem p_ss_W (S : Br) (i : Nat) : s_W (ss S i) = s_W S := rfl
theorem p_ss_P (S : Br) (i : Nat) : s_P (ss S i) = s_P S := rfl
theorem p_ss_nx (S : Br) (i : Nat) : s_nx (ss S i) = s_nx S := rfl
theorem p_ss_hr (S : Br) (i : Nat) : s_hr (ss S i) = s_hr S := rfl
theorem p_ss_rt (S : Br) (i : Nat) : s_rt (ss S i) = s_rt S := rfl
theorem p_ss_tl (S : Br) (i : Nat) : s_tl (ss S i) = s_tl S := rfl
theorem p_ss_pd (S : Br) (i : Nat) : s_pd (ss S i) = s_pd S := rfl
theorem p_ss_cr (S : Br) (i : Nat) : s_cr (ss S i) = s_cr S := rfl
theorem p_ss_sk (S : Br) (i : Nat) : s_sk (ss S i) = s_sk S := rfl
theorem toB_ss (S : Br) (i : Nat) : toB (ss S i) = mkB (nI (s_n S)) (fI (s_L S)) (fI (s_J S)) (fI (s_A S)) (fI (pre (kF S) (s_K S) i)) (fI (pre (tF S) (s_T S) i)) (nI (s_v S)) (fI (s_N S)) (fI (s_W S)) (fI (s_P S)) (nI (s_nx S)) (nI (s_hr S)) (nI (s_rt S)) (nI (s_tl S)) (nI (s_pd S)) (nI (s_cr S)) (nI (s_sk S)) := rfl
theorem ss_0 (S : Br) : ss S 0 = S := by unfold ss; rw [pre_0, pre_0]; exact mkS_eta S
theorem Iv_ss {H : Nat} {S : Br} (h : Iv H S) (i : Nat) : Iv H (ss S i) := by
  obtain ⟨a, b, c, d⟩ := h
  unfold Iv
  simp only [p_ss_n, p_ss_L, p_ss_J, p_ss_A, p_ss_K, p_ss_T, p_ss_v, p_ss_N, p_ss_W, p_ss_P, p_ss_nx, p_ss_hr, p_ss_rt, p_ss_tl, p_ss_pd, p_ss_cr, p_ss_sk]
  refine ⟨a, ?_, c, d⟩
  intro k hk
  obtain ⟨b1, b2, b3, b4, b5, b6⟩ := b k hk
  refine ⟨b1, b2, b3, b4, ?_, ?_⟩
  · unfold pre kF
    by_cases c1 : k < i
    · rw [if_pos c1]
      by_cases c2 : tN S k = 3 ∧ s_K S k < 9
      · rw [if_pos c2]; omega
      · rw [if_neg c2]; exact b5
    · rw [if_neg c1]; exact b5
  · unfold pre tF
    by_cases c1 : k < i
    · rw [if_pos c1]
      have : tN S k ≤ 3 := by
        unfold tN
        by_cases c3 : stn S k = true
        · rw [if_pos c3]; omega
        · rw [if_neg c3]; omega
      by_cases c2 : tN S k = 3
      · rw [if_pos c2]; omega
      · rw [if_neg c2]; omega
    · rw [if_neg c1]; exact b6
theorem ss_str (S : Br) (i : Nat) : str (ss S i) i = str S i := by
  unfold str
  simp only [p_ss_n, p_ss_L, p_ss_J, p_ss_A, p_ss_K, p_ss_T, p_ss_v, p_ss_N, p_ss_W, p_ss_P, p_ss_nx, p_ss_hr, p_ss_rt, p_ss_tl, p_ss_pd, p_ss_cr, p_ss_sk]
  rw [pre_i _ _ (Nat.le_refl _)]
theorem ss_ld (S : Br) (i k : Nat) : ld (ss S i) k = ld S k := by
  unfold ld
  simp only [p_ss_n, p_ss_L, p_ss_J, p_ss_A, p_ss_K, p_ss_T, p_ss_v, p_ss_N, p_ss_W, p_ss_P, p_ss_nx, p_ss_hr, p_ss_rt, p_ss_tl, p_ss_pd, p_ss_cr, p_ss_sk]
theorem ss_stn (S : Br) (i : Nat) : stn (ss S i) i = stn S i := by
  unfold stn
  rw [ss_str, ss_ld]
theorem c_crack {S : Br} (hn : s_n S ≤ 10) {k : Nat} (hk : k < s_n S) (b5 : s_K S k ≤ 9) : F_X0_crack (toB S) (nI k) = some (toB (if s_K S k < 9 then st_K S (uN (s_K S) k (s_K S k + 1)) else S)) := by
  unfold F_X0_crack
  rw [hs_t hk hn]
  by_cases c : s_K S k < 9
  · rw [if_pos c, ← toB_K]
    simp (disch := omega) only [B_spans_to, B_lengths_to, B_jars_to, B_ages_to, B_cracks_to, B_stresses_to, B_vehicles_to, B_numbers_to, B_weights_to, B_places_to, B_nextNumber_to, B_hour_to, B_rate_to, B_till_to, B_paid_to, B_crossed_to, B_sunk_to, Option.bind_some, ck_tt, inb_nI, nz_nI, fI_a, fI_u, nI_clamp, nI_add, pk_mul, pk_sub, pk_div, nI_ltI, nI_leI, nI_eq, imin_nI, imax_nI, bi_t, bi_f, if_pos, if_neg, l_0, l_1, l_2, l_3, l_4, l_5, l_6, l_7, l_8, l_9, l_10, l_20, l_24, l_47, l_48, l_50, l_57, l_58, l_59, l_60, l_61, l_83, l_93, l_99, l_200, l_581, l_664]
  · rw [if_neg c]
    simp (disch := omega) only [B_spans_to, B_lengths_to, B_jars_to, B_ages_to, B_cracks_to, B_stresses_to, B_vehicles_to, B_numbers_to, B_weights_to, B_places_to, B_nextNumber_to, B_hour_to, B_rate_to, B_till_to, B_paid_to, B_crossed_to, B_sunk_to, Option.bind_some, ck_tt, inb_nI, nz_nI, fI_a, fI_u, nI_clamp, nI_add, pk_mul, pk_sub, pk_div, nI_ltI, nI_leI, nI_eq, imin_nI, imax_nI, bi_t, bi_f, if_pos, if_neg, l_0, l_1, l_2, l_3, l_4, l_5, l_6, l_7, l_8, l_9, l_10, l_20, l_24, l_47, l_48, l_50, l_57, l_58, l_59, l_60, l_61, l_83, l_93, l_99, l_200, l_581, l_664]
theorem uN_uN (f : Nat → Nat) (i x y : Nat) : uN (uN f i x) i y = uN f i y := by
  funext j; unfold uN
  by_cases e : j = i
  · rw [if_pos e, if_pos e]
  · rw [if_neg e, if_neg e, if_neg e]
theorem ss_s {S : Br} {i t k : Nat} (ht : t = tF S i) (hk : k = kF S i) : toB (ss S (i + 1)) = mkB (nI (s_n S)) (fI (s_L S)) (fI (s_J S)) (fI (s_A S)) (fI (uN (pre (kF S) (s_K S) i) i k)) (fI (uN (pre (tF S) (s_T S) i) i t)) (nI (s_v S)) (fI (s_N S)) (fI (s_W S)) (fI (s_P S)) (nI (s_nx S)) (nI (s_hr S)) (nI (s_rt S)) (nI (s_tl S)) (nI (s_pd S)) (nI (s_cr S)) (nI (s_sk S)) := by
  rw [toB_ss, pre_s _ _ _ ht, pre_s _ _ _ hk]
theorem ss_k {S : Br} {i t : Nat} (ht : t = tF S i) (hk : kF S i = s_K S i) : toB (ss S (i + 1)) = mkB (nI (s_n S)) (fI (s_L S)) (fI (s_J S)) (fI (s_A S)) (fI (pre (kF S) (s_K S) i)) (fI (uN (pre (tF S) (s_T S) i) i t)) (nI (s_v S)) (fI (s_N S)) (fI (s_W S)) (fI (s_P S)) (nI (s_nx S)) (nI (s_hr S)) (nI (s_rt S)) (nI (s_tl S)) (nI (s_pd S)) (nI (s_cr S)) (nI (s_sk S)) := by
  rw [toB_ss, pre_s _ _ _ ht, pre_k _ _ _ hk]
theorem c_stress_L {H : Nat} {S : Br} (h : Iv H S) (K : Bv → Int32 → Option Bv) : ∀ (r fu i : Nat), i + r = s_n S → r < fu → F_X0_stressSpans_L2 K fu (toB (ss S i)) (nI i) = K (toB (ss S (s_n S))) (nI (s_n S)) := by
  have hn := h.1.1
  intro r
  induction r with
  | zero =>
    intro fu i hi hr
    obtain ⟨fu, rfl⟩ : ∃ f2, fu = f2 + 1 := ⟨fu - 1, by omega⟩
    have : i = s_n S := by omega
    subst this
    unfold F_X0_stressSpans_L2
    rw [B_spans_to, p_ss_n]
    simp (disch := omega) only [Option.bind_some, ck_tt, inb_nI, nz_nI, fI_a, fI_u, nI_clamp, nI_add, pk_mul, pk_sub, pk_div, nI_ltI, nI_leI, nI_eq, imin_nI, imax_nI, bi_t, bi_f, if_pos, if_neg, l_0, l_1, l_2, l_3, l_4, l_5, l_6, l_7, l_8, l_9, l_10, l_20, l_24, l_47, l_48, l_50, l_57, l_58, l_59, l_60, l_61, l_83, l_93, l_99, l_200, l_581, l_664]
  | succ r ih =>
    intro fu i hi hr
    obtain ⟨fu, rfl⟩ : ∃ f2, fu = f2 + 1 := ⟨fu - 1, by omega⟩
    have h9 := ih fu (i + 1) (by omega) (by omega)
    have hI := Iv_ss h i
    obtain ⟨b1, b2, b3, b4, b5, b6⟩ := h.2.1 i (by omega)
    unfold F_X0_stressSpans_L2
    rw [B_spans_to, p_ss_n, if_neg (nI_ge (by omega) (by omega)), c_strains hI (by rw [p_ss_n]; omega), Option.bind_some, ss_stn]
    by_cases c : stn S i = true
    · rw [c, if_neg (by decide), inb_nI (by omega) (by omega), ck_tt, ck_tt, ck_tt]
      have ht : tN S i = s_T S i + 1 := by unfold tN; rw [if_pos c]
      by_cases c3 : s_T S i + 1 = 3
      · have ht3 : tF S i = 0 := by unfold tF; rw [ht, if_pos c3]
        simp (disch := omega) only [B_spans_to, B_lengths_to, B_jars_to, B_ages_to, B_cracks_to, B_stresses_to, B_vehicles_to, B_numbers_to, B_weights_to, B_places_to, B_nextNumber_to, B_hour_to, B_rate_to, B_till_to, B_paid_to, B_crossed_to, B_sunk_to, p_ss_n, p_ss_L, p_ss_J, p_ss_A, p_ss_K, p_ss_T, p_ss_v, p_ss_N, p_ss_W, p_ss_P, p_ss_nx, p_ss_hr, p_ss_rt, p_ss_tl, p_ss_pd, p_ss_cr, p_ss_sk, pre_i, upd_at, c3, uN_uN, Option.bind_some, ck_tt, inb_nI, nz_nI, fI_a, fI_u, nI_clamp, nI_add, pk_mul, pk_sub, pk_div, nI_ltI, nI_leI, nI_eq, imin_nI, imax_nI, bi_t, bi_f, if_pos, if_neg, l_0, l_1, l_2, l_3, l_4, l_5, l_6, l_7, l_8, l_9, l_10, l_20, l_24, l_47, l_48, l_50, l_57, l_58, l_59, l_60, l_61, l_83, l_93, l_99, l_200, l_581, l_664]
        have ec := c_crack (S := st_T (ss S i) (uN (pre (tF S) (s_T S) i) i 0)) (k := i) (by rw [q_n_T, p_ss_n]; exact hn) (by rw [q_n_T, p_ss_n]; omega) (by rw [q_K_T, p_ss_K, pre_i _ _ (Nat.le_refl _)]; exact b5)
        rw [← toB_T, q_K_T] at ec
        simp (disch := omega) only [p_ss_n, p_ss_L, p_ss_J, p_ss_A, p_ss_K, p_ss_T, p_ss_v, p_ss_N, p_ss_W, p_ss_P, p_ss_nx, p_ss_hr, p_ss_rt, p_ss_tl, p_ss_pd, p_ss_cr, p_ss_sk, pre_i] at ec
        rw [ec, Option.bind_some]
        by_cases c9 : s_K S i < 9
        · rw [ss_s ht3.symm (k := s_K S i + 1) (by unfold kF; rw [ht, if_pos ⟨c3, c9⟩])] at h9
          rw [if_pos c9, ← toB_K]
          simp only [q_n_T, q_L_T, q_J_T, q_A_T, q_K_T, q_T_T, q_v_T, q_N_T, q_W_T, q_P_T, q_nx_T, q_hr_T, q_rt_T, q_tl_T, q_pd_T, q_cr_T, q_sk_T, p_ss_n, p_ss_L, p_ss_J, p_ss_A, p_ss_K, p_ss_T, p_ss_v, p_ss_N, p_ss_W, p_ss_P, p_ss_nx, p_ss_hr, p_ss_rt, p_ss_tl, p_ss_pd, p_ss_cr, p_ss_sk]
          exact h9
        · rw [ss_k ht3.symm (by unfold kF; rw [if_neg (fun z => c9 z.2)])] at h9
          rw [if_neg c9, ← toB_T]
          simp only [p_ss_n, p_ss_L, p_ss_J, p_ss_A, p_ss_K, p_ss_T, p_ss_v, p_ss_N, p_ss_W, p_ss_P, p_ss_nx, p_ss_hr, p_ss_rt, p_ss_tl, p_ss_pd, p_ss_cr, p_ss_sk]
          exact h9
      · rw [ss_k (t := s_T S i + 1) (by unfold tF; rw [ht, if_neg c3]) (by unfold kF; rw [ht, if_neg (fun z => c3 z.1)])] at h9
        simp (disch := omega) only [B_spans_to, B_lengths_to, B_jars_to, B_ages_to, B_cracks_to, B_stresses_to, B_vehicles_to, B_numbers_to, B_weights_to, B_places_to, B_nextNumber_to, B_hour_to, B_rate_to, B_till_to, B_paid_to, B_crossed_to, B_sunk_to, p_ss_n, p_ss_L, p_ss_J, p_ss_A, p_ss_K, p_ss_T, p_ss_v, p_ss_N, p_ss_W, p_ss_P, p_ss_nx, p_ss_hr, p_ss_rt, p_ss_tl, p_ss_pd, p_ss_cr, p_ss_sk, pre_i, upd_at, Option.bind_some, ck_tt, inb_nI, nz_nI, fI_a, fI_u, nI_clamp, nI_add, pk_mul, pk_sub, pk_div, nI_ltI, nI_leI, nI_eq, imin_nI, imax_nI, bi_t, bi_f, if_pos, if_neg, l_0, l_1, l_2, l_3, l_4, l_5, l_6, l_7, l_8, l_9, l_10, l_20, l_24, l_47, l_48, l_50, l_57, l_58, l_59, l_60, l_61, l_83, l_93, l_99, l_200, l_581, l_664]
        exact h9
    · have c : stn S i = false := by simpa using c
      have ht : tN S i = 0 := by unfold tN; rw [c]; rfl
      rw [c, if_pos (by decide), inb_nI (by omega) (by omega), ck_tt, ck_tt]
      rw [ss_k (t := 0) (by unfold tF; rw [ht]; rfl) (by unfold kF; rw [ht, if_neg (fun z => absurd z.1 (by decide))])] at h9
      simp (disch := omega) only [B_spans_to, B_lengths_to, B_jars_to, B_ages_to, B_cracks_to, B_stresses_to, B_vehicles_to, B_numbers_to, B_weights_to, B_places_to, B_nextNumber_to, B_hour_to, B_rate_to, B_till_to, B_paid_to, B_crossed_to, B_sunk_to, p_ss_n, p_ss_L, p_ss_J, p_ss_A, p_ss_K, p_ss_T, p_ss_v, p_ss_N, p_ss_W, p_ss_P, p_ss_nx, p_ss_hr, p_ss_rt, p_ss_tl, p_ss_pd, p_ss_cr, p_ss_sk, pre_i, upd_at, Option.bind_some, ck_tt, inb_nI, nz_nI, fI_a, fI_u, nI_clamp, nI_add, pk_mul, pk_sub, pk_div, nI_ltI, nI_leI, nI_eq, imin_nI, imax_nI, bi_t, bi_f, if_pos, if_neg, l_0, l_1, l_2, l_3, l_4, l_5, l_6, l_7, l_8, l_9, l_10, l_20, l_24, l_47, l_48, l_50, l_57, l_58, l_59, l_60, l_61, l_83, l_93, l_99, l_200, l_581, l_664]
      exact h9
theorem c_stress {H : Nat} {S : Br} (h : Iv H S) : F_X0_stressSpans (toB S) = some (toB (ss S (s_n S))) := by
  have h9 := c_stress_L h (fun b1 x2 => some b1) (s_n S) 1000 0 (by omega) (by have := h.1.1; omega)
  rw [ss_0] at h9
  exact h9
/-! cracks spread -/
def wst (S : Br) (k : Nat) : Nat := max (if k = 0 then 0 else s_K S (k - 1)) (if k + 1 < s_n S then s_K S (k + 1) else 0)
def sF (S : Br) (k : Nat) : Nat := if 5 ≤ wst S k ∧ s_K S k < wst S k then s_K S k + 1 else s_K S k
def sp (S : Br) (i : Nat) : Br := mkS (s_n S) (s_L S) (s_J S) (s_A S) (pre (sF S) (s_K S) i) (s_T S) (s_v S) (s_N S) (s_W S) (s_P S) (s_nx S) (s_hr S) (s_rt S) (s_tl S) (s_pd S) (s_cr S) (s_sk S)
theorem p_sp_n (S : Br) (i : Nat) : s_n (sp S i) = s_n S := rfl
theorem p_sp_L (S : Br) (i : Nat) : s_L (sp S i) = s_L S := rfl
theorem p_sp_J (S : Br) (i : Nat) : s_J (sp S i) = s_J S := rfl
theorem p_sp_A (S : Br) (i : Nat) : s_A (sp S i) = s_A S := rfl
theorem p_sp_K (S : Br) (i : Nat) : s_K (sp S i) = pre (sF S) (s_K S) i := rfl
theorem p_sp_T (S : Br) (i : Nat) : s_T (sp S i) = s_T S := rfl
theorem p_sp_v (S : Br) (i : Nat) : s_v (sp S i) = s_v S := rfl
theorem p_sp_N (S : Br) (i : Nat) : s_N (sp S i) = s_N S := rfl
theorem p_sp_W (S : Br) (i : Nat) : s_W (sp S i) = s_W S := rfl
theorem p_sp_P (S : Br) (i : Nat) : s_P (sp S i) = s_P S := rfl
theorem p_sp_nx (S : Br) (i : Nat) : s_nx (sp S i) = s_nx S := rfl
theorem p_sp_hr (S : Br) (i : Nat) : s_hr (sp S i) = s_hr S := rfl
theorem p_sp_rt (S : Br) (i : Nat) : s_rt (sp S i) = s_rt S := rfl
theorem p_sp_tl (S : Br) (i : Nat) : s_tl (sp S i) = s_tl S := rfl
theorem p_sp_pd (S : Br) (i : Nat) : s_pd (sp S i) = s_pd S := rfl
theorem p_sp_cr (S : Br) (i : Nat) : s_cr (sp S i) = s_cr S := rfl
theorem p_sp_sk (S : Br) (i : Nat) : s_sk (sp S i) = s_sk S := rfl
theorem toB_sp (S : Br) (i : Nat) : toB (sp S i) = mkB (nI (s_n S)) (fI (s_L S)) (fI (s_J S)) (fI (s_A S)) (fI (pre (sF S) (s_K S) i)) (fI (s_T S)) (nI (s_v S)) (fI (s_N S)) (fI (s_W S)) (fI (s_P S)) (nI (s_nx S)) (nI (s_hr S)) (nI (s_rt S)) (nI (s_tl S)) (nI (s_pd S)) (nI (s_cr S)) (nI (s_sk S)) := rfl
theorem sp_0 (S : Br) : sp S 0 = S := by unfold sp; rw [pre_0]; exact mkS_eta S
theorem wst_le {H : Nat} {S : Br} (h : Iv H S) {k : Nat} (hk : k < s_n S) : wst S k ≤ 9 := by
  unfold wst
  have h1 : (if k = 0 then 0 else s_K S (k - 1)) ≤ 9 := by
    by_cases c : k = 0
    · rw [if_pos c]; omega
    · rw [if_neg c]; exact (h.2.1 (k - 1) (by omega)).2.2.2.2.1
  have h2 : (if k + 1 < s_n S then s_K S (k + 1) else 0) ≤ 9 := by
    by_cases c : k + 1 < s_n S
    · rw [if_pos c]; exact (h.2.1 (k + 1) c).2.2.2.2.1
    · rw [if_neg c]; omega
  omega
theorem Iv_sp {H : Nat} {S : Br} (h : Iv H S) (i : Nat) : Iv H (sp S i) := by
  have h0 := h
  obtain ⟨a, b, c, d⟩ := h
  unfold Iv
  simp only [p_sp_n, p_sp_L, p_sp_J, p_sp_A, p_sp_K, p_sp_T, p_sp_v, p_sp_N, p_sp_W, p_sp_P, p_sp_nx, p_sp_hr, p_sp_rt, p_sp_tl, p_sp_pd, p_sp_cr, p_sp_sk]
  refine ⟨a, ?_, c, d⟩
  intro k hk
  obtain ⟨b1, b2, b3, b4, b5, b6⟩ := b k hk
  refine ⟨b1, b2, b3, b4, ?_, b6⟩
  have hw := wst_le h0 hk
  unfold pre sF
  by_cases c1 : k < i
  · rw [if_pos c1]
    by_cases c2 : 5 ≤ wst S k ∧ s_K S k < wst S k
    · rw [if_pos c2]; omega
    · rw [if_neg c2]; exact b5
  · rw [if_neg c1]; exact b5
def lfK (S : Br) (i : Nat) : Nat := if i = 0 then 0 else s_K S (i - 1)
theorem lfK_s (S : Br) (i : Nat) : lfK S (i + 1) = s_K S i := by unfold lfK; rw [if_neg (by omega)]; rfl
theorem c_spread_L {H : Nat} {S : Br} (h : Iv H S) (K : Bv → Option Bv) : ∀ (r fu i : Nat), i + r = s_n S → r < fu → F_X0_spreadCracks_L4 (fun b _ _ => K b) fu (toB (sp S i)) (nI (lfK S i)) (nI i) = K (toB (sp S (s_n S))) := by
  have hn := h.1.1
  intro r
  induction r with
  | zero =>
    intro fu i hi hr
    obtain ⟨fu, rfl⟩ : ∃ f2, fu = f2 + 1 := ⟨fu - 1, by omega⟩
    have : i = s_n S := by omega
    subst this
    unfold F_X0_spreadCracks_L4
    rw [B_spans_to, p_sp_n]
    simp (disch := omega) only [Option.bind_some, ck_tt, inb_nI, nz_nI, fI_a, fI_u, nI_clamp, nI_add, pk_mul, pk_sub, pk_div, nI_ltI, nI_leI, nI_eq, imin_nI, imax_nI, bi_t, bi_f, if_pos, if_neg, l_0, l_1, l_2, l_3, l_4, l_5, l_6, l_7, l_8, l_9, l_10, l_20, l_24, l_47, l_48, l_50, l_57, l_58, l_59, l_60, l_61, l_83, l_93, l_99, l_200, l_581, l_664]
  | succ r ih =>
    intro fu i hi hr
    obtain ⟨fu, rfl⟩ : ∃ f2, fu = f2 + 1 := ⟨fu - 1, by omega⟩
    have h9 := ih fu (i + 1) (by omega) (by omega)
    obtain ⟨b1, b2, b3, b4, b5, b6⟩ := h.2.1 i (by omega)
    have hw := wst_le h (k := i) (by omega)
    have hw2 : wst S i = max (lfK S i) (if i + 1 < s_n S then s_K S (i + 1) else 0) := rfl
    have hl : lfK S i ≤ 9 := by omega
    have eK : s_K (sp S i) i = s_K S i := by rw [p_sp_K, pre_i _ _ (Nat.le_refl _)]
    have ecr := c_crack (S := sp S i) (k := i) (by rw [p_sp_n]; exact hn) (by rw [p_sp_n]; omega) (by rw [eK]; exact b5)
    rw [eK, p_sp_K] at ecr
    have eN : ¬ (5 ≤ wst S i ∧ s_K S i < wst S i) → sp S (i + 1) = sp S i := by
      intro z
      unfold sp
      rw [pre_k _ _ _ (by unfold sF; rw [if_neg z])]
    have eY : (5 ≤ wst S i ∧ s_K S i < wst S i) → toB (if s_K S i < 9 then st_K (sp S i) (uN (pre (sF S) (s_K S) i) i (s_K S i + 1)) else sp S i) = toB (sp S (i + 1)) := by
      intro z
      rw [if_pos (by omega), ← toB_K, toB_sp S (i + 1), pre_s _ _ _ (by unfold sF; rw [if_pos z])]
      simp only [p_sp_n, p_sp_L, p_sp_J, p_sp_A, p_sp_K, p_sp_T, p_sp_v, p_sp_N, p_sp_W, p_sp_P, p_sp_nx, p_sp_hr, p_sp_rt, p_sp_tl, p_sp_pd, p_sp_cr, p_sp_sk]
    rw [lfK_s] at h9
    unfold F_X0_spreadCracks_L4
    rw [B_spans_to, p_sp_n, if_neg (nI_ge (by omega) (by omega)), inb_nI (by omega) (by omega), ck_tt]
    rw [show nI i + 1 = nI (i + 1) from nI_add i 1]
    by_cases c : i + 1 < s_n S
    · rw [if_pos c] at hw2
      have b5' := (h.2.1 (i + 1) c).2.2.2.2.1
      rw [hs_t (S := sp S i) (by rw [p_sp_n]; exact c) (by rw [p_sp_n]; exact hn), Option.bind_some, if_neg (by decide), inb_nI (by omega) (by omega), ck_tt]
      simp (disch := omega) only [B_cracks_to, p_sp_K, pre_i, imax_nI, nI_clamp, fI_a]
      rw [← hw2]
      by_cases c1 : wst S i < 5
      · rw [eN (by omega)] at h9
        rw [if_pos (show nI (wst S i) < (5 : Int32) from (show nI (wst S i) < nI 5 from nI_lt c1 (by omega)))]
        exact h9
      · rw [if_neg (show ¬ nI (wst S i) < (5 : Int32) from (show ¬ nI (wst S i) < nI 5 from nI_nlt (by omega) (by omega)))]
        by_cases c2 : wst S i ≤ s_K S i
        · rw [eN (by omega)] at h9
          rw [if_pos ((nI_leI (by omega) (by omega)).mpr c2)]
          exact h9
        · rw [if_neg (fun z => c2 ((nI_leI (by omega) (by omega)).mp z)), ecr, Option.bind_some, eY (by omega)]
          exact h9
    · rw [if_neg c] at hw2
      rw [hs_f (S := sp S i) (Or.inr (nI_le (by rw [p_sp_n]; omega) (by omega))), Option.bind_some, if_pos (by decide)]
      have ez : imax (nI (lfK S i)) 0 = nI (wst S i) := by rw [l_0, imax_nI (by omega) (by omega), hw2]
      rw [ez]
      simp (disch := omega) only [B_cracks_to, p_sp_K, pre_i, nI_clamp, fI_a]
      by_cases c1 : wst S i < 5
      · rw [eN (by omega)] at h9
        rw [if_pos (show nI (wst S i) < (5 : Int32) from (show nI (wst S i) < nI 5 from nI_lt c1 (by omega)))]
        exact h9
      · rw [if_neg (show ¬ nI (wst S i) < (5 : Int32) from (show ¬ nI (wst S i) < nI 5 from nI_nlt (by omega) (by omega)))]
        by_cases c2 : wst S i ≤ s_K S i
        · rw [eN (by omega)] at h9
          rw [if_pos ((nI_leI (by omega) (by omega)).mpr c2)]
          exact h9
        · rw [if_neg (fun z => c2 ((nI_leI (by omega) (by omega)).mp z)), ecr, Option.bind_some, eY (by omega)]
          exact h9
theorem c_spread {H : Nat} {S : Br} (h : Iv H S) : F_X0_spreadCracks (toB S) = some (toB (sp S (s_n S))) := by
  have h9 := c_spread_L h (fun b => some b) (s_n S) 1000 0 (by omega) (by have := h.1.1; omega)
  rw [sp_0] at h9
  exact h9
/-! vehicles sink -/
def skS (S : Br) (q : Nat) : Br := mkS (s_n S) (s_L S) (s_J S) (s_A S) (s_K S) (s_T S) (s_v S - 1) (shU (s_N S) q (s_v S - 1)) (shU (s_W S) q (s_v S - 1)) (shU (s_P S) q (s_v S - 1)) (s_nx S) (s_hr S) (s_rt S) (s_tl S) (s_pd S) (s_cr S) (s_sk S + 1)
theorem p_skS_n (S : Br) (q : Nat) : s_n (skS S q) = s_n S := rfl
theorem p_skS_L (S : Br) (q : Nat) : s_L (skS S q) = s_L S := rfl
theorem p_skS_J (S : Br) (q : Nat) : s_J (skS S q) = s_J S := rfl
theorem p_skS_A (S : Br) (q : Nat) : s_A (skS S q) = s_A S := rfl
theorem p_skS_K (S : Br) (q : Nat) : s_K (skS S q) = s_K S := rfl
theorem p_skS_T (S : Br) (q : Nat) : s_T (skS S q) = s_T S := rfl
theorem p_skS_v (S : Br) (q : Nat) : s_v (skS S q) = s_v S - 1 := rfl
theorem p_skS_N (S : Br) (q : Nat) : s_N (skS S q) = shU (s_N S) q (s_v S - 1) := rfl
theorem p_skS_W (S : Br) (q : Nat) : s_W (skS S q) = shU (s_W S) q (s_v S - 1) := rfl
theorem p_skS_P (S : Br) (q : Nat) : s_P (skS S q) = shU (s_P S) q (s_v S - 1) := rfl
theorem p_skS_nx (S : Br) (q : Nat) : s_nx (skS S q) = s_nx S := rfl
theorem p_skS_hr (S : Br) (q : Nat) : s_hr (skS S q) = s_hr S := rfl
theorem p_skS_rt (S : Br) (q : Nat) : s_rt (skS S q) = s_rt S := rfl
theorem p_skS_tl (S : Br) (q : Nat) : s_tl (skS S q) = s_tl S := rfl
theorem p_skS_pd (S : Br) (q : Nat) : s_pd (skS S q) = s_pd S := rfl
theorem p_skS_cr (S : Br) (q : Nat) : s_cr (skS S q) = s_cr S := rfl
theorem p_skS_sk (S : Br) (q : Nat) : s_sk (skS S q) = s_sk S + 1 := rfl
theorem toB_skS (S : Br) (q : Nat) : toB (skS S q) = mkB (nI (s_n S)) (fI (s_L S)) (fI (s_J S)) (fI (s_A S)) (fI (s_K S)) (fI (s_T S)) (nI (s_v S - 1)) (fI (shU (s_N S) q (s_v S - 1))) (fI (shU (s_W S) q (s_v S - 1))) (fI (shU (s_P S) q (s_v S - 1))) (nI (s_nx S)) (nI (s_hr S)) (nI (s_rt S)) (nI (s_tl S)) (nI (s_pd S)) (nI (s_cr S)) (nI (s_sk S + 1)) := rfl
theorem sk_B (S : Br) (q : Nat) : mkB (B_spans (toB (rmv S q))) (B_lengths (toB (rmv S q))) (B_jars (toB (rmv S q))) (B_ages (toB (rmv S q))) (B_cracks (toB (rmv S q))) (B_stresses (toB (rmv S q))) (B_vehicles (toB (rmv S q))) (B_numbers (toB (rmv S q))) (B_weights (toB (rmv S q))) (B_places (toB (rmv S q))) (B_nextNumber (toB (rmv S q))) (B_hour (toB (rmv S q))) (B_rate (toB (rmv S q))) (B_till (toB (rmv S q))) (B_paid (toB (rmv S q))) (B_crossed (toB (rmv S q))) ((B_sunk (toB (rmv S q))) + 1) = toB (skS S q) := by
  rw [toB_skS]
  simp only [B_spans_to, B_lengths_to, B_jars_to, B_ages_to, B_cracks_to, B_stresses_to, B_vehicles_to, B_numbers_to, B_weights_to, B_places_to, B_nextNumber_to, B_hour_to, B_rate_to, B_till_to, B_paid_to, B_crossed_to, B_sunk_to, p_rmv_n, p_rmv_L, p_rmv_J, p_rmv_A, p_rmv_K, p_rmv_T, p_rmv_v, p_rmv_N, p_rmv_W, p_rmv_P, p_rmv_nx, p_rmv_hr, p_rmv_rt, p_rmv_tl, p_rmv_pd, p_rmv_cr, p_rmv_sk, l_1, nI_add]
def snk (k : Nat) : Nat → Br → Br
  | 0, S => S
  | r + 1, S => if ld S k ≤ str S k then S else if s_P S r = k then snk k r (skS S r) else snk k r S
theorem Iv_sk1 {H : Nat} {S : Br} {q : Nat} (h : Iv H S) (hq : q < s_v S) : Iv H (skS S q) := by
  have h0 := Iv_rmv h hq
  have a6' := h.1.2.2.2.2.2.1
  unfold Iv at h0 ⊢
  simp only [p_rmv_n, p_rmv_L, p_rmv_J, p_rmv_A, p_rmv_K, p_rmv_T, p_rmv_v, p_rmv_N, p_rmv_W, p_rmv_P, p_rmv_nx, p_rmv_hr, p_rmv_rt, p_rmv_tl, p_rmv_pd, p_rmv_cr, p_rmv_sk] at h0
  simp only [p_skS_n, p_skS_L, p_skS_J, p_skS_A, p_skS_K, p_skS_T, p_skS_v, p_skS_N, p_skS_W, p_skS_P, p_skS_nx, p_skS_hr, p_skS_rt, p_skS_tl, p_skS_pd, p_skS_cr, p_skS_sk]
  obtain ⟨⟨a1, a2, a3, a4, a5, a6, a7, a8, a9⟩, b, c, d⟩ := h0
  exact ⟨⟨a1, a2, a3, a4, a5, by omega, a7, a8, a9⟩, b, c, d⟩
theorem Iv_snk {H k : Nat} : ∀ (r : Nat) (S : Br), Iv H S → r ≤ s_v S → Iv H (snk k r S) := by
  intro r
  induction r with
  | zero => intro S h _; exact h
  | succ r ih =>
    intro S h hr
    unfold snk
    by_cases c : ld S k ≤ str S k
    · rw [if_pos c]; exact h
    · rw [if_neg c]
      by_cases c2 : s_P S r = k
      · rw [if_pos c2]; exact ih _ (Iv_sk1 h (by omega)) (by rw [p_skS_v]; omega)
      · rw [if_neg c2]; exact ih _ h (by omega)
theorem snk_n {k : Nat} : ∀ (r : Nat) (S : Br), s_n (snk k r S) = s_n S := by
  intro r
  induction r with
  | zero => intro S; rfl
  | succ r ih =>
    intro S
    unfold snk
    by_cases c : ld S k ≤ str S k
    · rw [if_pos c]
    · rw [if_neg c]
      by_cases c2 : s_P S r = k
      · rw [if_pos c2, ih, p_skS_n]
      · rw [if_neg c2, ih]
theorem sk_str (S : Br) (q k : Nat) : str (skS S q) k = str S k := by
  unfold str
  simp only [p_skS_n, p_skS_L, p_skS_J, p_skS_A, p_skS_K, p_skS_T, p_skS_v, p_skS_N, p_skS_W, p_skS_P, p_skS_nx, p_skS_hr, p_skS_rt, p_skS_tl, p_skS_pd, p_skS_cr, p_skS_sk]
theorem c_sink_L {H k y : Nat} (K : Bv → Option Bv) : ∀ (r fu : Nat) (S : Br), Iv H S → k < s_n S → y = str S k → r ≤ s_v S → r < fu → F_X0_sinkVehicles_L23 (nI k) (nI y) (fun b _ => K b) fu (toB S) (nI r + (-1)) = K (toB (snk k r S)) := by
  intro r
  induction r with
  | zero =>
    intro fu S h hk hy hr hfu
    obtain ⟨fu, rfl⟩ : ∃ f2, fu = f2 + 1 := ⟨fu - 1, by omega⟩
    unfold F_X0_sinkVehicles_L23 snk
    rw [if_pos (by decide)]
  | succ r ih =>
    intro fu S h hk hy hr hfu
    obtain ⟨fu, rfl⟩ : ∃ f2, fu = f2 + 1 := ⟨fu - 1, by omega⟩
    have hv := h.1.2.1
    have hn := h.1.1
    have hp := (h.2.2.1 r (by omega)).2.2.1
    have hld := h.ldb k
    have hst := h.strb hk
    unfold F_X0_sinkVehicles_L23 snk
    rw [pk_m1, if_neg (nI_pos (by omega)), c_ld h (by omega), Option.bind_some, hy]
    by_cases c : ld S k ≤ str S k
    · rw [if_pos ((nI_leI (by omega) (by omega)).mpr c), if_pos c]
    · rw [if_neg (fun z => c ((nI_leI (by omega) (by omega)).mp z)), if_neg c, inb_nI (by omega) (by omega), ck_tt, B_places_to, nI_clamp (by omega), fI_a]
      by_cases c2 : s_P S r = k
      · rw [if_neg (fun z => z (congrArg nI c2)), if_pos c2, c_rmv hv (by omega), Option.bind_some]
        have h9 := ih fu (skS S r) (Iv_sk1 h (by omega)) (by rw [p_skS_n]; exact hk) (by rw [sk_str]; exact hy) (by rw [p_skS_v]; omega) (by omega)
        rw [hy] at h9
        rw [sk_B]
        exact h9
      · rw [if_pos (fun z => c2 ((nI_eq (by omega) (by omega)).mp z)), if_neg c2]
        have h9 := ih fu S h hk hy (by omega) (by omega)
        rw [hy] at h9
        exact h9
def snkA : Nat → Nat → Br → Br
  | 0, _, S => S
  | r + 1, i, S => snkA r (i + 1) (snk i (s_v S) S)
theorem c_sinkA_L {H : Nat} (K : Bv → Option Bv) : ∀ (r fu i : Nat) (S : Br), Iv H S → i + r = s_n S → r < fu → F_X0_sinkVehicles_L2 (fun b _ => K b) fu (toB S) (nI i) = K (toB (snkA r i S)) := by
  intro r
  induction r with
  | zero =>
    intro fu i S h hi hr
    obtain ⟨fu, rfl⟩ : ∃ f2, fu = f2 + 1 := ⟨fu - 1, by omega⟩
    have hn := h.1.1
    have : i = s_n S := by omega
    subst this
    unfold F_X0_sinkVehicles_L2 snkA
    simp (disch := omega) only [B_spans_to, B_lengths_to, B_jars_to, B_ages_to, B_cracks_to, B_stresses_to, B_vehicles_to, B_numbers_to, B_weights_to, B_places_to, B_nextNumber_to, B_hour_to, B_rate_to, B_till_to, B_paid_to, B_crossed_to, B_sunk_to, Option.bind_some, ck_tt, inb_nI, nz_nI, fI_a, fI_u, nI_clamp, nI_add, pk_mul, pk_sub, pk_div, nI_ltI, nI_leI, nI_eq, imin_nI, imax_nI, bi_t, bi_f, if_pos, if_neg, l_0, l_1, l_2, l_3, l_4, l_5, l_6, l_7, l_8, l_9, l_10, l_20, l_24, l_47, l_48, l_50, l_57, l_58, l_59, l_60, l_61, l_83, l_93, l_99, l_200, l_581, l_664]
  | succ r ih =>
    intro fu i S h hi hr
    obtain ⟨fu, rfl⟩ : ∃ f2, fu = f2 + 1 := ⟨fu - 1, by omega⟩
    have hn := h.1.1
    have hv := h.1.2.1
    unfold F_X0_sinkVehicles_L2 snkA
    rw [B_spans_to, if_neg (nI_ge (by omega) (by omega)), c_str h (by omega), Option.bind_some, B_vehicles_to, Int32.sub_eq_add_neg]
    rw [c_sink_L (H := H) (fun b => F_X0_sinkVehicles_L2 (fun b _ => K b) fu b (nI i + 1)) (s_v S) 1000 S h (by omega) rfl (Nat.le_refl _) (by omega), l_1, nI_add]
    exact ih fu (i + 1) _ (Iv_snk _ S h (Nat.le_refl _)) (by rw [snk_n]; omega) (by omega)
theorem c_sink {H : Nat} {S : Br} (h : Iv H S) : F_X0_sinkVehicles (toB S) = some (toB (snkA (s_n S) 0 S)) :=
  c_sinkA_L (fun b => some b) (s_n S) 1000 0 S h (by omega) (by have := h.1.1; omega)
theorem Iv_snkA {H : Nat} : ∀ (r i : Nat) (S : Br), Iv H S → Iv H (snkA r i S) := by
  intro r
  induction r with
  | zero => intro i S h; exact h
  | succ r ih => intro i S h; exact ih (i + 1) _ (Iv_snk _ S h (Nat.le_refl _))
theorem snkA_n : ∀ (r i : Nat) (S : Br), s_n (snkA r i S) = s_n S := by
  intro r
  induction r with
  | zero => intro i S; rfl
  | succ r ih => intro i S; show s_n (snkA r (i + 1) _) = _; rw [ih, snk_n]
/-! an hour -/
def hA1 (S : Br) : Br := ag (st_hr S (s_hr S + 1)) (s_n S)
def hA2 (S : Br) : Br := drv (s_v S) (hA1 S) 0
def hA3 (S : Br) : Br := ss (hA2 S) (s_n (hA2 S))
def hA4 (S : Br) : Br := if s_hr (hA3 S) % 6 = 0 then sp (hA3 S) (s_n (hA3 S)) else hA3 S
def hrs (S : Br) : Br := snkA (s_n (hA4 S)) 0 (hA4 S)
theorem Iv_h0 {H : Nat} {S : Br} (h : Iv H S) (hH : H + 1 ≤ 900000) : Iv (H + 1) (st_hr S (s_hr S + 1)) := by
  obtain ⟨⟨a1, a2, a3, a4, a5, a6, a7, a8, a9⟩, b, c, d⟩ := h
  unfold Iv
  simp only [q_n_hr, q_L_hr, q_J_hr, q_A_hr, q_K_hr, q_T_hr, q_v_hr, q_N_hr, q_W_hr, q_P_hr, q_nx_hr, q_hr_hr, q_rt_hr, q_tl_hr, q_pd_hr, q_cr_hr, q_sk_hr]
  refine ⟨⟨a1, a2, by omega, by omega, a5, a6, a7, a8, hH⟩, ?_, c, d⟩
  intro k hk
  obtain ⟨b1, b2, b3, b4, b5, b6⟩ := b k hk
  exact ⟨b1, b2, b3, by omega, b5, b6⟩
theorem Iv_h1 {H : Nat} {S : Br} (h : Iv H S) (hH : H + 1 ≤ 900000) : Iv (H + 1) (hA1 S) := by
  obtain ⟨⟨a1, a2, a3, a4, a5, a6, a7, a8, a9⟩, b, c, d⟩ := h
  unfold Iv hA1
  simp only [p_ag_n, p_ag_L, p_ag_J, p_ag_A, p_ag_K, p_ag_T, p_ag_v, p_ag_N, p_ag_W, p_ag_P, p_ag_nx, p_ag_hr, p_ag_rt, p_ag_tl, p_ag_pd, p_ag_cr, p_ag_sk, q_n_hr, q_L_hr, q_J_hr, q_A_hr, q_K_hr, q_T_hr, q_v_hr, q_N_hr, q_W_hr, q_P_hr, q_nx_hr, q_hr_hr, q_rt_hr, q_tl_hr, q_pd_hr, q_cr_hr, q_sk_hr]
  refine ⟨⟨a1, a2, by omega, by omega, a5, a6, a7, a8, hH⟩, ?_, c, d⟩
  intro k hk
  obtain ⟨b1, b2, b3, b4, b5, b6⟩ := b k hk
  refine ⟨b1, b2, b3, ?_, b5, b6⟩
  rw [pre_l _ _ hk]
  unfold agF
  by_cases c1 : 0 < s_J S k
  · rw [if_pos c1]; omega
  · rw [if_neg c1]; omega
theorem hA1_v (S : Br) : s_v (hA1 S) = s_v S := by
  unfold hA1
  rw [p_ag_v, q_v_hr]
theorem Iv_h2 {H : Nat} {S : Br} (h : Iv H S) (hH : H + 1 ≤ 900000) : Iv (H + 1) (hA2 S) := Iv_drv _ _ 0 (Iv_h1 h hH) (by rw [hA1_v]; exact Nat.zero_add _)
theorem Iv_h3 {H : Nat} {S : Br} (h : Iv H S) (hH : H + 1 ≤ 900000) : Iv (H + 1) (hA3 S) := Iv_ss (Iv_h2 h hH) _
theorem Iv_h4 {H : Nat} {S : Br} (h : Iv H S) (hH : H + 1 ≤ 900000) : Iv (H + 1) (hA4 S) := by
  unfold hA4
  by_cases c : s_hr (hA3 S) % 6 = 0
  · rw [if_pos c]; exact Iv_sp (Iv_h3 h hH) _
  · rw [if_neg c]; exact Iv_h3 h hH
theorem Iv_hrs {H : Nat} {S : Br} (h : Iv H S) (hH : H + 1 ≤ 900000) : Iv (H + 1) (hrs S) := Iv_snkA _ _ _ (Iv_h4 h hH)
def hrN : Nat → Br → Br
  | 0, S => S
  | r + 1, S => hrN r (hrs S)
theorem Iv_hrN : ∀ (r H : Nat) (S : Br), Iv H S → H + r ≤ 900000 → Iv (H + r) (hrN r S) := by
  intro r
  induction r with
  | zero => intro H S h _; exact h
  | succ r ih =>
    intro H S h hH
    have := ih (H + 1) (hrs S) (Iv_hrs h (by omega)) (by omega)
    rw [show H + (r + 1) = H + 1 + r by omega]
    exact this
theorem c_hours_L (K : Bv → Option (Int32 × Bv)) (h0 : Nat) (y : Int32) (hh : h0 < 1000) : ∀ (r fu i H : Nat) (S : Br), Iv H S → H + r ≤ 900000 → i + r = h0 → r < fu → F_X0_letHoursPass_L7 (nI h0) y (fun b _ => K b) fu (toB S) (nI i) = K (toB (hrN r S)) := by
  intro r
  induction r with
  | zero =>
    intro fu i H S h hH hi hr
    obtain ⟨fu, rfl⟩ : ∃ f2, fu = f2 + 1 := ⟨fu - 1, by omega⟩
    have : i = h0 := by omega
    subst this
    unfold F_X0_letHoursPass_L7 hrN
    rw [if_pos (nI_le (Nat.le_refl _) (by omega))]
  | succ r ih =>
    intro fu i H S h hH hi hr
    obtain ⟨fu, rfl⟩ : ∃ f2, fu = f2 + 1 := ⟨fu - 1, by omega⟩
    have hH1 : H + 1 ≤ 900000 := by omega
    have g0 := c_age (Iv_h0 h hH1)
    have g1 := c_move (Iv_h1 h hH1)
    have g2 := c_stress (Iv_h2 h hH1)
    have g3 := c_spread (Iv_h3 h hH1)
    have g4 := c_sink (Iv_h4 h hH1)
    have hI := Iv_h3 h hH1
    have hb := hI.1.2.2.2.1
    have h9 := ih fu (i + 1) (H + 1) (hrs S) (Iv_hrs h hH1) (by omega) (by omega) (by omega)
    unfold F_X0_letHoursPass_L7 hrN
    rw [if_neg (nI_ge (by omega) (by omega)), show nI i + 1 = nI (i + 1) from nI_add i 1]
    have e0 : (mkB (B_spans (toB S)) (B_lengths (toB S)) (B_jars (toB S)) (B_ages (toB S)) (B_cracks (toB S)) (B_stresses (toB S)) (B_vehicles (toB S)) (B_numbers (toB S)) (B_weights (toB S)) (B_places (toB S)) (B_nextNumber (toB S)) ((B_hour (toB S)) + 1) (B_rate (toB S)) (B_till (toB S)) (B_paid (toB S)) (B_crossed (toB S)) (B_sunk (toB S))) = toB (st_hr S (s_hr S + 1)) := by
      rw [← toB_hr]
      simp only [B_spans_to, B_lengths_to, B_jars_to, B_ages_to, B_cracks_to, B_stresses_to, B_vehicles_to, B_numbers_to, B_weights_to, B_places_to, B_nextNumber_to, B_hour_to, B_rate_to, B_till_to, B_paid_to, B_crossed_to, B_sunk_to, l_1, nI_add]
    rw [e0, g0, q_n_hr, Option.bind_some, show ag (st_hr S (s_hr S + 1)) (s_n S) = hA1 S from rfl, g1, Option.bind_some, hA1_v, show drv (s_v S) (hA1 S) 0 = hA2 S from rfl, g2, Option.bind_some, show ss (hA2 S) (s_n (hA2 S)) = hA3 S from rfl]
    have ez : nz 6 = true := by decide
    rw [ez, ck_tt, B_hour_to, l_6, pk_rem (by omega) (by omega) (by omega), l_0]
    by_cases c : s_hr (hA3 S) % 6 = 0
    · have e4 : hA4 S = sp (hA3 S) (s_n (hA3 S)) := by unfold hA4; rw [if_pos c]
      rw [c, if_neg (fun z => z rfl), g3, Option.bind_some, ← e4, g4, Option.bind_some]
      exact h9
    · have e4 : hA4 S = hA3 S := by unfold hA4; rw [if_neg c]
      rw [if_pos (fun z => c ((nI_eq (by omega) (by omega)).mp z)), ← e4, g4, Option.bind_some]
      exact h9
theorem c_hours {H : Nat} {S : Br} (h : Iv H S) {r : Nat} (hr : H + r ≤ 900000) (h9 : r < 1000) : F_X0_letHoursPass (toB S) (nI r) = some (nI (s_cr (hrN r S)) - nI (s_cr S), toB (hrN r S)) := by
  unfold F_X0_letHoursPass
  exact c_hours_L (fun b7 => some ((B_crossed b7) - (B_crossed (toB S)), b7)) r (B_crossed (toB S)) h9 r 1000 0 H S h hr (by omega) (by omega)
