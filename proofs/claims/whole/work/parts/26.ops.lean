/-! pouring -/
def pouS (S : Br) (k x : Nat) : Br := mkS (s_n S) (s_L S) (uN (s_J S) k (s_J S k + x)) (uN (s_A S) k (s_A S k * s_J S k / (s_J S k + x))) (s_K S) (s_T S) (s_v S) (s_N S) (s_W S) (s_P S) (s_nx S) (s_hr S) (s_rt S) (s_tl S) (s_pd S) (s_cr S) (s_sk S)
theorem p_pouS_n (S : Br) (k x : Nat) : s_n (pouS S k x) = s_n S := rfl
theorem p_pouS_L (S : Br) (k x : Nat) : s_L (pouS S k x) = s_L S := rfl
theorem p_pouS_J (S : Br) (k x : Nat) : s_J (pouS S k x) = uN (s_J S) k (s_J S k + x) := rfl
theorem p_pouS_A (S : Br) (k x : Nat) : s_A (pouS S k x) = uN (s_A S) k (s_A S k * s_J S k / (s_J S k + x)) := rfl
theorem p_pouS_K (S : Br) (k x : Nat) : s_K (pouS S k x) = s_K S := rfl
theorem p_pouS_T (S : Br) (k x : Nat) : s_T (pouS S k x) = s_T S := rfl
theorem p_pouS_v (S : Br) (k x : Nat) : s_v (pouS S k x) = s_v S := rfl
theorem p_pouS_N (S : Br) (k x : Nat) : s_N (pouS S k x) = s_N S := rfl
theorem p_pouS_W (S : Br) (k x : Nat) : s_W (pouS S k x) = s_W S := rfl
theorem p_pouS_P (S : Br) (k x : Nat) : s_P (pouS S k x) = s_P S := rfl
theorem p_pouS_nx (S : Br) (k x : Nat) : s_nx (pouS S k x) = s_nx S := rfl
theorem p_pouS_hr (S : Br) (k x : Nat) : s_hr (pouS S k x) = s_hr S := rfl
theorem p_pouS_rt (S : Br) (k x : Nat) : s_rt (pouS S k x) = s_rt S := rfl
theorem p_pouS_tl (S : Br) (k x : Nat) : s_tl (pouS S k x) = s_tl S := rfl
theorem p_pouS_pd (S : Br) (k x : Nat) : s_pd (pouS S k x) = s_pd S := rfl
theorem p_pouS_cr (S : Br) (k x : Nat) : s_cr (pouS S k x) = s_cr S := rfl
theorem p_pouS_sk (S : Br) (k x : Nat) : s_sk (pouS S k x) = s_sk S := rfl
theorem toB_pouS (S : Br) (k x : Nat) : toB (pouS S k x) = mkB (nI (s_n S)) (fI (s_L S)) (fI (uN (s_J S) k (s_J S k + x))) (fI (uN (s_A S) k (s_A S k * s_J S k / (s_J S k + x)))) (fI (s_K S)) (fI (s_T S)) (nI (s_v S)) (fI (s_N S)) (fI (s_W S)) (fI (s_P S)) (nI (s_nx S)) (nI (s_hr S)) (nI (s_rt S)) (nI (s_tl S)) (nI (s_pd S)) (nI (s_cr S)) (nI (s_sk S)) := rfl
theorem pou_age (A J x : Nat) (hx : 1 ≤ x) : A * J / (J + x) ≤ A := by
  refine Nat.div_le_of_le_mul ?_
  rw [Nat.mul_comm (J + x) A]
  exact Nat.mul_le_mul_left A (by omega)
theorem Iv_pou {H : Nat} {S : Br} (h : Iv H S) (hH : H + 48 ≤ 900000) {k x : Nat} (hx : 1 ≤ x) (hs : s_J S k + x ≤ 50) : Iv (H + 48) (pouS S k x) := by
  obtain ⟨⟨a1, a2, a3, a4, a5, a6, a7, a8, a9⟩, b, c, d⟩ := h
  unfold Iv
  simp only [p_pouS_n, p_pouS_L, p_pouS_J, p_pouS_A, p_pouS_K, p_pouS_T, p_pouS_v, p_pouS_N, p_pouS_W, p_pouS_P, p_pouS_nx, p_pouS_hr, p_pouS_rt, p_pouS_tl, p_pouS_pd, p_pouS_cr, p_pouS_sk]
  refine ⟨⟨a1, a2, by omega, by omega, a5, a6, a7, a8, hH⟩, ?_, c, d⟩
  intro i hi
  obtain ⟨b1, b2, b3, b4, b5, b6⟩ := b i hi
  refine ⟨b1, b2, ?_, ?_, b5, b6⟩
  · by_cases e : i = k
    · subst e; rw [uN_s]; exact hs
    · rw [uN_o _ _ e]; exact b3
  · by_cases e : i = k
    · subst e; rw [uN_s]; exact Nat.le_trans (pou_age _ _ _ hx) b4
    · rw [uN_o _ _ e]; exact b4
theorem RG_pou {g : Nat → Int32} {S : Br} (h : RG g S) (hn : s_n S ≤ 10) {k : Nat} (x : Nat) (hk : k < s_n S) : RG (upd (upd g (9 + 5 * k + 1) (nI (s_J S k + x))) (9 + 5 * k + 2) (nI (s_A S k * s_J S k / (s_J S k + x)))) (pouS S k x) := by
  have h1 := RG_A (RG_J h hn (s_J S k + x) hk) (by rw [q_n_J]; exact hn) (s_A S k * s_J S k / (s_J S k + x)) (k := k) (by rw [q_n_J]; exact hk)
  unfold RG at h1 ⊢
  simp only [q_n_A, q_L_A, q_J_A, q_A_A, q_K_A, q_T_A, q_v_A, q_N_A, q_W_A, q_P_A, q_nx_A, q_hr_A, q_rt_A, q_tl_A, q_pd_A, q_cr_A, q_sk_A, q_n_J, q_L_J, q_J_J, q_A_J, q_K_J, q_T_J, q_v_J, q_N_J, q_W_J, q_P_J, q_nx_J, q_hr_J, q_rt_J, q_tl_J, q_pd_J, q_cr_J, q_sk_J] at h1
  simp only [p_pouS_n, p_pouS_L, p_pouS_J, p_pouS_A, p_pouS_K, p_pouS_T, p_pouS_v, p_pouS_N, p_pouS_W, p_pouS_P, p_pouS_nx, p_pouS_hr, p_pouS_rt, p_pouS_tl, p_pouS_pd, p_pouS_cr, p_pouS_sk]
  exact h1
theorem CH_pou {H : Nat} {S : Br} (hI : Iv H S) (hH : H + 48 ≤ 900000) (p q : Int32) : CH H S 1 p q (fun b => F_X0_addJars b p q) (fun m => F_X5_pour m p q) 1 2 3 := by
  have hn := hI.1.1
  have hv := hI.1.2.1
  have hh := hI.1.2.2.2.1
  have hall : ∀ j, F_X2_allows j (toB S) 1 p q = (F_X2_judgeJars (mkJ 0 0) (toB S) p q).bind (fun z7 => if ¬ (J_reason z7) = 0 then some (false, z7) else some (true, z7)) := by
    intro j
    unfold F_X2_allows
    rw [if_neg (by decide), if_pos rfl]
  rcases pk_ix p (n := s_n S) (by omega) with hp | hp | ⟨k, hk, rfl⟩
  · refine Or.inr (Or.inl ⟨10, 1, Or.inr ⟨rfl, rfl⟩, by decide, fun j => ?_, fun mo h => ?_⟩)
    · rw [hall j]
      unfold F_X2_judgeJars
      rw [hs_f (Or.inl hp), Option.bind_some, if_neg (by decide)]; exact al_r (by decide)
    · show F_X5_pour mo p q = _
      unfold F_X5_pour
      exact gb (m_isSpan_f h hn (Or.inl hp)) (gn (by decide) (gb (fails_1 mo) (gn bt1 rfl)))
  · refine Or.inr (Or.inl ⟨10, 1, Or.inr ⟨rfl, rfl⟩, by decide, fun j => ?_, fun mo h => ?_⟩)
    · rw [hall j]
      unfold F_X2_judgeJars
      rw [hs_f (Or.inr hp), Option.bind_some, if_neg (by decide)]; exact al_r (by decide)
    · show F_X5_pour mo p q = _
      unfold F_X5_pour
      exact gb (m_isSpan_f h hn (Or.inr hp)) (gn (by decide) (gb (fails_1 mo) (gn bt1 rfl)))
  obtain ⟨b1, b2, b3, b4, b5, b6⟩ := hI.2.1 k hk
  have hH9 := hI.1.2.2.2.2.2.2.2.2
  rcases rng q 1 50 (by omega) (by omega) with hq | ⟨x, hx1, hx2, rfl⟩
  · refine Or.inr (Or.inl ⟨9, 2, Or.inl ⟨rfl, rfl⟩, by decide, fun j => ?_, fun mo h => ?_⟩)
    · rw [hall j]
      unfold F_X2_judgeJars
      rw [hs_t hk hn, Option.bind_some, if_pos (by decide)]
      by_cases c : q < 1
      · rw [if_pos c]; exact al_r (by decide)
      · have hq := hq.resolve_left c
        rw [if_neg c, if_neg (nle_lt (show (50 : Int32) < q from hq))]; exact al_r (by decide)
    · show F_X5_pour mo (nI k) q = _
      unfold F_X5_pour
      exact gb (m_isSpan_t h hn hk) (gp (by decide) (gb (in_f (show q < 1 ∨ 50 < q from hq)) (gp rfl (gb (fails_2 mo) (gn bt1 rfl)))))
  · have hin : F_X5_in (nI x) 1 50 = some true := (show F_X5_in (nI x) (nI 1) (nI 50) = some true from in_t hx1 hx2 (by omega))
    have e1 : ¬ nI x < 1 := nI_nlt hx1 (by omega)
    have e2 : nI x ≤ 50 := (show nI x ≤ nI 50 from nI_le hx2 (by omega))
    by_cases c1 : s_v S = 0
    · by_cases c2 : s_J S k + x ≤ 50
      · have hAJ : s_A S k * s_J S k ≤ 900000 * 50 := Nat.mul_le_mul (by omega) b3
        refine Or.inl ⟨nI (s_A S k * s_J S k / (s_J S k + x)), pouS S k x, fun j => ?_, ?_, Iv_pou hI hH hx1 c2, fun mo kp ch h hK => ?_⟩
        · rw [hall j]
          unfold F_X2_judgeJars
          rw [hs_t hk hn, Option.bind_some, if_pos (by decide), if_neg e1, if_pos e2, B_vehicles_to, c1, if_pos (by decide), inb_nI (by omega) (by omega), ck_tt, B_jars_to, nI_clamp (by omega), fI_a, nI_add, if_pos (show nI (s_J S k + x) ≤ (50 : Int32) from (show nI (s_J S k + x) ≤ nI 50 from nI_le c2 (by omega)))]
          exact al_0
        · show F_X0_addJars (toB S) (nI k) (nI x) = _
          unfold F_X0_addJars
          rw [hs_t hk hn, toB_pouS]
          simp (disch := omega) only [B_spans_to, B_lengths_to, B_jars_to, B_ages_to, B_cracks_to, B_stresses_to, B_vehicles_to, B_numbers_to, B_weights_to, B_places_to, B_nextNumber_to, B_hour_to, B_rate_to, B_till_to, B_paid_to, B_crossed_to, B_sunk_to, upd_at, Option.bind_some, ck_tt, inb_nI, nz_nI, fI_a, fI_u, nI_clamp, nI_add, pk_mul, pk_sub, pk_div, nI_ltI, nI_leI, nI_eq, imin_nI, imax_nI, bi_t, bi_f, if_pos, if_neg, l_0, l_1, l_2, l_3, l_4, l_5, l_6, l_7, l_8, l_9, l_10, l_20, l_24, l_47, l_48, l_50, l_57, l_58, l_59, l_60, l_61, l_83, l_93, l_99, l_200, l_581, l_664]
        · have hg1 : M_g mo 1 = nI (s_v S) := h.1.2.1
          have hR1 := RG_J h hn (s_J S k + x) hk
          refine ⟨0, _, M_lastOver mo, M_counted mo, RG_pou h hn x hk, ?_⟩
          show F_X5_pour mo (nI k) (nI x) = _
          unfold F_X5_pour
          refine gb (m_isSpan_t h hn hk) (gp (by decide) (gb hin (gn (by decide) (gb (fails_0 mo) (gp rfl (gk ub_1 (gp ?_ (gb (of_J (S := S) (by rw [w_mF_g]; exact h) hn hk) ?_))))))))
          · rw [zc_1, w_mF_g, hg1, c1]; decide
          · simp only [nI_add]
            refine gp (show nI (s_J S k + x) ≤ (50 : Int32) from (show nI (s_J S k + x) ≤ nI 50 from nI_le c2 (by omega))) (gb (hK (mF mo 0) (w_mF_g _ _) (w_mF_kept _ _) (w_mF_changes _ _) (w_mF_isWithin _ _)) (gb (lays_J _ (by omega) _) ?_))
            rw [w_mKp_g, w_mF_g]
            refine gb (of_A (S := st_J S (uN (s_J S) k (s_J S k + x))) (by rw [r_g_g]; exact hR1) (by rw [q_n_J]; exact hn) (by rw [q_n_J]; exact hk)) (gk (nz_nI (by omega) (by omega)) ?_)
            rw [q_A_J, pk_mul, pk_div (by omega) (by omega) (by omega)]
            refine gb (lays_A _ (by omega) _) ?_
            rw [r_g_g, mm_g]
            refine gb (of_A (S := pouS S k x) (by rw [r_g_g]; exact RG_pou h hn x hk) (by rw [p_pouS_n]; exact hn) (by rw [p_pouS_n]; exact hk)) ?_
            rw [p_pouS_A, uN_s, mK_e1]
      · refine Or.inr (Or.inr ⟨1, 50, by omega, by omega, by decide, fun j => ?_, fun mo h => ?_⟩)
        · rw [hall j]
          unfold F_X2_judgeJars
          rw [hs_t hk hn, Option.bind_some, if_pos (by decide), if_neg e1, if_pos e2, B_vehicles_to, c1, if_pos (by decide), inb_nI (by omega) (by omega), ck_tt, B_jars_to, nI_clamp (by omega), fI_a, nI_add, if_neg (show ¬ nI (s_J S k + x) ≤ (50 : Int32) from (show ¬ nI (s_J S k + x) ≤ nI 50 from nI_ge (by omega) (by omega)))]
          exact al_r (by decide)
        · have hg1 : M_g mo 1 = nI (s_v S) := h.1.2.1
          show F_X5_pour mo (nI k) (nI x) = _
          unfold F_X5_pour
          refine gb (m_isSpan_t h hn hk) (gp (by decide) (gb hin (gn (by decide) (gb (fails_0 mo) (gp rfl (gk ub_1 (gp ?_ (gb (of_J (S := S) (by rw [w_mF_g]; exact h) hn hk) ?_))))))))
          · rw [zc_1, w_mF_g, hg1, c1]; decide
          · simp only [nI_add]
            exact gn (show ¬ nI (s_J S k + x) ≤ (50 : Int32) from (show ¬ nI (s_J S k + x) ≤ nI 50 from nI_ge (by omega) (by omega))) (gb (denies_e _ _ _ _) (by rw [mDn_F]; rfl))
    · refine Or.inr (Or.inr ⟨4, nI (s_v S), by omega, by omega, by decide, fun j => ?_, fun mo h => ?_⟩)
      · rw [hall j]
        unfold F_X2_judgeJars
        rw [hs_t hk hn, Option.bind_some, if_pos (by decide), if_neg e1, if_pos e2, B_vehicles_to, if_neg (nI_nle (by omega) (by omega))]
        exact al_r (by decide)
      · have hg1 : M_g mo 1 = nI (s_v S) := h.1.2.1
        show F_X5_pour mo (nI k) (nI x) = _
        unfold F_X5_pour
        refine gb (m_isSpan_t h hn hk) (gp (by decide) (gb hin (gn (by decide) (gb (fails_0 mo) (gp rfl (gk ub_1 (gn ?_ (gk ub_1 (gb (denies_e _ _ _ _) ?_)))))))))
        · rw [zc_1, w_mF_g, hg1]; exact nI_nle (by omega) (by omega)
        · rw [mDn_F, zc_1, w_mF_g, hg1]; rfl
/-! a vehicle more -/
def entS (S : Br) (x : Nat) : Br := mkS (s_n S) (s_L S) (s_J S) (s_A S) (s_K S) (s_T S) (s_v S + 1) (uN (s_N S) (s_v S) (s_nx S)) (uN (s_W S) (s_v S) x) (uN (s_P S) (s_v S) 0) (s_nx S + 1) (s_hr S) (s_rt S) (s_tl S) (s_pd S) (s_cr S) (s_sk S)
theorem p_entS_n (S : Br) (x : Nat) : s_n (entS S x) = s_n S := rfl
theorem p_entS_L (S : Br) (x : Nat) : s_L (entS S x) = s_L S := rfl
theorem p_entS_J (S : Br) (x : Nat) : s_J (entS S x) = s_J S := rfl
theorem p_entS_A (S : Br) (x : Nat) : s_A (entS S x) = s_A S := rfl
theorem p_entS_K (S : Br) (x : Nat) : s_K (entS S x) = s_K S := rfl
theorem p_entS_T (S : Br) (x : Nat) : s_T (entS S x) = s_T S := rfl
theorem p_entS_v (S : Br) (x : Nat) : s_v (entS S x) = s_v S + 1 := rfl
theorem p_entS_N (S : Br) (x : Nat) : s_N (entS S x) = uN (s_N S) (s_v S) (s_nx S) := rfl
theorem p_entS_W (S : Br) (x : Nat) : s_W (entS S x) = uN (s_W S) (s_v S) x := rfl
theorem p_entS_P (S : Br) (x : Nat) : s_P (entS S x) = uN (s_P S) (s_v S) 0 := rfl
theorem p_entS_nx (S : Br) (x : Nat) : s_nx (entS S x) = s_nx S + 1 := rfl
theorem p_entS_hr (S : Br) (x : Nat) : s_hr (entS S x) = s_hr S := rfl
theorem p_entS_rt (S : Br) (x : Nat) : s_rt (entS S x) = s_rt S := rfl
theorem p_entS_tl (S : Br) (x : Nat) : s_tl (entS S x) = s_tl S := rfl
theorem p_entS_pd (S : Br) (x : Nat) : s_pd (entS S x) = s_pd S := rfl
theorem p_entS_cr (S : Br) (x : Nat) : s_cr (entS S x) = s_cr S := rfl
theorem p_entS_sk (S : Br) (x : Nat) : s_sk (entS S x) = s_sk S := rfl
theorem toB_entS (S : Br) (x : Nat) : toB (entS S x) = mkB (nI (s_n S)) (fI (s_L S)) (fI (s_J S)) (fI (s_A S)) (fI (s_K S)) (fI (s_T S)) (nI (s_v S + 1)) (fI (uN (s_N S) (s_v S) (s_nx S))) (fI (uN (s_W S) (s_v S) x)) (fI (uN (s_P S) (s_v S) 0)) (nI (s_nx S + 1)) (nI (s_hr S)) (nI (s_rt S)) (nI (s_tl S)) (nI (s_pd S)) (nI (s_cr S)) (nI (s_sk S)) := rfl
theorem Iv_ent {H : Nat} {S : Br} (h : Iv H S) (hH : H + 48 ≤ 900000) (hn : 0 < s_n S) (hv : s_v S < 8) {x : Nat} (h1 : 1 ≤ x) (h2 : x ≤ 99) : Iv (H + 48) (entS S x) := by
  obtain ⟨⟨a1, a2, a3, a4, a5, a6, a7, a8, a9⟩, b, c, d⟩ := h
  unfold Iv
  simp only [p_entS_n, p_entS_L, p_entS_J, p_entS_A, p_entS_K, p_entS_T, p_entS_v, p_entS_N, p_entS_W, p_entS_P, p_entS_nx, p_entS_hr, p_entS_rt, p_entS_tl, p_entS_pd, p_entS_cr, p_entS_sk]
  refine ⟨⟨a1, by omega, by omega, by omega, a5, by omega, a7, a8, hH⟩, b, ?_, ?_⟩
  · intro j hj
    by_cases e : j = s_v S
    · subst e; rw [uN_s, uN_s, uN_s]; exact ⟨h1, h2, hn, by omega⟩
    · rw [uN_o _ _ e, uN_o _ _ e, uN_o _ _ e]
      obtain ⟨c1, c2, c3, c4⟩ := c j (by omega)
      exact ⟨c1, c2, c3, by omega⟩
  · intro j hj
    rw [uN_o _ _ (show j ≠ s_v S by omega), uN_o _ _ (show j ≠ s_v S by omega)]
    by_cases e : j + 1 = s_v S
    · rw [e, uN_s, uN_s]; exact ⟨(c j (by omega)).2.2.2, Nat.zero_le _⟩
    · rw [uN_o _ _ e, uN_o _ _ e]; exact d j (by omega)
theorem RG_ent {g : Nat → Int32} {S : Br} (h : RG g S) (hn : s_n S ≤ 10) (hv : s_v S < 8) (x : Nat) : RG (upd (upd (upd (upd (upd g (59 + 3 * s_v S + 0) (nI (s_nx S))) (59 + 3 * s_v S + 1) (nI x)) (59 + 3 * s_v S + 2) (nI 0)) 1 (nI (s_v S + 1))) 2 (nI (s_nx S + 1))) (entS S x) := by
  obtain ⟨⟨a0, a1, a2, a3, a4, a5, a6, a7, a8⟩, b, c⟩ := h
  have lo : ∀ t, t ≠ 1 → t ≠ 2 → t < 59 + 3 * s_v S → upd (upd (upd (upd (upd g (59 + 3 * s_v S + 0) (nI (s_nx S))) (59 + 3 * s_v S + 1) (nI x)) (59 + 3 * s_v S + 2) (nI 0)) 1 (nI (s_v S + 1))) 2 (nI (s_nx S + 1)) t = g t := by
    intro t h1 h2 h3
    rw [pk_un h2, pk_un h1, pk_un (by omega), pk_un (by omega), pk_un (by omega)]
  unfold RG
  simp only [p_entS_n, p_entS_L, p_entS_J, p_entS_A, p_entS_K, p_entS_T, p_entS_v, p_entS_N, p_entS_W, p_entS_P, p_entS_nx, p_entS_hr, p_entS_rt, p_entS_tl, p_entS_pd, p_entS_cr, p_entS_sk]
  refine ⟨⟨(lo 0 (by omega) (by omega) (by omega)).trans a0, ?_, ?_, (lo 3 (by omega) (by omega) (by omega)).trans a3, (lo 4 (by omega) (by omega) (by omega)).trans a4, (lo 5 (by omega) (by omega) (by omega)).trans a5, (lo 6 (by omega) (by omega) (by omega)).trans a6, (lo 7 (by omega) (by omega) (by omega)).trans a7, (lo 8 (by omega) (by omega) (by omega)).trans a8⟩, ?_, ?_⟩
  · rw [pk_un (by omega), pk_us]
  · exact pk_us
  · intro k hk
    obtain ⟨b0, b1, b2, b3, b4⟩ := b k hk
    exact ⟨(lo _ (by omega) (by omega) (by omega)).trans b0, (lo _ (by omega) (by omega) (by omega)).trans b1, (lo _ (by omega) (by omega) (by omega)).trans b2, (lo _ (by omega) (by omega) (by omega)).trans b3, (lo _ (by omega) (by omega) (by omega)).trans b4⟩
  · intro j hj
    by_cases e : j = s_v S
    · subst e
      rw [uN_s, uN_s, uN_s]
      refine ⟨?_, ?_, ?_⟩
      · rw [pk_un (by omega), pk_un (by omega), pk_un (by omega), pk_un (by omega), pk_us]
      · rw [pk_un (by omega), pk_un (by omega), pk_un (by omega), pk_us]
      · rw [pk_un (by omega), pk_un (by omega), pk_us]
    · rw [uN_o _ _ e, uN_o _ _ e, uN_o _ _ e]
      obtain ⟨c0, c1, c2⟩ := c j (by omega)
      exact ⟨(lo _ (by omega) (by omega) (by omega)).trans c0, (lo _ (by omega) (by omega) (by omega)).trans c1, (lo _ (by omega) (by omega) (by omega)).trans c2⟩
theorem c_ent {S : Br} (hv : s_v S < 8) (x : Nat) : F_X0_appendVehicle (toB S) (nI x) = some (nI (s_nx S), toB (entS S x)) := by
  unfold F_X0_appendVehicle
  rw [toB_entS]
  simp (disch := omega) only [B_spans_to, B_lengths_to, B_jars_to, B_ages_to, B_cracks_to, B_stresses_to, B_vehicles_to, B_numbers_to, B_weights_to, B_places_to, B_nextNumber_to, B_hour_to, B_rate_to, B_till_to, B_paid_to, B_crossed_to, B_sunk_to, upd_at, Option.bind_some, ck_tt, inb_nI, nz_nI, fI_a, fI_u, nI_clamp, nI_add, pk_mul, pk_sub, pk_div, nI_ltI, nI_leI, nI_eq, imin_nI, imax_nI, bi_t, bi_f, if_pos, if_neg, l_0, l_1, l_2, l_3, l_4, l_5, l_6, l_7, l_8, l_9, l_10, l_20, l_24, l_47, l_48, l_50, l_57, l_58, l_59, l_60, l_61, l_83, l_93, l_99, l_200, l_581, l_664]
theorem CH_ent {H : Nat} {S : Br} (hI : Iv H S) (hH : H + 48 ≤ 900000) (p q : Int32) : CH H S 2 p q (fun b => F_X0_appendVehicle b p) (fun m => F_X5_enter m p) 0 1 2 := by
  have hn := hI.1.1
  have hv := hI.1.2.1
  have hnx := hI.1.2.2.1
  obtain ⟨z1, hz1, hzn⟩ : ∃ z1, F_X0_strengthOf (toB S) 0 = some z1 ∧ (0 < s_n S → z1 = nI (str S 0)) := by
    by_cases c : 0 < s_n S
    · exact ⟨_, c_str hI (k := 0) c, fun _ => rfl⟩
    · exact ⟨0, c_str_f (Or.inr (nI_le (b := 0) (by omega) (by omega))), fun z => absurd z c⟩
  have hz2 : F_X0_loadOf (toB S) 0 = some (nI (ld S 0)) := c_ld hI (k := 0) (by omega)
  have hall : ∀ j, F_X2_allows j (toB S) 2 p q = (if p < 1 then (F_X2_because (mkJ 0 0) 9 0).bind (fun z3 => some z3) else if p ≤ 99 then if ¬ (B_spans (toB S)) = 0 then if (B_vehicles (toB S)) < 8 then if p ≤ (z1 - nI (ld S 0)) then some (mkJ 0 0) else (F_X2_because (mkJ 0 0) 2 (z1 - nI (ld S 0))).bind (fun z4 => some z4) else (F_X2_because (mkJ 0 0) 1 8).bind (fun z5 => some z5) else (F_X2_because (mkJ 0 0) 3 (B_hour (toB S))).bind (fun z6 => some z6) else (F_X2_because (mkJ 0 0) 9 0).bind (fun z7 => some z7)).bind (fun z7 => if ¬ (J_reason z7) = 0 then some (false, z7) else some (true, z7)) := by
    intro j
    unfold F_X2_allows F_X2_judgeVehicle
    rw [if_neg (by decide), if_neg (by decide), if_pos rfl, hz1, Option.bind_some, hz2, Option.bind_some]
  rcases rng p 1 99 (by omega) (by omega) with hp | ⟨x, hx1, hx2, rfl⟩
  · refine Or.inr (Or.inl ⟨9, 1, Or.inl ⟨rfl, rfl⟩, by decide, fun j => ?_, fun mo h => ?_⟩)
    · rw [hall j]
      by_cases c : p < 1
      · rw [if_pos c]; exact al_r (by decide)
      · have hp := hp.resolve_left c
        rw [if_neg c, if_neg (nle_lt (show (99 : Int32) < p from hp))]; exact al_r (by decide)
    · show F_X5_enter mo p = _
      unfold F_X5_enter
      refine gb (in_f (show p < 1 ∨ 99 < p from hp)) (gp rfl (gb (fails_1 mo) (gn bt1 rfl)))
  have hin : F_X5_in (nI x) 1 99 = some true := (show F_X5_in (nI x) (nI 1) (nI 99) = some true from in_t hx1 hx2 (by omega))
  have e1 : ¬ nI x < 1 := nI_nlt hx1 (by omega)
  have e2 : nI x ≤ 99 := (show nI x ≤ nI 99 from nI_le hx2 (by omega))
  by_cases c0 : s_n S = 0
  · refine Or.inr (Or.inr ⟨3, nI (s_hr S), by omega, by omega, by decide, fun j => ?_, fun mo h => ?_⟩)
    · rw [hall j, if_neg e1, if_pos e2, B_spans_to, c0, if_neg (fun z => z rfl)]
      exact al_r (by decide)
    · have hg0 : M_g mo 0 = nI (s_n S) := h.1.1
      have hg3 : M_g mo 3 = nI (s_hr S) := h.1.2.2.2.1
      show F_X5_enter mo (nI x) = _
      unfold F_X5_enter
      refine gb hin (gn (by decide) (gb (fails_0 mo) (gp rfl (gk ub_0 (gn ?_ (gk ub_3 (gb (denies_e _ _ _ _) ?_)))))))
      · rw [zc_0, w_mF_g, hg0, c0]; exact fun z => z rfl
      · rw [mDn_F, zc_3, w_mF_g, hg3]; rfl
  · have hz := hzn (by omega)
    subst hz
    by_cases c1 : s_v S < 8
    · by_cases c2 : nI x ≤ nI (str S 0) - nI (ld S 0)
      · refine Or.inl ⟨nI (s_nx S), entS S x, fun j => ?_, c_ent c1 x, Iv_ent hI hH (by omega) c1 hx1 hx2, fun mo kp ch h hK => ?_⟩
        · rw [hall j, if_neg e1, if_pos e2, B_spans_to, if_pos (nI_ne0 (by omega) (by omega)), B_vehicles_to, if_pos (show nI (s_v S) < (8 : Int32) from (show nI (s_v S) < nI 8 from nI_lt c1 (by omega))), if_pos c2]
          exact al_0
        · have hg0 : M_g mo 0 = nI (s_n S) := h.1.1
          have hg1 : M_g mo 1 = nI (s_v S) := h.1.2.1
          have hg2 : M_g mo 2 = nI (s_nx S) := h.1.2.2.1
          refine ⟨0, _, M_lastOver mo, M_counted mo, RG_ent h hn c1 x, ?_⟩
          have hs : F_X5_strong (mF mo 0) 0 = some (nI (str S 0)) := m_strong (mo := mF mo 0) hI (by rw [w_mF_g]; exact h) (k := 0) (by omega)
          have hl : F_X5_loaded (mF mo 0) 0 = some (nI (ld S 0)) := m_loaded (mo := mF mo 0) hI (by rw [w_mF_g]; exact h) (k := 0) (by omega)
          show F_X5_enter mo (nI x) = _
          unfold F_X5_enter
          refine gb hin (gn (by decide) (gb (fails_0 mo) (gp rfl (gk ub_0 (gp ?_ (gk ub_1 (gp ?_ (gb hs (gb hl (gp c2 (gb (hK (mF mo 0) (w_mF_g _ _) (w_mF_kept _ _) (w_mF_changes _ _) (w_mF_isWithin _ _)) (gk ub_1 (gk ub_2 ?_)))))))))))))
          · rw [zc_0, w_mF_g, hg0]; exact nI_ne0 (by omega) (by omega)
          · rw [zc_1, w_mF_g, hg1]; exact fun z => absurd ((nI_eq (by omega) (by omega)).mp (show nI (s_v S) = nI 8 from z)) (by omega)
          · have ei0 : 59 + 3 * nI (s_v S) + 0 = nI (59 + 3 * s_v S + 0) := by rw [l_59, l_3, pk_mul, nI_add, show (0 : Int32) = nI 0 from rfl, nI_add]
            have ei1 : 59 + 3 * nI (s_v S) + 1 = nI (59 + 3 * s_v S + 1) := by rw [l_59, l_3, pk_mul, nI_add, add1]
            have ei2 : 59 + 3 * nI (s_v S) + 2 = nI (59 + 3 * s_v S + 2) := by rw [l_59, l_3, pk_mul, nI_add, l_2, nI_add]
            have ez : (0 : Int32) = nI 0 := rfl
            simp only [zc_1, zc_2, upd_at, w_mKp_g, w_mF_g, hg1, hg2, ei0, ei1, ei2]
            rw [inb_nI (show 59 + 3 * s_v S + 0 < 83 by omega) (by omega), inb_nI (show 59 + 3 * s_v S + 1 < 83 by omega) (by omega), inb_nI (show 59 + 3 * s_v S + 2 < 83 by omega) (by omega)]
            rw [nI_clamp (show 59 + 3 * s_v S + 0 < 2 ^ 31 by omega), nI_clamp (show 59 + 3 * s_v S + 1 < 2 ^ 31 by omega), nI_clamp (show 59 + 3 * s_v S + 2 < 2 ^ 31 by omega)]
            have u1 : ∀ y1 y2 y3 : Int32, upd (upd (upd (M_g mo) (59 + 3 * s_v S + 0) y1) (59 + 3 * s_v S + 1) y2) (59 + 3 * s_v S + 2) y3 1 = nI (s_v S) := by
              intro y1 y2 y3
              rw [pk_un (by omega), pk_un (by omega), pk_un (by omega)]; exact hg1
            have u2 : ∀ y1 y2 y3 y4 : Int32, upd (upd (upd (upd (M_g mo) (59 + 3 * s_v S + 0) y1) (59 + 3 * s_v S + 1) y2) (59 + 3 * s_v S + 2) y3) 1 y4 2 = nI (s_nx S) := by
              intro y1 y2 y3 y4
              rw [pk_un (by omega), pk_un (by omega), pk_un (by omega), pk_un (by omega)]; exact hg2
            simp only [u1, u2, ub_1, ub_2, ck_tt, add1, mkM_g, mK_e1]
            rw [sub1 (show 1 ≤ s_nx S + 1 by omega)]
            rfl
      · refine Or.inr (Or.inr ⟨2, nI (str S 0) - nI (ld S 0), by omega, by omega, by decide, fun j => ?_, fun mo h => ?_⟩)
        · rw [hall j, if_neg e1, if_pos e2, B_spans_to, if_pos (nI_ne0 (by omega) (by omega)), B_vehicles_to, if_pos (show nI (s_v S) < (8 : Int32) from (show nI (s_v S) < nI 8 from nI_lt c1 (by omega))), if_neg c2]
          exact al_r (by decide)
        · have hg0 : M_g mo 0 = nI (s_n S) := h.1.1
          have hg1 : M_g mo 1 = nI (s_v S) := h.1.2.1
          have hs : F_X5_strong (mF mo 0) 0 = some (nI (str S 0)) := m_strong (mo := mF mo 0) hI (by rw [w_mF_g]; exact h) (k := 0) (by omega)
          have hl : F_X5_loaded (mF mo 0) 0 = some (nI (ld S 0)) := m_loaded (mo := mF mo 0) hI (by rw [w_mF_g]; exact h) (k := 0) (by omega)
          show F_X5_enter mo (nI x) = _
          unfold F_X5_enter
          refine gb hin (gn (by decide) (gb (fails_0 mo) (gp rfl (gk ub_0 (gp ?_ (gk ub_1 (gp ?_ (gb hs (gb hl (gn c2 (gb (denies_e _ _ _ _) (by rw [mDn_F]; rfl))))))))))))
          · rw [zc_0, w_mF_g, hg0]; exact nI_ne0 (by omega) (by omega)
          · rw [zc_1, w_mF_g, hg1]; exact fun z => absurd ((nI_eq (by omega) (by omega)).mp (show nI (s_v S) = nI 8 from z)) (by omega)
    · refine Or.inr (Or.inr ⟨1, 8, by omega, by omega, by decide, fun j => ?_, fun mo h => ?_⟩)
      · rw [hall j, if_neg e1, if_pos e2, B_spans_to, if_pos (nI_ne0 (by omega) (by omega)), B_vehicles_to, if_neg (show ¬ nI (s_v S) < (8 : Int32) from (show ¬ nI (s_v S) < nI 8 from nI_nlt (by omega) (by omega)))]
        exact al_r (by decide)
      · have hg0 : M_g mo 0 = nI (s_n S) := h.1.1
        have hg1 : M_g mo 1 = nI (s_v S) := h.1.2.1
        show F_X5_enter mo (nI x) = _
        unfold F_X5_enter
        refine gb hin (gn (by decide) (gb (fails_0 mo) (gp rfl (gk ub_0 (gp ?_ (gk ub_1 (gn ?_ (gb (denies_e _ _ _ _) ?_))))))))
        · rw [zc_0, w_mF_g, hg0]; exact nI_ne0 (by omega) (by omega)
        · rw [zc_1, w_mF_g, hg1]; exact fun z => z (congrArg nI (show s_v S = 8 by omega))
        · rw [mDn_F]; rfl
/-! hours pass -/
theorem hrs_ge (S : Br) : s_cr S ≤ s_cr (hrs S) := by
  rw [hrs_cr]
  have h1 := drv_cr (s_v S) (hA1 S) 0
  have h2 : s_cr (hA1 S) = s_cr S := by unfold hA1; rw [p_ag_cr, q_cr_hr]
  rw [h2] at h1
  exact h1
theorem hrN_ge : ∀ (r : Nat) (S : Br), s_cr S ≤ s_cr (hrN r S) := by
  intro r
  induction r with
  | zero => intro S; exact Nat.le_refl _
  | succ r ih => intro S; exact Nat.le_trans (hrs_ge S) (ih (hrs S))
theorem m_pass_L (h0 : Nat) (hh : h0 < 1000) (K : Mv → Int32 → Option (Int32 × Mv)) : ∀ (r fu i c H : Nat) (S : Br) (mo : Mv), Iv H S → H + r ≤ 900000 → RG (M_g mo) S → i + r = h0 → r < fu → ∃ g' lo ct, RG g' (hrN r S) ∧ F_X5_pass_L36 (nI h0) (fun b x _ => K b x) fu mo (nI c) (nI i) = K (mG mo g' lo ct) (nI (c + (s_cr (hrN r S) - s_cr S))) := by
  intro r
  induction r with
  | zero =>
    intro fu i c H S mo hI hH h hi hr
    obtain ⟨fu, rfl⟩ : ∃ f2, fu = f2 + 1 := ⟨fu - 1, by omega⟩
    have : i = h0 := by omega
    subst this
    refine ⟨M_g mo, M_lastOver mo, M_counted mo, h, ?_⟩
    unfold F_X5_pass_L36 hrN
    rw [if_pos (nI_le (Nat.le_refl _) (by omega)), Nat.sub_self]
    rfl
  | succ r ih =>
    intro fu i c H S mo hI hH h hi hr
    obtain ⟨fu, rfl⟩ : ∃ f2, fu = f2 + 1 := ⟨fu - 1, by omega⟩
    obtain ⟨g1, ct1, hg1, e1⟩ := m_goes hI (by omega) h
    obtain ⟨g2, lo2, ct2, hg2, e2⟩ := ih fu (i + 1) (c + (s_cr (hrs S) - s_cr S)) (H + 1) (hrs S) (mG mo g1 (loH S (M_lastOver mo)) ct1) (Iv_hrs hI (by omega)) (by omega) (by rw [w_mG_g]; exact hg1) (by omega) (by omega)
    refine ⟨g2, lo2, ct2, hg2, ?_⟩
    unfold F_X5_pass_L36
    refine gn (nI_ge (by omega) (by omega)) (gb e1 ?_)
    rw [nI_add, show nI i + 1 = nI (i + 1) from nI_add i 1]
    refine e2.trans ?_
    have eG : mG (mG mo g1 (loH S (M_lastOver mo)) ct1) g2 lo2 ct2 = mG mo g2 lo2 ct2 := by
      unfold mG
      simp only [M_g_mk, M_kept_mk, M_saved_mk, M_before_mk, M_trial_mk, M_counted_mk, M_isSaved_mk, M_changes_mk, M_isWithin_mk, M_isDenied_mk, M_code_mk, M_why_mk, M_detail_mk, M_cause_mk, M_input_mk, M_length_mk, M_fault_mk, M_signs_mk, M_signMany_mk, M_lastOver_mk, M_at_mk, M_told_mk, M_toldMany_mk]
    rw [eG]
    have k1 := hrs_ge S
    have k2 := hrN_ge r (hrs S)
    rw [show c + (s_cr (hrs S) - s_cr S) + (s_cr (hrN r (hrs S)) - s_cr (hrs S)) = c + (s_cr (hrN (r + 1) S) - s_cr S) from by
      show c + (s_cr (hrs S) - s_cr S) + (s_cr (hrN r (hrs S)) - s_cr (hrs S)) = c + (s_cr (hrN r (hrs S)) - s_cr S)
      omega]
theorem CH_pas {H : Nat} {S : Br} (hI : Iv H S) (hH : H + 48 ≤ 900000) (p q : Int32) : CH H S 5 p q (fun b => F_X0_letHoursPass b p) (fun m => F_X5_pass m p) 0 1 0 := by
  have hall : ∀ j, F_X2_allows j (toB S) 5 p q = (F_X2_judgeHours (mkJ 0 0) p).bind (fun z7 => if ¬ (J_reason z7) = 0 then some (false, z7) else some (true, z7)) := by
    intro j
    unfold F_X2_allows
    rw [if_neg (by decide), if_neg (by decide), if_neg (by decide), if_neg (by decide), if_neg (by decide), if_pos rfl]
  rcases rng p 1 48 (by omega) (by omega) with hp | ⟨x, hx1, hx2, rfl⟩
  · refine Or.inr (Or.inl ⟨9, 1, Or.inl ⟨rfl, rfl⟩, by decide, fun j => ?_, fun mo h => ?_⟩)
    · rw [hall j]
      unfold F_X2_judgeHours
      by_cases c : p < 1
      · rw [if_pos c]; exact al_r (by decide)
      · have hp := hp.resolve_left c
        rw [if_neg c, if_neg (nle_lt (show (48 : Int32) < p from hp))]; exact al_r (by decide)
    · show F_X5_pass mo p = _
      unfold F_X5_pass
      refine gb (in_f (show p < 1 ∨ 48 < p from hp)) (gp rfl (gb (fails_1 mo) (gn bt1 rfl)))
  · have hin : F_X5_in (nI x) 1 48 = some true := (show F_X5_in (nI x) (nI 1) (nI 48) = some true from in_t hx1 hx2 (by omega))
    have e1 : ¬ nI x < 1 := nI_nlt hx1 (by omega)
    have e2 : nI x ≤ 48 := (show nI x ≤ nI 48 from nI_le hx2 (by omega))
    have k1 := hrN_ge x S
    refine Or.inl ⟨nI (s_cr (hrN x S) - s_cr S), hrN x S, fun j => ?_, ?_, (Iv_hrN x H S hI (by omega)).mono (by omega) hH, fun mo kp ch h hK => ?_⟩
    · rw [hall j]
      unfold F_X2_judgeHours
      rw [if_neg e1, if_pos e2]
      exact al_0
    · show F_X0_letHoursPass (toB S) (nI x) = _
      rw [c_hours hI (by omega) (by omega), pk_sub k1]
    · obtain ⟨g', lo, ct, hg, e9⟩ := m_pass_L x (by omega) (fun b z => some (z, b)) x 1000 0 0 H S (mKp (mF mo 0) kp ch) hI (by omega) (by rw [w_mKp_g, w_mF_g]; exact h) (by omega) (by omega)
      refine ⟨0, g', lo, ct, hg, ?_⟩
      show F_X5_pass mo (nI x) = _
      unfold F_X5_pass
      refine gb hin (gn (by decide) (gb (fails_0 mo) (gp rfl (gb (hK (mF mo 0) (w_mF_g _ _) (w_mF_kept _ _) (w_mF_changes _ _) (w_mF_isWithin _ _)) ?_))))
      refine e9.trans ?_
      rw [Nat.zero_add, mK_e3]
