/-! prefix pictures: the first i entries are new -/
def pre (f g : Nat → Nat) (i : Nat) : Nat → Nat := fun k => if k < i then f k else g k
theorem pre_0 (f g : Nat → Nat) : pre f g 0 = g := by
  funext k; unfold pre; rw [if_neg (by omega)]
theorem pre_i (f g : Nat → Nat) {i k : Nat} (h : i ≤ k) : pre f g i k = g k := by
  unfold pre; rw [if_neg (by omega)]
theorem pre_l (f g : Nat → Nat) {i k : Nat} (h : k < i) : pre f g i k = f k := by
  unfold pre; rw [if_pos h]
theorem pre_s (f g : Nat → Nat) (i : Nat) {x : Nat} (hx : x = f i) : uN (pre f g i) i x = pre f g (i + 1) := by
  subst hx
  funext k; unfold uN pre
  by_cases h : k = i
  · subst h; rw [if_pos rfl, if_pos (by omega)]
  · rw [if_neg h]
    by_cases h2 : k < i
    · rw [if_pos h2, if_pos (by omega)]
    · rw [if_neg h2, if_neg (by omega)]
theorem pre_k (f g : Nat → Nat) (i : Nat) (h : f i = g i) : pre f g (i + 1) = pre f g i := by
  funext k; unfold pre
  by_cases h1 : k = i
  · subst h1; rw [if_pos (by omega), if_neg (by omega), h]
  · by_cases h2 : k < i
    · rw [if_pos h2, if_pos (by omega)]
    · rw [if_neg h2, if_neg (by omega)]
def shU (f : Nat → Nat) (q i : Nat) : Nat → Nat := fun j => if q ≤ j ∧ j < i then f (j + 1) else f j
theorem shU_0 (f : Nat → Nat) (q : Nat) : shU f q q = f := by
  funext j; unfold shU; rw [if_neg (by omega)]
theorem shU_s (f : Nat → Nat) {q i : Nat} (h : q ≤ i) : uN (shU f q i) i (shU f q i (i + 1)) = shU f q (i + 1) := by
  funext j; unfold uN shU
  by_cases h1 : j = i
  · subst h1; rw [if_pos rfl, if_neg (by omega), if_pos (by omega)]
  · rw [if_neg h1]
    by_cases h2 : q ≤ j ∧ j < i
    · rw [if_pos h2, if_pos (by omega)]
    · rw [if_neg h2, if_neg (by omega)]
theorem shU_at (f : Nat → Nat) {q i : Nat} (h : q ≤ i) : shU f q i (i + 1) = f (i + 1) := by
  unfold shU; rw [if_neg (by omega)]
def sv (S : Br) (q i : Nat) : Br := mkS (s_n S) (s_L S) (s_J S) (s_A S) (s_K S) (s_T S) (s_v S) (shU (s_N S) q i) (shU (s_W S) q i) (shU (s_P S) q i) (s_nx S) (s_hr S) (s_rt S) (s_tl S) (s_pd S) (s_cr S) (s_sk S)
theorem p_sv_n (S : Br) (q i : Nat) : s_n (sv S q i) = s_n S := rfl
theorem p_sv_L (S : Br) (q i : Nat) : s_L (sv S q i) = s_L S := rfl
theorem p_sv_J (S : Br) (q i : Nat) : s_J (sv S q i) = s_J S := rfl
theorem p_sv_A (S : Br) (q i : Nat) : s_A (sv S q i) = s_A S := rfl
theorem p_sv_K (S : Br) (q i : Nat) : s_K (sv S q i) = s_K S := rfl
theorem p_sv_T (S : Br) (q i : Nat) : s_T (sv S q i) = s_T S := rfl
theorem p_sv_v (S : Br) (q i : Nat) : s_v (sv S q i) = s_v S := rfl
theorem p_sv_N (S : Br) (q i : Nat) : s_N (sv S q i) = shU (s_N S) q i := rfl
theorem p_sv_W (S : Br) (q i : Nat) : s_W (sv S q i) = shU (s_W S) q i := rfl
theorem p_sv_P (S : Br) (q i : Nat) : s_P (sv S q i) = shU (s_P S) q i := rfl
theorem p_sv_nx (S : Br) (q i : Nat) : s_nx (sv S q i) = s_nx S := rfl
theorem p_sv_hr (S : Br) (q i : Nat) : s_hr (sv S q i) = s_hr S := rfl
theorem p_sv_rt (S : Br) (q i : Nat) : s_rt (sv S q i) = s_rt S := rfl
theorem p_sv_tl (S : Br) (q i : Nat) : s_tl (sv S q i) = s_tl S := rfl
theorem p_sv_pd (S : Br) (q i : Nat) : s_pd (sv S q i) = s_pd S := rfl
theorem p_sv_cr (S : Br) (q i : Nat) : s_cr (sv S q i) = s_cr S := rfl
theorem p_sv_sk (S : Br) (q i : Nat) : s_sk (sv S q i) = s_sk S := rfl
theorem toB_sv (S : Br) (q i : Nat) : toB (sv S q i) = mkB (nI (s_n S)) (fI (s_L S)) (fI (s_J S)) (fI (s_A S)) (fI (s_K S)) (fI (s_T S)) (nI (s_v S)) (fI (shU (s_N S) q i)) (fI (shU (s_W S) q i)) (fI (shU (s_P S) q i)) (nI (s_nx S)) (nI (s_hr S)) (nI (s_rt S)) (nI (s_tl S)) (nI (s_pd S)) (nI (s_cr S)) (nI (s_sk S)) := rfl
/-- a vehicle is taken out of the row -/
def rmv (S : Br) (q : Nat) : Br := mkS (s_n S) (s_L S) (s_J S) (s_A S) (s_K S) (s_T S) (s_v S - 1) (shU (s_N S) q (s_v S - 1)) (shU (s_W S) q (s_v S - 1)) (shU (s_P S) q (s_v S - 1)) (s_nx S) (s_hr S) (s_rt S) (s_tl S) (s_pd S) (s_cr S) (s_sk S)
theorem p_rmv_n (S : Br) (q : Nat) : s_n (rmv S q) = s_n S := rfl
theorem p_rmv_L (S : Br) (q : Nat) : s_L (rmv S q) = s_L S := rfl
theorem p_rmv_J (S : Br) (q : Nat) : s_J (rmv S q) = s_J S := rfl
theorem p_rmv_A (S : Br) (q : Nat) : s_A (rmv S q) = s_A S := rfl
theorem p_rmv_K (S : Br) (q : Nat) : s_K (rmv S q) = s_K S := rfl
theorem p_rmv_T (S : Br) (q : Nat) : s_T (rmv S q) = s_T S := rfl
theorem p_rmv_v (S : Br) (q : Nat) : s_v (rmv S q) = s_v S - 1 := rfl
theorem p_rmv_N (S : Br) (q : Nat) : s_N (rmv S q) = shU (s_N S) q (s_v S - 1) := rfl
theorem p_rmv_W (S : Br) (q : Nat) : s_W (rmv S q) = shU (s_W S) q (s_v S - 1) := rfl
theorem p_rmv_P (S : Br) (q : Nat) : s_P (rmv S q) = shU (s_P S) q (s_v S - 1) := rfl
theorem p_rmv_nx (S : Br) (q : Nat) : s_nx (rmv S q) = s_nx S := rfl
theorem p_rmv_hr (S : Br) (q : Nat) : s_hr (rmv S q) = s_hr S := rfl
theorem p_rmv_rt (S : Br) (q : Nat) : s_rt (rmv S q) = s_rt S := rfl
theorem p_rmv_tl (S : Br) (q : Nat) : s_tl (rmv S q) = s_tl S := rfl
theorem p_rmv_pd (S : Br) (q : Nat) : s_pd (rmv S q) = s_pd S := rfl
theorem p_rmv_cr (S : Br) (q : Nat) : s_cr (rmv S q) = s_cr S := rfl
theorem p_rmv_sk (S : Br) (q : Nat) : s_sk (rmv S q) = s_sk S := rfl
theorem toB_rmv (S : Br) (q : Nat) : toB (rmv S q) = mkB (nI (s_n S)) (fI (s_L S)) (fI (s_J S)) (fI (s_A S)) (fI (s_K S)) (fI (s_T S)) (nI (s_v S - 1)) (fI (shU (s_N S) q (s_v S - 1))) (fI (shU (s_W S) q (s_v S - 1))) (fI (shU (s_P S) q (s_v S - 1))) (nI (s_nx S)) (nI (s_hr S)) (nI (s_rt S)) (nI (s_tl S)) (nI (s_pd S)) (nI (s_cr S)) (nI (s_sk S)) := rfl
theorem mkS_eta (S : Br) : mkS (s_n S) (s_L S) (s_J S) (s_A S) (s_K S) (s_T S) (s_v S) (s_N S) (s_W S) (s_P S) (s_nx S) (s_hr S) (s_rt S) (s_tl S) (s_pd S) (s_cr S) (s_sk S) = S := rfl
theorem sv_0 (S : Br) (q : Nat) : sv S q q = S := by
  unfold sv; rw [shU_0, shU_0, shU_0]; exact mkS_eta S
theorem c_rmv_L {S : Br} {q : Nat} (hv : s_v S ≤ 8) (K : Bv → Int32 → Option Bv) : ∀ (r fu i : Nat), i + r + 1 = s_v S → r < fu → q ≤ i → F_X0_removeVehicle_L11 K fu (toB (sv S q i)) (nI i) = K (toB (sv S q (s_v S - 1))) (nI (s_v S - 1)) := by
  intro r
  induction r with
  | zero =>
    intro fu i hi hr hq
    obtain ⟨fu, rfl⟩ : ∃ f2, fu = f2 + 1 := ⟨fu - 1, by omega⟩
    have : s_v S - 1 = i := by omega
    rw [this]
    unfold F_X0_removeVehicle_L11
    rw [B_vehicles_to, p_sv_v]
    simp (disch := omega) only [Option.bind_some, ck_tt, inb_nI, nz_nI, fI_a, fI_u, nI_clamp, nI_add, pk_mul, pk_sub, pk_div, nI_ltI, nI_leI, nI_eq, imin_nI, imax_nI, bi_t, bi_f, if_pos, if_neg, l_0, l_1, l_2, l_3, l_4, l_5, l_6, l_7, l_8, l_9, l_10, l_20, l_24, l_47, l_48, l_50, l_57, l_58, l_59, l_60, l_61, l_83, l_93, l_99, l_200, l_581, l_664]
  | succ r ih =>
    intro fu i hi hr hq
    obtain ⟨fu, rfl⟩ : ∃ f2, fu = f2 + 1 := ⟨fu - 1, by omega⟩
    have h9 := ih fu (i + 1) (by omega) (by omega) (by omega)
    rw [toB_sv S q (i + 1)] at h9
    unfold F_X0_removeVehicle_L11
    simp (disch := omega) only [B_spans_to, B_lengths_to, B_jars_to, B_ages_to, B_cracks_to, B_stresses_to, B_vehicles_to, B_numbers_to, B_weights_to, B_places_to, B_nextNumber_to, B_hour_to, B_rate_to, B_till_to, B_paid_to, B_crossed_to, B_sunk_to, p_sv_n, p_sv_L, p_sv_J, p_sv_A, p_sv_K, p_sv_T, p_sv_v, p_sv_N, p_sv_W, p_sv_P, p_sv_nx, p_sv_hr, p_sv_rt, p_sv_tl, p_sv_pd, p_sv_cr, p_sv_sk, Option.bind_some, ck_tt, inb_nI, nz_nI, fI_a, fI_u, nI_clamp, nI_add, pk_mul, pk_sub, pk_div, nI_ltI, nI_leI, nI_eq, imin_nI, imax_nI, bi_t, bi_f, if_pos, if_neg, l_0, l_1, l_2, l_3, l_4, l_5, l_6, l_7, l_8, l_9, l_10, l_20, l_24, l_47, l_48, l_50, l_57, l_58, l_59, l_60, l_61, l_83, l_93, l_99, l_200, l_581, l_664, shU_s]
    exact h9
theorem c_rmv {S : Br} {q : Nat} (hv : s_v S ≤ 8) (hq : q < s_v S) : F_X0_removeVehicle (toB S) (nI q) = some (toB (rmv S q)) := by
  have h := c_rmv_L (S := S) (q := q) hv (fun b2 x3 => some (mkB (B_spans b2) (B_lengths b2) (B_jars b2) (B_ages b2) (B_cracks b2) (B_stresses b2) ((B_vehicles b2) - 1) (B_numbers b2) (B_weights b2) (B_places b2) (B_nextNumber b2) (B_hour b2) (B_rate b2) (B_till b2) (B_paid b2) (B_crossed b2) (B_sunk b2))) (s_v S - 1 - q) 1000 q (by omega) (by omega) (Nat.le_refl _)
  rw [sv_0] at h
  unfold F_X0_removeVehicle
  rw [hp_t hq hv, Option.bind_some, if_pos (by decide)]
  rw [h, toB_rmv]
  simp (disch := omega) only [B_spans_to, B_lengths_to, B_jars_to, B_ages_to, B_cracks_to, B_stresses_to, B_vehicles_to, B_numbers_to, B_weights_to, B_places_to, B_nextNumber_to, B_hour_to, B_rate_to, B_till_to, B_paid_to, B_crossed_to, B_sunk_to, p_sv_n, p_sv_L, p_sv_J, p_sv_A, p_sv_K, p_sv_T, p_sv_v, p_sv_N, p_sv_W, p_sv_P, p_sv_nx, p_sv_hr, p_sv_rt, p_sv_tl, p_sv_pd, p_sv_cr, p_sv_sk, Option.bind_some, ck_tt, inb_nI, nz_nI, fI_a, fI_u, nI_clamp, nI_add, pk_mul, pk_sub, pk_div, nI_ltI, nI_leI, nI_eq, imin_nI, imax_nI, bi_t, bi_f, if_pos, if_neg, l_0, l_1, l_2, l_3, l_4, l_5, l_6, l_7, l_8, l_9, l_10, l_20, l_24, l_47, l_48, l_50, l_57, l_58, l_59, l_60, l_61, l_83, l_93, l_99, l_200, l_581, l_664]
theorem Iv_rmv {H : Nat} {S : Br} {q : Nat} (h : Iv H S) (hq : q < s_v S) : Iv H (rmv S q) := by
  obtain ⟨⟨a1, a2, a3, a4, a5, a6, a7, a8, a9⟩, b, c, d⟩ := h
  have sh : ∀ (f : Nat → Nat) (j : Nat), j < s_v S - 1 → shU f q (s_v S - 1) j = if q ≤ j then f (j + 1) else f j := by
    intro f j hj
    unfold shU
    by_cases h1 : q ≤ j
    · rw [if_pos ⟨h1, hj⟩, if_pos h1]
    · rw [if_neg (by omega), if_neg h1]
  unfold Iv
  simp only [p_rmv_n, p_rmv_L, p_rmv_J, p_rmv_A, p_rmv_K, p_rmv_T, p_rmv_v, p_rmv_N, p_rmv_W, p_rmv_P, p_rmv_nx, p_rmv_hr, p_rmv_rt, p_rmv_tl, p_rmv_pd, p_rmv_cr, p_rmv_sk]
  refine ⟨⟨a1, by omega, a3, a4, a5, by omega, a7, a8, a9⟩, b, ?_, ?_⟩
  · intro j hj
    rw [sh _ _ hj, sh _ _ hj, sh _ _ hj]
    by_cases h1 : q ≤ j
    · rw [if_pos h1, if_pos h1, if_pos h1]; exact c (j + 1) (by omega)
    · rw [if_neg h1, if_neg h1, if_neg h1]; exact c j (by omega)
  · intro j hj
    rw [sh _ _ hj, sh _ _ hj, sh _ j (by omega), sh _ j (by omega)]
    by_cases h1 : q ≤ j
    · rw [if_pos h1, if_pos h1, if_pos (show q ≤ j + 1 by omega), if_pos (show q ≤ j + 1 by omega)]; exact d (j + 1) (by omega)
    · rw [if_neg h1, if_neg h1]
      by_cases h2 : q ≤ j + 1
      · rw [if_pos h2, if_pos h2]
        have d1 := d j (by omega)
        have d2 := d (j + 1) (by omega)
        omega
      · rw [if_neg h2, if_neg h2]; exact d j (by omega)
/-! ages -/
def agF (J A : Nat → Nat) : Nat → Nat := fun k => if 0 < J k then A k + 1 else A k
def ag (S : Br) (i : Nat) : Br := mkS (s_n S) (s_L S) (s_J S) (pre (agF (s_J S) (s_A S)) (s_A S) i) (s_K S) (s_T S) (s_v S) (s_N S) (s_W S) (s_P S) (s_nx S) (s_hr S) (s_rt S) (s_tl S) (s_pd S) (s_cr S) (s_sk S)
theorem p_ag_n (S : Br) (i : Nat) : s_n (ag S i) = s_n S := rfl
theorem p_ag_L (S : Br) (i : Nat) : s_L (ag S i) = s_L S := rfl
theorem p_ag_J (S : Br) (i : Nat) : s_J (ag S i) = s_J S := rfl
theorem p_ag_A (S : Br) (i : Nat) : s_A (ag S i) = pre (agF (s_J S) (s_A S)) (s_A S) i := rfl
theorem p_ag_K (S : Br) (i : Nat) : s_K (ag S i) = s_K S := rfl
theorem p_ag_T (S : Br) (i : Nat) : s_T (ag S i) = s_T S := rfl
theorem p_ag_v (S : Br) (i : Nat) : s_v (ag S i) = s_v S := rfl
theorem p_ag_N (S : Br) (i : Nat) : s_N (ag S i) = s_N S := rfl
theorem p_ag_W (S : Br) (i : Nat) : s_W (ag S i) = s_W S := rfl
theorem p_ag_P (S : Br) (i : Nat) : s_P (ag S i) = s_P S := rfl
theorem p_ag_nx (S : Br) (i : Nat) : s_nx (ag S i) = s_nx S := rfl
theorem p_ag_hr (S : Br) (i : Nat) : s_hr (ag S i) = s_hr S := rfl
theorem p_ag_rt (S : Br) (i : Nat) : s_rt (ag S i) = s_rt S := rfl
theorem p_ag_tl (S : Br) (i : Nat) : s_tl (ag S i) = s_tl S := rfl
theorem p_ag_pd (S : Br) (i : Nat) : s_pd (ag S i) = s_pd S := rfl
theorem p_ag_cr (S : Br) (i : Nat) : s_cr (ag S i) = s_cr S := rfl
theorem p_ag_sk (S : Br) (i : Nat) : s_sk (ag S i) = s_sk S := rfl
theorem toB_ag (S : Br) (i : Nat) : toB (ag S i) = mkB (nI (s_n S)) (fI (s_L S)) (fI (s_J S)) (fI (pre (agF (s_J S) (s_A S)) (s_A S) i)) (fI (s_K S)) (fI (s_T S)) (nI (s_v S)) (fI (s_N S)) (fI (s_W S)) (fI (s_P S)) (nI (s_nx S)) (nI (s_hr S)) (nI (s_rt S)) (nI (s_tl S)) (nI (s_pd S)) (nI (s_cr S)) (nI (s_sk S)) := rfl
theorem ag_0 (S : Br) : ag S 0 = S := by unfold ag; rw [pre_0]; exact mkS_eta S
theorem c_age_L {H : Nat} {S : Br} (h : Iv H S) (K : Bv → Int32 → Option Bv) : ∀ (r fu i : Nat), i + r = s_n S → r < fu → F_X0_ageSpans_L2 K fu (toB (ag S i)) (nI i) = K (toB (ag S (s_n S))) (nI (s_n S)) := by
  have hn := h.1.1
  intro r
  induction r with
  | zero =>
    intro fu i hi hr
    obtain ⟨fu, rfl⟩ : ∃ f2, fu = f2 + 1 := ⟨fu - 1, by omega⟩
    have : i = s_n S := by omega
    subst this
    unfold F_X0_ageSpans_L2
    rw [B_spans_to, p_ag_n]
    simp (disch := omega) only [Option.bind_some, ck_tt, inb_nI, nz_nI, fI_a, fI_u, nI_clamp, nI_add, pk_mul, pk_sub, pk_div, nI_ltI, nI_leI, nI_eq, imin_nI, imax_nI, bi_t, bi_f, if_pos, if_neg, l_0, l_1, l_2, l_3, l_4, l_5, l_6, l_7, l_8, l_9, l_10, l_20, l_24, l_47, l_48, l_50, l_57, l_58, l_59, l_60, l_61, l_83, l_93, l_99, l_200, l_581, l_664]
  | succ r ih =>
    intro fu i hi hr
    obtain ⟨fu, rfl⟩ : ∃ f2, fu = f2 + 1 := ⟨fu - 1, by omega⟩
    have h9 := ih fu (i + 1) (by omega) (by omega)
    obtain ⟨b1, b2, b3, b4, b5, b6⟩ := h.2.1 i (by omega)
    unfold F_X0_ageSpans_L2
    by_cases c : 0 < s_J S i
    · rw [toB_ag S (i + 1), ← pre_s (agF (s_J S) (s_A S)) (s_A S) i (x := s_A S i + 1) (by unfold agF; rw [if_pos c])] at h9
      simp (disch := omega) only [B_spans_to, B_lengths_to, B_jars_to, B_ages_to, B_cracks_to, B_stresses_to, B_vehicles_to, B_numbers_to, B_weights_to, B_places_to, B_nextNumber_to, B_hour_to, B_rate_to, B_till_to, B_paid_to, B_crossed_to, B_sunk_to, p_ag_n, p_ag_L, p_ag_J, p_ag_A, p_ag_K, p_ag_T, p_ag_v, p_ag_N, p_ag_W, p_ag_P, p_ag_nx, p_ag_hr, p_ag_rt, p_ag_tl, p_ag_pd, p_ag_cr, p_ag_sk, pre_i, Option.bind_some, ck_tt, inb_nI, nz_nI, fI_a, fI_u, nI_clamp, nI_add, pk_mul, pk_sub, pk_div, nI_ltI, nI_leI, nI_eq, imin_nI, imax_nI, bi_t, bi_f, if_pos, if_neg, l_0, l_1, l_2, l_3, l_4, l_5, l_6, l_7, l_8, l_9, l_10, l_20, l_24, l_47, l_48, l_50, l_57, l_58, l_59, l_60, l_61, l_83, l_93, l_99, l_200, l_581, l_664]
      exact h9
    · rw [show ag S (i + 1) = ag S i by unfold ag; rw [pre_k _ _ _ (by unfold agF; rw [if_neg c])]] at h9
      simp (disch := omega) only [B_spans_to, B_lengths_to, B_jars_to, B_ages_to, B_cracks_to, B_stresses_to, B_vehicles_to, B_numbers_to, B_weights_to, B_places_to, B_nextNumber_to, B_hour_to, B_rate_to, B_till_to, B_paid_to, B_crossed_to, B_sunk_to, p_ag_n, p_ag_L, p_ag_J, p_ag_A, p_ag_K, p_ag_T, p_ag_v, p_ag_N, p_ag_W, p_ag_P, p_ag_nx, p_ag_hr, p_ag_rt, p_ag_tl, p_ag_pd, p_ag_cr, p_ag_sk, pre_i, Option.bind_some, ck_tt, inb_nI, nz_nI, fI_a, fI_u, nI_clamp, nI_add, pk_mul, pk_sub, pk_div, nI_ltI, nI_leI, nI_eq, imin_nI, imax_nI, bi_t, bi_f, if_pos, if_neg, l_0, l_1, l_2, l_3, l_4, l_5, l_6, l_7, l_8, l_9, l_10, l_20, l_24, l_47, l_48, l_50, l_57, l_58, l_59, l_60, l_61, l_83, l_93, l_99, l_200, l_581, l_664]
      exact h9
theorem c_age {H : Nat} {S : Br} (h : Iv H S) : F_X0_ageSpans (toB S) = some (toB (ag S (s_n S))) := by
  have h9 := c_age_L h (fun b1 x2 => some b1) (s_n S) 1000 0 (by omega) (by have := h.1.1; omega)
  rw [ag_0] at h9
  exact h9
/-! tolls, moves -/
def tol (S : Br) (j : Nat) : Nat := (s_W S j * s_rt S + 9) / 10
def pay (S : Br) (j : Nat) : Br := mkS (s_n S) (s_L S) (s_J S) (s_A S) (s_K S) (s_T S) (s_v S) (s_N S) (s_W S) (s_P S) (s_nx S) (s_hr S) (s_rt S) (s_tl S + tol S j) (s_pd S + tol S j) (s_cr S + 1) (s_sk S)
theorem p_pay_n (S : Br) (j : Nat) : s_n (pay S j) = s_n S := rfl
theorem p_pay_L (S : Br) (j : Nat) : s_L (pay S j) = s_L S := rfl
theorem p_pay_J (S : Br) (j : Nat) : s_J (pay S j) = s_J S := rfl
theorem p_pay_A (S : Br) (j : Nat) : s_A (pay S j) = s_A S := rfl
theorem p_pay_K (S : Br) (j : Nat) : s_K (pay S j) = s_K S := rfl
theorem p_pay_T (S : Br) (j : Nat) : s_T (pay S j) = s_T S := rfl
theorem p_pay_v (S : Br) (j : Nat) : s_v (pay S j) = s_v S := rfl
theorem p_pay_N (S : Br) (j : Nat) : s_N (pay S j) = s_N S := rfl
theorem p_pay_W (S : Br) (j : Nat) : s_W (pay S j) = s_W S := rfl
theorem p_pay_P (S : Br) (j : Nat) : s_P (pay S j) = s_P S := rfl
theorem p_pay_nx (S : Br) (j : Nat) : s_nx (pay S j) = s_nx S := rfl
theorem p_pay_hr (S : Br) (j : Nat) : s_hr (pay S j) = s_hr S := rfl
theorem p_pay_rt (S : Br) (j : Nat) : s_rt (pay S j) = s_rt S := rfl
theorem p_pay_tl (S : Br) (j : Nat) : s_tl (pay S j) = s_tl S + tol S j := rfl
theorem p_pay_pd (S : Br) (j : Nat) : s_pd (pay S j) = s_pd S + tol S j := rfl
theorem p_pay_cr (S : Br) (j : Nat) : s_cr (pay S j) = s_cr S + 1 := rfl
theorem p_pay_sk (S : Br) (j : Nat) : s_sk (pay S j) = s_sk S := rfl
theorem toB_pay (S : Br) (j : Nat) : toB (pay S j) = mkB (nI (s_n S)) (fI (s_L S)) (fI (s_J S)) (fI (s_A S)) (fI (s_K S)) (fI (s_T S)) (nI (s_v S)) (fI (s_N S)) (fI (s_W S)) (fI (s_P S)) (nI (s_nx S)) (nI (s_hr S)) (nI (s_rt S)) (nI (s_tl S + tol S j)) (nI (s_pd S + tol S j)) (nI (s_cr S + 1)) (nI (s_sk S)) := rfl
def xsS (S : Br) (q : Nat) : Br := mkS (s_n S) (s_L S) (s_J S) (s_A S) (s_K S) (s_T S) (s_v S - 1) (shU (s_N S) q (s_v S - 1)) (shU (s_W S) q (s_v S - 1)) (shU (s_P S) q (s_v S - 1)) (s_nx S) (s_hr S) (s_rt S) (s_tl S + tol S q) (s_pd S + tol S q) (s_cr S + 1) (s_sk S)
theorem p_xsS_n (S : Br) (q : Nat) : s_n (xsS S q) = s_n S := rfl
theorem p_xsS_L (S : Br) (q : Nat) : s_L (xsS S q) = s_L S := rfl
theorem p_xsS_J (S : Br) (q : Nat) : s_J (xsS S q) = s_J S := rfl
theorem p_xsS_A (S : Br) (q : Nat) : s_A (xsS S q) = s_A S := rfl
theorem p_xsS_K (S : Br) (q : Nat) : s_K (xsS S q) = s_K S := rfl
theorem p_xsS_T (S : Br) (q : Nat) : s_T (xsS S q) = s_T S := rfl
theorem p_xsS_v (S : Br) (q : Nat) : s_v (xsS S q) = s_v S - 1 := rfl
theorem p_xsS_N (S : Br) (q : Nat) : s_N (xsS S q) = shU (s_N S) q (s_v S - 1) := rfl
theorem p_xsS_W (S : Br) (q : Nat) : s_W (xsS S q) = shU (s_W S) q (s_v S - 1) := rfl
theorem p_xsS_P (S : Br) (q : Nat) : s_P (xsS S q) = shU (s_P S) q (s_v S - 1) := rfl
theorem p_xsS_nx (S : Br) (q : Nat) : s_nx (xsS S q) = s_nx S := rfl
theorem p_xsS_hr (S : Br) (q : Nat) : s_hr (xsS S q) = s_hr S := rfl
theorem p_xsS_rt (S : Br) (q : Nat) : s_rt (xsS S q) = s_rt S := rfl
theorem p_xsS_tl (S : Br) (q : Nat) : s_tl (xsS S q) = s_tl S + tol S q := rfl
theorem p_xsS_pd (S : Br) (q : Nat) : s_pd (xsS S q) = s_pd S + tol S q := rfl
theorem p_xsS_cr (S : Br) (q : Nat) : s_cr (xsS S q) = s_cr S + 1 := rfl
theorem p_xsS_sk (S : Br) (q : Nat) : s_sk (xsS S q) = s_sk S := rfl
theorem toB_xsS (S : Br) (q : Nat) : toB (xsS S q) = mkB (nI (s_n S)) (fI (s_L S)) (fI (s_J S)) (fI (s_A S)) (fI (s_K S)) (fI (s_T S)) (nI (s_v S - 1)) (fI (shU (s_N S) q (s_v S - 1))) (fI (shU (s_W S) q (s_v S - 1))) (fI (shU (s_P S) q (s_v S - 1))) (nI (s_nx S)) (nI (s_hr S)) (nI (s_rt S)) (nI (s_tl S + tol S q)) (nI (s_pd S + tol S q)) (nI (s_cr S + 1)) (nI (s_sk S)) := rfl
def mvS (S : Br) (k : Nat) : Br := mkS (s_n S) (s_L S) (s_J S) (s_A S) (s_K S) (s_T S) (s_v S) (s_N S) (s_W S) (uN (s_P S) k (s_P S k + 1)) (s_nx S) (s_hr S) (s_rt S) (s_tl S) (s_pd S) (s_cr S) (s_sk S)
theorem p_mvS_n (S : Br) (k : Nat) : s_n (mvS S k) = s_n S := rfl
theorem p_mvS_L (S : Br) (k : Nat) : s_L (mvS S k) = s_L S := rfl
theorem p_mvS_J (S : Br) (k : Nat) : s_J (mvS S k) = s_J S := rfl
theorem p_mvS_A (S : Br) (k : Nat) : s_A (mvS S k) = s_A S := rfl
theorem p_mvS_K (S : Br) (k : Nat) : s_K (mvS S k) = s_K S := rfl
theorem p_mvS_T (S : Br) (k : Nat) : s_T (mvS S k) = s_T S := rfl
theorem p_mvS_v (S : Br) (k : Nat) : s_v (mvS S k) = s_v S := rfl
theorem p_mvS_N (S : Br) (k : Nat) : s_N (mvS S k) = s_N S := rfl
theorem p_mvS_W (S : Br) (k : Nat) : s_W (mvS S k) = s_W S := rfl
theorem p_mvS_P (S : Br) (k : Nat) : s_P (mvS S k) = uN (s_P S) k (s_P S k + 1) := rfl
theorem p_mvS_nx (S : Br) (k : Nat) : s_nx (mvS S k) = s_nx S := rfl
theorem p_mvS_hr (S : Br) (k : Nat) : s_hr (mvS S k) = s_hr S := rfl
theorem p_mvS_rt (S : Br) (k : Nat) : s_rt (mvS S k) = s_rt S := rfl
theorem p_mvS_tl (S : Br) (k : Nat) : s_tl (mvS S k) = s_tl S := rfl
theorem p_mvS_pd (S : Br) (k : Nat) : s_pd (mvS S k) = s_pd S := rfl
theorem p_mvS_cr (S : Br) (k : Nat) : s_cr (mvS S k) = s_cr S := rfl
theorem p_mvS_sk (S : Br) (k : Nat) : s_sk (mvS S k) = s_sk S := rfl
theorem toB_mvS (S : Br) (k : Nat) : toB (mvS S k) = mkB (nI (s_n S)) (fI (s_L S)) (fI (s_J S)) (fI (s_A S)) (fI (s_K S)) (fI (s_T S)) (nI (s_v S)) (fI (s_N S)) (fI (s_W S)) (fI (uN (s_P S) k (s_P S k + 1))) (nI (s_nx S)) (nI (s_hr S)) (nI (s_rt S)) (nI (s_tl S)) (nI (s_pd S)) (nI (s_cr S)) (nI (s_sk S)) := rfl
theorem xs_e (S : Br) (q : Nat) : rmv (pay S q) q = xsS S q := by
  unfold rmv xsS
  simp only [p_pay_n, p_pay_L, p_pay_J, p_pay_A, p_pay_K, p_pay_T, p_pay_v, p_pay_N, p_pay_W, p_pay_P, p_pay_nx, p_pay_hr, p_pay_rt, p_pay_tl, p_pay_pd, p_pay_cr, p_pay_sk]
theorem tol_le {H : Nat} {S : Br} (h : Iv H S) {j : Nat} (hj : j < s_v S) : s_W S j * s_rt S ≤ 1980 ∧ tol S j ≤ 198 := by
  have h1 : s_W S j * s_rt S ≤ 99 * 20 := Nat.mul_le_mul (h.2.2.1 j hj).2.1 h.1.2.2.2.2.1
  unfold tol
  omega
theorem c_toll {H : Nat} {S : Br} (h : Iv H S) {j : Nat} (hj : j < s_v S) : F_X0_tollAt (toB S) (nI j) = some (nI (tol S j)) := by
  have h1 := tol_le h hj
  have h2 := h.1.2.1
  unfold F_X0_tollAt
  rw [hp_t hj h2]
  simp (disch := omega) only [B_spans_to, B_lengths_to, B_jars_to, B_ages_to, B_cracks_to, B_stresses_to, B_vehicles_to, B_numbers_to, B_weights_to, B_places_to, B_nextNumber_to, B_hour_to, B_rate_to, B_till_to, B_paid_to, B_crossed_to, B_sunk_to, Option.bind_some, ck_tt, inb_nI, nz_nI, fI_a, fI_u, nI_clamp, nI_add, pk_mul, pk_sub, pk_div, nI_ltI, nI_leI, nI_eq, imin_nI, imax_nI, bi_t, bi_f, if_pos, if_neg, l_0, l_1, l_2, l_3, l_4, l_5, l_6, l_7, l_8, l_9, l_10, l_20, l_24, l_47, l_48, l_50, l_57, l_58, l_59, l_60, l_61, l_83, l_93, l_99, l_200, l_581, l_664]
  rfl
theorem c_pay {H : Nat} {S : Br} (h : Iv H S) {j : Nat} (hj : j < s_v S) : F_X0_payToll (toB S) (nI j) = some (toB (pay S j)) := by
  unfold F_X0_payToll
  rw [c_toll h hj, toB_pay]
  simp (disch := omega) only [B_spans_to, B_lengths_to, B_jars_to, B_ages_to, B_cracks_to, B_stresses_to, B_vehicles_to, B_numbers_to, B_weights_to, B_places_to, B_nextNumber_to, B_hour_to, B_rate_to, B_till_to, B_paid_to, B_crossed_to, B_sunk_to, Option.bind_some, ck_tt, inb_nI, nz_nI, fI_a, fI_u, nI_clamp, nI_add, pk_mul, pk_sub, pk_div, nI_ltI, nI_leI, nI_eq, imin_nI, imax_nI, bi_t, bi_f, if_pos, if_neg, l_0, l_1, l_2, l_3, l_4, l_5, l_6, l_7, l_8, l_9, l_10, l_20, l_24, l_47, l_48, l_50, l_57, l_58, l_59, l_60, l_61, l_83, l_93, l_99, l_200, l_581, l_664]
theorem Iv_cross {H : Nat} {S : Br} {q : Nat} (h : Iv H S) (hq : q < s_v S) : Iv H (xsS S q) := by
  have ht := (tol_le h hq).2
  have h0 := Iv_rmv h hq
  obtain ⟨⟨-, -, -, -, -, a6', -, -, -⟩, -, -, -⟩ := h
  unfold Iv at h0 ⊢
  simp only [p_rmv_n, p_rmv_L, p_rmv_J, p_rmv_A, p_rmv_K, p_rmv_T, p_rmv_v, p_rmv_N, p_rmv_W, p_rmv_P, p_rmv_nx, p_rmv_hr, p_rmv_rt, p_rmv_tl, p_rmv_pd, p_rmv_cr, p_rmv_sk] at h0
  simp only [p_xsS_n, p_xsS_L, p_xsS_J, p_xsS_A, p_xsS_K, p_xsS_T, p_xsS_v, p_xsS_N, p_xsS_W, p_xsS_P, p_xsS_nx, p_xsS_hr, p_xsS_rt, p_xsS_tl, p_xsS_pd, p_xsS_cr, p_xsS_sk]
  obtain ⟨⟨a1, a2, a3, a4, a5, a6, a7, a8, a9⟩, b, c, d⟩ := h0
  exact ⟨⟨a1, a2, a3, a4, a5, by omega, by omega, by omega, a9⟩, b, c, d⟩
theorem c_last {H : Nat} {S : Br} (h : Iv H S) {j : Nat} (hj : j < s_v S) : F_X0_isOnLastSpan (toB S) (nI j) = some (decide (s_P S j + 1 = s_n S)) := by
  have h2 := h.1.2.1
  have h3 := (h.2.2.1 j hj).2.2.1
  have h4 := h.1.1
  unfold F_X0_isOnLastSpan
  rw [hp_t hj h2]
  by_cases c : s_P S j + 1 = s_n S
  · simp (disch := omega) only [B_spans_to, B_lengths_to, B_jars_to, B_ages_to, B_cracks_to, B_stresses_to, B_vehicles_to, B_numbers_to, B_weights_to, B_places_to, B_nextNumber_to, B_hour_to, B_rate_to, B_till_to, B_paid_to, B_crossed_to, B_sunk_to, Option.bind_some, ck_tt, inb_nI, nz_nI, fI_a, fI_u, nI_clamp, nI_add, pk_mul, pk_sub, pk_div, nI_ltI, nI_leI, nI_eq, imin_nI, imax_nI, bi_t, bi_f, if_pos, if_neg, l_0, l_1, l_2, l_3, l_4, l_5, l_6, l_7, l_8, l_9, l_10, l_20, l_24, l_47, l_48, l_50, l_57, l_58, l_59, l_60, l_61, l_83, l_93, l_99, l_200, l_581, l_664]
    rw [decide_eq_true c]
  · simp (disch := omega) only [B_spans_to, B_lengths_to, B_jars_to, B_ages_to, B_cracks_to, B_stresses_to, B_vehicles_to, B_numbers_to, B_weights_to, B_places_to, B_nextNumber_to, B_hour_to, B_rate_to, B_till_to, B_paid_to, B_crossed_to, B_sunk_to, Option.bind_some, ck_tt, inb_nI, nz_nI, fI_a, fI_u, nI_clamp, nI_add, pk_mul, pk_sub, pk_div, nI_ltI, nI_leI, nI_eq, imin_nI, imax_nI, bi_t, bi_f, if_pos, if_neg, l_0, l_1, l_2, l_3, l_4, l_5, l_6, l_7, l_8, l_9, l_10, l_20, l_24, l_47, l_48, l_50, l_57, l_58, l_59, l_60, l_61, l_83, l_93, l_99, l_200, l_581, l_664]
    rw [decide_eq_false c]
def may (S : Br) (q : Nat) : Bool := decide ((∀ j, j < q → s_P S j ≠ s_P S q) ∧ ld S (s_P S q + 1) + s_W S q ≤ str S (s_P S q + 1))
theorem c_may_f {S : Br} {q p : Nat} (hv : s_v S ≤ 8) (hq : q < s_v S) (hp : p < 2 ^ 31) (hP : ∀ j, j < s_v S → s_P S j < 2 ^ 31) (K : Int32 → Option Bool) : ∀ (r fu i j : Nat), i + r = q → r < fu → i ≤ j → j < q → s_P S j = p → F_X0_mayMove_L19 (toB S) (nI q) (nI p) K fu (nI i) = some false := by
  intro r
  induction r with
  | zero => intro fu i j h1 h2 h3 h4; omega
  | succ r ih =>
    intro fu i j hi hr h3 h4 h5
    obtain ⟨fu, rfl⟩ : ∃ f2, fu = f2 + 1 := ⟨fu - 1, by omega⟩
    have hPi := hP i (by omega)
    unfold F_X0_mayMove_L19
    by_cases c : s_P S i = p
    · simp (disch := omega) only [B_spans_to, B_lengths_to, B_jars_to, B_ages_to, B_cracks_to, B_stresses_to, B_vehicles_to, B_numbers_to, B_weights_to, B_places_to, B_nextNumber_to, B_hour_to, B_rate_to, B_till_to, B_paid_to, B_crossed_to, B_sunk_to, Option.bind_some, ck_tt, inb_nI, nz_nI, fI_a, fI_u, nI_clamp, nI_add, pk_mul, pk_sub, pk_div, nI_ltI, nI_leI, nI_eq, imin_nI, imax_nI, bi_t, bi_f, if_pos, if_neg, l_0, l_1, l_2, l_3, l_4, l_5, l_6, l_7, l_8, l_9, l_10, l_20, l_24, l_47, l_48, l_50, l_57, l_58, l_59, l_60, l_61, l_83, l_93, l_99, l_200, l_581, l_664]
    · have : i ≠ j := fun z => c (z ▸ h5)
      simp (disch := omega) only [B_spans_to, B_lengths_to, B_jars_to, B_ages_to, B_cracks_to, B_stresses_to, B_vehicles_to, B_numbers_to, B_weights_to, B_places_to, B_nextNumber_to, B_hour_to, B_rate_to, B_till_to, B_paid_to, B_crossed_to, B_sunk_to, Option.bind_some, ck_tt, inb_nI, nz_nI, fI_a, fI_u, nI_clamp, nI_add, pk_mul, pk_sub, pk_div, nI_ltI, nI_leI, nI_eq, imin_nI, imax_nI, bi_t, bi_f, if_pos, if_neg, l_0, l_1, l_2, l_3, l_4, l_5, l_6, l_7, l_8, l_9, l_10, l_20, l_24, l_47, l_48, l_50, l_57, l_58, l_59, l_60, l_61, l_83, l_93, l_99, l_200, l_581, l_664]
      exact ih fu (i + 1) j (by omega) (by omega) (by omega) h4 h5
theorem c_may_t {S : Br} {q p : Nat} (hv : s_v S ≤ 8) (hq : q < s_v S) (hp : p < 2 ^ 31) (hP : ∀ j, j < s_v S → s_P S j < 2 ^ 31) (K : Int32 → Option Bool) : ∀ (r fu i : Nat), i + r = q → r < fu → (∀ j, i ≤ j → j < q → s_P S j ≠ p) → F_X0_mayMove_L19 (toB S) (nI q) (nI p) K fu (nI i) = K (nI q) := by
  intro r
  induction r with
  | zero =>
    intro fu i hi hr _
    obtain ⟨fu, rfl⟩ : ∃ f2, fu = f2 + 1 := ⟨fu - 1, by omega⟩
    have : i = q := by omega
    subst this
    unfold F_X0_mayMove_L19
    simp (disch := omega) only [Option.bind_some, ck_tt, inb_nI, nz_nI, fI_a, fI_u, nI_clamp, nI_add, pk_mul, pk_sub, pk_div, nI_ltI, nI_leI, nI_eq, imin_nI, imax_nI, bi_t, bi_f, if_pos, if_neg, l_0, l_1, l_2, l_3, l_4, l_5, l_6, l_7, l_8, l_9, l_10, l_20, l_24, l_47, l_48, l_50, l_57, l_58, l_59, l_60, l_61, l_83, l_93, l_99, l_200, l_581, l_664]
  | succ r ih =>
    intro fu i hi hr h5
    obtain ⟨fu, rfl⟩ : ∃ f2, fu = f2 + 1 := ⟨fu - 1, by omega⟩
    have hPi := hP i (by omega)
    have c := h5 i (Nat.le_refl _) (by omega)
    unfold F_X0_mayMove_L19
    simp (disch := omega) only [B_spans_to, B_lengths_to, B_jars_to, B_ages_to, B_cracks_to, B_stresses_to, B_vehicles_to, B_numbers_to, B_weights_to, B_places_to, B_nextNumber_to, B_hour_to, B_rate_to, B_till_to, B_paid_to, B_crossed_to, B_sunk_to, Option.bind_some, ck_tt, inb_nI, nz_nI, fI_a, fI_u, nI_clamp, nI_add, pk_mul, pk_sub, pk_div, nI_ltI, nI_leI, nI_eq, imin_nI, imax_nI, bi_t, bi_f, if_pos, if_neg, l_0, l_1, l_2, l_3, l_4, l_5, l_6, l_7, l_8, l_9, l_10, l_20, l_24, l_47, l_48, l_50, l_57, l_58, l_59, l_60, l_61, l_83, l_93, l_99, l_200, l_581, l_664]
    exact ih fu (i + 1) (by omega) (by omega) (fun j h1 h2 => h5 j (by omega) h2)
theorem c_may {H : Nat} {S : Br} (h : Iv H S) {q : Nat} (hq : q < s_v S) (hl : ¬ s_P S q + 1 = s_n S) : F_X0_mayMove (toB S) (nI q) = some (may S q) := by
  have h2 := h.1.2.1
  have h3 := h.2.2.1 q hq
  have h4 := h.1.1
  have hP : ∀ j, j < s_v S → s_P S j < 2 ^ 31 := fun j hj => by have := (h.2.2.1 j hj).2.2.1; omega
  have hs := h.strb (k := s_P S q + 1) (by omega)
  have hld := h.ldb (s_P S q + 1)
  unfold F_X0_mayMove
  rw [hp_t hq h2, Option.bind_some, if_pos (by decide), inb_nI (by omega) (by omega), ck_tt, B_places_to, nI_clamp (by omega), fI_a]
  by_cases c : ∀ j, j < q → s_P S j ≠ s_P S q
  · rw [l_0, c_may_t h2 hq (by omega) hP _ q 1000 0 (by omega) (by omega) (fun j _ h => c j h)]
    simp (disch := omega) only [B_spans_to, B_lengths_to, B_jars_to, B_ages_to, B_cracks_to, B_stresses_to, B_vehicles_to, B_numbers_to, B_weights_to, B_places_to, B_nextNumber_to, B_hour_to, B_rate_to, B_till_to, B_paid_to, B_crossed_to, B_sunk_to, nI_add, l_1]
    rw [c_ld h (by omega), Option.bind_some, c_str h (by omega)]
    unfold may
    by_cases c2 : ld S (s_P S q + 1) + s_W S q ≤ str S (s_P S q + 1)
    · simp (disch := omega) only [Option.bind_some, ck_tt, inb_nI, nz_nI, fI_a, fI_u, nI_clamp, nI_add, pk_mul, pk_sub, pk_div, nI_ltI, nI_leI, nI_eq, imin_nI, imax_nI, bi_t, bi_f, if_pos, if_neg, l_0, l_1, l_2, l_3, l_4, l_5, l_6, l_7, l_8, l_9, l_10, l_20, l_24, l_47, l_48, l_50, l_57, l_58, l_59, l_60, l_61, l_83, l_93, l_99, l_200, l_581, l_664]
      rw [decide_eq_true ⟨c, c2⟩]
    · simp (disch := omega) only [Option.bind_some, ck_tt, inb_nI, nz_nI, fI_a, fI_u, nI_clamp, nI_add, pk_mul, pk_sub, pk_div, nI_ltI, nI_leI, nI_eq, imin_nI, imax_nI, bi_t, bi_f, if_pos, if_neg, l_0, l_1, l_2, l_3, l_4, l_5, l_6, l_7, l_8, l_9, l_10, l_20, l_24, l_47, l_48, l_50, l_57, l_58, l_59, l_60, l_61, l_83, l_93, l_99, l_200, l_581, l_664]
      rw [decide_eq_false (fun z => c2 z.2)]
  · obtain ⟨j, hj⟩ : ∃ j, j < q ∧ s_P S j = s_P S q := by
      refine Classical.byContradiction fun z => c fun j hj he => z ⟨j, hj, he⟩
    rw [l_0, c_may_f h2 hq (by omega) hP _ q 1000 0 j (by omega) (by omega) (by omega) hj.1 hj.2]
    unfold may
    rw [decide_eq_false (fun z => c z.1)]
theorem Iv_mv {H : Nat} {S : Br} {q : Nat} (h : Iv H S) (hq : q < s_v S) (hl : ¬ s_P S q + 1 = s_n S) (hm : ∀ j, j < q → s_P S j ≠ s_P S q) : Iv H (mvS S q) := by
  obtain ⟨a, b, c, d⟩ := h
  unfold Iv
  simp only [p_mvS_n, p_mvS_L, p_mvS_J, p_mvS_A, p_mvS_K, p_mvS_T, p_mvS_v, p_mvS_N, p_mvS_W, p_mvS_P, p_mvS_nx, p_mvS_hr, p_mvS_rt, p_mvS_tl, p_mvS_pd, p_mvS_cr, p_mvS_sk]
  refine ⟨a, b, ?_, ?_⟩
  · intro j hj
    obtain ⟨c1, c2, c3, c4⟩ := c j hj
    refine ⟨c1, c2, ?_, c4⟩
    by_cases e : j = q
    · subst e; rw [uN_s]; omega
    · rw [uN_o _ _ e]; exact c3
  · intro j hj
    obtain ⟨d1, d2⟩ := d j hj
    refine ⟨d1, ?_⟩
    by_cases e : j + 1 = q
    · subst e
      have := hm j (by omega)
      rw [uN_s, uN_o _ _ (by omega)]; omega
    · rw [uN_o _ _ e]
      by_cases e2 : j = q
      · subst e2; rw [uN_s]; omega
      · rw [uN_o _ _ e2]; exact d2
def drv : Nat → Br → Nat → Br
  | 0, S, _ => S
  | r + 1, S, k => if s_P S k + 1 = s_n S then drv r (xsS S k) k else if may S k = true then drv r (mvS S k) (k + 1) else drv r S (k + 1)
theorem may_P {S : Br} {q : Nat} (h : may S q = true) : ∀ j, j < q → s_P S j ≠ s_P S q := (of_decide_eq_true h).1
theorem Iv_drv {H : Nat} : ∀ (r : Nat) (S : Br) (k : Nat), Iv H S → k + r = s_v S → Iv H (drv r S k) := by
  intro r
  induction r with
  | zero => intro S k h _; exact h
  | succ r ih =>
    intro S k h hk
    unfold drv
    by_cases c : s_P S k + 1 = s_n S
    · rw [if_pos c]
      exact ih (xsS S k) k (Iv_cross h (by omega)) (by rw [p_xsS_v]; omega)
    · rw [if_neg c]
      by_cases c2 : may S k = true
      · rw [if_pos c2]
        exact ih (mvS S k) (k + 1) (Iv_mv h (by omega) c (may_P c2)) (by rw [p_mvS_v]; omega)
      · rw [if_neg c2]
        exact ih S (k + 1) h (by omega)
theorem c_move_L {H : Nat} (v0 : Nat) (hv0 : v0 ≤ 8) (K : Bv → Option Bv) : ∀ (r fu i k : Nat) (S : Br), Iv H S → i + r = v0 → k + r = s_v S → r < fu → F_X0_moveVehicles_L9 (nI v0) (fun b _ _ => K b) fu (toB S) (nI k) (nI i) = K (toB (drv r S k)) := by
  intro r
  induction r with
  | zero =>
    intro fu i k S h hi hk hr
    obtain ⟨fu, rfl⟩ : ∃ f2, fu = f2 + 1 := ⟨fu - 1, by omega⟩
    have : i = v0 := by omega
    subst this
    unfold F_X0_moveVehicles_L9 drv
    simp (disch := omega) only [Option.bind_some, ck_tt, inb_nI, nz_nI, fI_a, fI_u, nI_clamp, nI_add, pk_mul, pk_sub, pk_div, nI_ltI, nI_leI, nI_eq, imin_nI, imax_nI, bi_t, bi_f, if_pos, if_neg, l_0, l_1, l_2, l_3, l_4, l_5, l_6, l_7, l_8, l_9, l_10, l_20, l_24, l_47, l_48, l_50, l_57, l_58, l_59, l_60, l_61, l_83, l_93, l_99, l_200, l_581, l_664]
  | succ r ih =>
    intro fu i k S h hi hk hr
    obtain ⟨fu, rfl⟩ : ∃ f2, fu = f2 + 1 := ⟨fu - 1, by omega⟩
    have hv := h.1.2.1
    have hp := (h.2.2.1 k (by omega)).2.2.1
    have hn := h.1.1
    unfold F_X0_moveVehicles_L9 drv
    rw [if_neg (nI_ge (by omega) (by omega)), c_last h (by omega), Option.bind_some]
    by_cases c : s_P S k + 1 = s_n S
    · have h9 := ih fu (i + 1) k (xsS S k) (Iv_cross h (by omega)) (by omega) (by rw [p_xsS_v]; omega) (by omega)
      rw [if_pos c, decide_eq_true c, if_neg (by decide), c_pay h (by omega), Option.bind_some, c_rmv (S := pay S k) (by rw [p_pay_v]; exact hv) (by rw [p_pay_v]; omega), Option.bind_some, l_1, nI_add, xs_e]
      exact h9
    · rw [if_neg c, decide_eq_false c, if_pos (by decide), c_may h (by omega) c, Option.bind_some]
      by_cases c2 : may S k = true
      · have h9 := ih fu (i + 1) (k + 1) (mvS S k) (Iv_mv h (by omega) c (may_P c2)) (by omega) (by rw [p_mvS_v]; omega) (by omega)
        rw [if_pos c2, c2, if_neg (by decide)]
        rw [toB_mvS] at h9
        simp (disch := omega) only [B_spans_to, B_lengths_to, B_jars_to, B_ages_to, B_cracks_to, B_stresses_to, B_vehicles_to, B_numbers_to, B_weights_to, B_places_to, B_nextNumber_to, B_hour_to, B_rate_to, B_till_to, B_paid_to, B_crossed_to, B_sunk_to, Option.bind_some, ck_tt, inb_nI, nz_nI, fI_a, fI_u, nI_clamp, nI_add, pk_mul, pk_sub, pk_div, nI_ltI, nI_leI, nI_eq, imin_nI, imax_nI, bi_t, bi_f, if_pos, if_neg, l_0, l_1, l_2, l_3, l_4, l_5, l_6, l_7, l_8, l_9, l_10, l_20, l_24, l_47, l_48, l_50, l_57, l_58, l_59, l_60, l_61, l_83, l_93, l_99, l_200, l_581, l_664]
        exact h9
      · have h9 := ih fu (i + 1) (k + 1) S h (by omega) (by omega) (by omega)
        rw [if_neg c2, show may S k = false by simpa using c2, if_pos (by decide)]
        simp (disch := omega) only [Option.bind_some, ck_tt, inb_nI, nz_nI, fI_a, fI_u, nI_clamp, nI_add, pk_mul, pk_sub, pk_div, nI_ltI, nI_leI, nI_eq, imin_nI, imax_nI, bi_t, bi_f, if_pos, if_neg, l_0, l_1, l_2, l_3, l_4, l_5, l_6, l_7, l_8, l_9, l_10, l_20, l_24, l_47, l_48, l_50, l_57, l_58, l_59, l_60, l_61, l_83, l_93, l_99, l_200, l_581, l_664]
        exact h9
theorem c_move {H : Nat} {S : Br} (h : Iv H S) : F_X0_moveVehicles (toB S) = some (toB (drv (s_v S) S 0)) :=
  c_move_L (s_v S) h.1.2.1 (fun b => some b) (s_v S) 1000 0 0 S h (by omega) (by omega) (by have := h.1.2.1; omega)
