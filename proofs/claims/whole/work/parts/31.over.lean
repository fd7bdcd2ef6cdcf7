/-! who is over: the order of the vehicles -/
theorem N_mono {H : Nat} {S : Br} (h : Iv H S) {i j : Nat} (hij : i < j) (hj : j < s_v S) : s_N S i < s_N S j := by
  have key : ∀ d, i + d + 1 < s_v S → s_N S i < s_N S (i + d + 1) := by
    intro d
    induction d with
    | zero => intro hd; exact (h.2.2.2 i hd).1
    | succ d ih =>
      intro hd
      exact Nat.lt_trans (ih (by omega)) (h.2.2.2 (i + d + 1) (by omega)).1
  have := key (j - i - 1) (by omega)
  rw [show i + (j - i - 1) + 1 = j by omega] at this
  exact this
theorem P_mono {H : Nat} {S : Br} (h : Iv H S) {i j : Nat} (hij : i ≤ j) (hj : j < s_v S) : s_P S j ≤ s_P S i := by
  have key : ∀ d, i + d < s_v S → s_P S (i + d) ≤ s_P S i := by
    intro d
    induction d with
    | zero => intro hd; exact Nat.le_refl _
    | succ d ih =>
      intro hd
      exact Nat.le_trans (h.2.2.2 (i + d) (by omega)).2 (ih (by omega))
  have := key (j - i) (by omega)
  rw [show i + (j - i) = j by omega] at this
  exact this
theorem xs_N0 {S : Br} {j : Nat} (hj : j + 1 < s_v S) : s_N (xsS S 0) j = s_N S (j + 1) ∧ s_P (xsS S 0) j = s_P S (j + 1) := by
  rw [p_xsS_N, p_xsS_P]
  unfold shU
  rw [if_pos (by omega), if_pos (by omega)]
  exact ⟨rfl, rfl⟩
theorem sh_num (f : Nat → Nat) {q v j : Nat} (hj : j < v - 1) : ∃ i, i < v ∧ shU f q (v - 1) j = f i := by
  unfold shU
  by_cases c : q ≤ j ∧ j < v - 1
  · rw [if_pos c]; exact ⟨j + 1, by omega, rfl⟩
  · rw [if_neg c]; exact ⟨j, by omega, rfl⟩
theorem drv_num : ∀ (r : Nat) (S : Br) (k : Nat), ∀ j, j < s_v (drv r S k) → ∃ i, i < s_v S ∧ s_N (drv r S k) j = s_N S i := by
  intro r
  induction r with
  | zero => intro S k j hj; exact ⟨j, hj, rfl⟩
  | succ r ih =>
    intro S k j hj
    by_cases c : s_P S k + 1 = s_n S
    · rw [drv_1 c] at hj ⊢
      obtain ⟨i, hi, e⟩ := ih _ _ j hj
      rw [p_xsS_v] at hi
      rw [e, p_xsS_N]
      exact sh_num _ hi
    · by_cases c2 : may S k = true
      · rw [drv_2 c c2] at hj ⊢
        obtain ⟨i, hi, e⟩ := ih _ _ j hj
        rw [p_mvS_v] at hi
        rw [e, p_mvS_N]
        exact ⟨i, hi, rfl⟩
      · rw [drv_3 c c2] at hj ⊢
        exact ih _ _ j hj
theorem snk_num {k : Nat} : ∀ (r : Nat) (S : Br), ∀ j, j < s_v (snk k r S) → ∃ i, i < s_v S ∧ s_N (snk k r S) j = s_N S i := by
  intro r
  induction r with
  | zero => intro S j hj; exact ⟨j, hj, rfl⟩
  | succ r ih =>
    intro S j hj
    by_cases c : ld S k ≤ str S k
    · rw [snk_1 c] at hj ⊢; exact ⟨j, hj, rfl⟩
    · by_cases c2 : s_P S r = k
      · rw [snk_2 c c2] at hj ⊢
        obtain ⟨i, hi, e⟩ := ih _ j hj
        rw [p_skS_v] at hi
        rw [e, p_skS_N]
        exact sh_num _ hi
      · rw [snk_3 c c2] at hj ⊢; exact ih _ j hj
theorem snkA_num : ∀ (r i0 : Nat) (S : Br), ∀ j, j < s_v (snkA r i0 S) → ∃ i, i < s_v S ∧ s_N (snkA r i0 S) j = s_N S i := by
  intro r
  induction r with
  | zero => intro i0 S j hj; exact ⟨j, hj, rfl⟩
  | succ r ih =>
    intro i0 S j hj
    obtain ⟨i, hi, e⟩ := ih (i0 + 1) (snk i0 (s_v S) S) j hj
    obtain ⟨i2, hi2, e2⟩ := snk_num _ _ i hi
    exact ⟨i2, hi2, e.trans e2⟩
theorem hA4_vN (S : Br) : s_v (hA4 S) = s_v (hA2 S) ∧ s_N (hA4 S) = s_N (hA2 S) := by
  unfold hA4
  by_cases c : s_hr (hA3 S) % 6 = 0
  · rw [if_pos c, p_sp_v, p_sp_N]; unfold hA3; rw [p_ss_v, p_ss_N]; exact ⟨rfl, rfl⟩
  · rw [if_neg c]; unfold hA3; rw [p_ss_v, p_ss_N]; exact ⟨rfl, rfl⟩
theorem hrs_num (S : Br) : ∀ j, j < s_v (hrs S) → ∃ i, i < s_v (hA2 S) ∧ s_N (hrs S) j = s_N (hA2 S) i := by
  intro j hj
  obtain ⟨i, hi, e⟩ := snkA_num _ _ _ j hj
  rw [(hA4_vN S).1] at hi
  rw [(hA4_vN S).2] at e
  exact ⟨i, hi, e⟩
theorem lov_in : ∀ (r : Nat) (S : Br) (k : Nat) (lo : Int32), k + r = s_v S → lov r S k lo = lo ∨ ∃ i, i < s_v S ∧ lov r S k lo = nI (s_N S i) := by
  intro r
  induction r with
  | zero => intro S k lo _; exact Or.inl rfl
  | succ r ih =>
    intro S k lo hk
    by_cases c : s_P S k + 1 = s_n S
    · rw [lov_1 c]
      rcases ih (xsS S k) k (nI (s_N S k)) (by rw [p_xsS_v]; omega) with e | ⟨i, hi, e⟩
      · exact Or.inr ⟨k, by omega, e⟩
      · rw [p_xsS_v] at hi
        rw [p_xsS_N] at e
        obtain ⟨i2, hi2, e2⟩ := sh_num (s_N S) (q := k) hi
        exact Or.inr ⟨i2, hi2, by rw [e, e2]⟩
    · by_cases c2 : may S k = true
      · rw [lov_2 c c2]
        have := ih (mvS S k) (k + 1) lo (by rw [p_mvS_v]; omega)
        rw [p_mvS_v, p_mvS_N] at this
        exact this
      · rw [lov_3 c c2]; exact ih S (k + 1) lo (by omega)
theorem lov_none : ∀ (r : Nat) (S : Br) (k : Nat) (lo : Int32), k + r = s_v S → (∀ j, k ≤ j → j < s_v S → ¬ s_P S j + 1 = s_n S) → lov r S k lo = lo := by
  intro r
  induction r with
  | zero => intro S k lo _ _; rfl
  | succ r ih =>
    intro S k lo hk hj
    have c := hj k (Nat.le_refl _) (by omega)
    by_cases c2 : may S k = true
    · rw [lov_2 c c2]
      refine ih (mvS S k) (k + 1) lo (by rw [p_mvS_v]; omega) ?_
      intro j h1 h2
      rw [p_mvS_v] at h2
      rw [p_mvS_P, p_mvS_n, uN_o _ _ (by omega)]
      exact hj j (by omega) h2
    · rw [lov_3 c c2]
      exact ih S (k + 1) lo (by omega) (fun j h1 h2 => hj j (by omega) h2)
theorem drv_gone {H : Nat} : ∀ (r : Nat) (S : Br) (j : Nat), Iv H S → r = s_v S → j < s_v S → s_P S j + 1 = s_n S → (∀ i, i < s_v (drv r S 0) → s_N (drv r S 0) i ≠ s_N S j) ∧ ∀ lo, ∃ i, i < s_v S ∧ s_N S j ≤ s_N S i ∧ lov r S 0 lo = nI (s_N S i) := by
  intro r
  induction r with
  | zero => intro S j _ h1 h2; omega
  | succ r ih =>
    intro S j hI hr hj hp
    have hP0 := P_mono hI (Nat.zero_le j) hj
    have hPn := (hI.2.2.1 0 (by omega)).2.2.1
    have c : s_P S 0 + 1 = s_n S := by omega
    have hI1 := Iv_cross hI (q := 0) (by omega)
    rw [drv_1 c]
    by_cases e : j = 0
    · subst e
      refine ⟨?_, ?_⟩
      · intro i hi
        obtain ⟨i2, hi2, e2⟩ := drv_num r (xsS S 0) 0 i hi
        rw [p_xsS_v] at hi2
        rw [e2, (xs_N0 (by omega)).1]
        have := N_mono hI (show 0 < i2 + 1 by omega) (by omega)
        omega
      · intro lo
        rw [lov_1 c]
        rcases lov_in r (xsS S 0) 0 (nI (s_N S 0)) (by rw [p_xsS_v]; omega) with e2 | ⟨i, hi, e2⟩
        · exact ⟨0, hj, Nat.le_refl _, e2⟩
        · rw [p_xsS_v] at hi
          rw [(xs_N0 (by omega)).1] at e2
          exact ⟨i + 1, by omega, Nat.le_of_lt (N_mono hI (by omega) (by omega)), e2⟩
    · obtain ⟨j1, rfl⟩ : ∃ j1, j = j1 + 1 := ⟨j - 1, by omega⟩
      have hx := xs_N0 (S := S) (j := j1) hj
      obtain ⟨h1, h2⟩ := ih (xsS S 0) j1 hI1 (by rw [p_xsS_v]; omega) (by rw [p_xsS_v]; omega) (by rw [hx.2, p_xsS_n]; exact hp)
      rw [hx.1] at h1
      refine ⟨h1, ?_⟩
      intro lo
      rw [lov_1 c]
      obtain ⟨i, hi, e1, e2⟩ := h2 (nI (s_N S 0))
      rw [p_xsS_v] at hi
      rw [hx.1, (xs_N0 (by omega)).1] at e1
      rw [(xs_N0 (by omega)).1] at e2
      exact ⟨i + 1, by omega, e1, e2⟩
theorem lov_low {H : Nat} : ∀ (r : Nat) (S : Br) (j : Nat) (lo : Int32), Iv H S → r = s_v S → j < s_v S → ¬ s_P S j + 1 = s_n S → lov r S 0 lo = lo ∨ ∃ i, i < s_v S ∧ s_N S i < s_N S j ∧ lov r S 0 lo = nI (s_N S i) := by
  intro r
  induction r with
  | zero => intro S j lo _ h1 h2; omega
  | succ r ih =>
    intro S j lo hI hr hj hp
    have hPj := (hI.2.2.1 j hj).2.2.1
    by_cases c : s_P S 0 + 1 = s_n S
    · have hj0 : j ≠ 0 := fun z => hp (z ▸ c)
      obtain ⟨j1, rfl⟩ : ∃ j1, j = j1 + 1 := ⟨j - 1, by omega⟩
      have hI1 := Iv_cross hI (q := 0) (by omega)
      have hx := xs_N0 (S := S) (j := j1) hj
      rw [lov_1 c]
      rcases ih (xsS S 0) j1 (nI (s_N S 0)) hI1 (by rw [p_xsS_v]; omega) (by rw [p_xsS_v]; omega) (by rw [hx.2, p_xsS_n]; exact hp) with e | ⟨i, hi, e1, e2⟩
      · exact Or.inr ⟨0, by omega, N_mono hI (by omega) hj, e⟩
      · rw [p_xsS_v] at hi
        rw [hx.1, (xs_N0 (by omega)).1] at e1
        rw [(xs_N0 (by omega)).1] at e2
        exact Or.inr ⟨i + 1, by omega, e1, e2⟩
    · refine Or.inl (lov_none (r + 1) S 0 lo (by omega) ?_)
      intro i _ hi
      have h1 := P_mono hI (Nat.zero_le i) hi
      have h2 := (hI.2.2.1 0 (by omega)).2.2.1
      omega
theorem hA1_st (S : Br) : s_v (hA1 S) = s_v S ∧ s_N (hA1 S) = s_N S ∧ s_P (hA1 S) = s_P S ∧ s_n (hA1 S) = s_n S := by
  unfold hA1
  rw [p_ag_v, p_ag_N, p_ag_P, p_ag_n, q_v_hr, q_N_hr, q_P_hr, q_n_hr]
  exact ⟨rfl, rfl, rfl, rfl⟩
theorem hrs_gone {H : Nat} {S : Br} (hI : Iv H S) (hH : H + 1 ≤ 900000) {j : Nat} (hj : j < s_v S) (hp : s_P S j + 1 = s_n S) : (∀ i, i < s_v (hrs S) → s_N (hrs S) i ≠ s_N S j) ∧ ∀ lo, ∃ i, i < s_v S ∧ s_N S j ≤ s_N S i ∧ loH S lo = nI (s_N S i) := by
  obtain ⟨e1, e2, e3, e4⟩ := hA1_st S
  obtain ⟨h1, h2⟩ := drv_gone (s_v S) (hA1 S) j (Iv_h1 hI hH) e1.symm (by rw [e1]; exact hj) (by rw [e3, e4]; exact hp)
  rw [e2] at h1
  refine ⟨?_, ?_⟩
  · intro i hi
    obtain ⟨i2, hi2, e⟩ := hrs_num S i hi
    rw [e]
    exact h1 i2 hi2
  · intro lo
    obtain ⟨i, hi, k1, k2⟩ := h2 lo
    rw [e1] at hi
    rw [e2] at k1 k2
    exact ⟨i, hi, k1, k2⟩
theorem hrs_low {H : Nat} {S : Br} (hI : Iv H S) (hH : H + 1 ≤ 900000) {j : Nat} (hj : j < s_v S) (hp : ¬ s_P S j + 1 = s_n S) (lo : Int32) : loH S lo = lo ∨ ∃ i, i < s_v S ∧ s_N S i < s_N S j ∧ loH S lo = nI (s_N S i) := by
  obtain ⟨e1, e2, e3, e4⟩ := hA1_st S
  have h := lov_low (s_v S) (hA1 S) j lo (Iv_h1 hI hH) e1.symm (by rw [e1]; exact hj) (by rw [e3, e4]; exact hp)
  rw [e1, e2] at h
  exact h
section OVER
variable {H : Nat} {x : Xv} {b t sn : Bv} {h : Hv} {tx : Tv} {ln : Nv} {mo : Mv}
theorem m1_ne {j : Nat} (hj : j < 2 ^ 31) : ¬ nI j = -1 := by
  intro z
  have := congrArg Int32.toInt z
  rw [nI_toInt hj, show (-1 : Int32).toInt = -1 by decide] at this
  omega
theorem over_L (p : Int32) (K : Mv → Int32 → Option (Int32 × Mv)) : ∀ (r fu fu2 i Hb : Nat) (S : Br) (mo : Mv), Iv Hb S → Hb + r ≤ 900000 → RG (M_g mo) S → i + r = 48 → r < fu → r < fu2 → (∃ j, j < s_v S ∧ nI (s_N S j) = p) → M_lastOver mo < p →
    ∃ T g' lo' ct' i' R, F_X5_hoursOver_L20 p K fu2 mo (nI i) = K (mG mo g' lo' ct') (nI i') ∧ i' ≤ 48 ∧ RG g' R ∧ Iv 900000 R ∧
      (((∀ j, j < s_v R → nI (s_N R j) ≠ p) ∧ ¬ lo' < p ∧ F_X4_hoursUntilOver_L13 x b p (fun b5 x6 => some (.inr ("java/util/NoSuchElementException", b5))) fu (toB S) (nI (i + 1)) = some (.inl (nI i', toB T))) ∨
       (((∃ j, j < s_v R ∧ nI (s_N R j) = p) ∨ lo' < p) ∧ F_X4_hoursUntilOver_L13 x b p (fun b5 x6 => some (.inr ("java/util/NoSuchElementException", b5))) fu (toB S) (nI (i + 1)) = some (.inr ("java/util/NoSuchElementException", toB T)))) := by
  intro r
  induction r with
  | zero =>
    intro fu fu2 i Hb S mo hI hH hg hi hf1 hf2 hpr hlo
    obtain ⟨fu, rfl⟩ : ∃ f2, fu = f2 + 1 := ⟨fu - 1, by omega⟩
    obtain ⟨fu2, rfl⟩ : ∃ f2, fu2 = f2 + 1 := ⟨fu2 - 1, by omega⟩
    have : i = 48 := by omega
    subst this
    refine ⟨S, M_g mo, M_lastOver mo, M_counted mo, 48, S, ?_, Nat.le_refl _, hg, hI.mono (by omega) (Nat.le_refl _), Or.inr ⟨Or.inl hpr, ?_⟩⟩
    · unfold F_X5_hoursOver_L20
      rw [if_pos (by decide)]; rfl
    · unfold F_X4_hoursUntilOver_L13
      rw [if_pos (by decide)]
  | succ r ih =>
    intro fu fu2 i Hb S mo hI hH hg hi hf1 hf2 hpr hlo
    obtain ⟨fu, rfl⟩ : ∃ f2, fu = f2 + 1 := ⟨fu - 1, by omega⟩
    obtain ⟨fu2, rfl⟩ : ∃ f2, fu2 = f2 + 1 := ⟨fu2 - 1, by omega⟩
    have hv := hI.1.2.1
    have hnx := hI.1.2.2.1
    have hHb : Hb + 1 ≤ 900000 := by omega
    rcases pos_c p hv hg with ⟨j, hj, hpj, e1, e2⟩ | ⟨hno, -, -⟩
    · have hN := (hI.2.2.1 j hj).2.2.2
      have hP := (hI.2.2.1 j hj).2.2.1
      obtain ⟨g1, ct1, hg1, eg⟩ := m_goes hI hHb hg
      have hI1 := Iv_hrs hI hHb
      have eM : F_X5_hoursOver_L20 p K (fu2 + 1) mo (nI i) = F_X5_hoursOver_L20 p K fu2 (mG mo g1 (loH S (M_lastOver mo)) ct1) (nI (i + 1)) := by
        conv => lhs; unfold F_X5_hoursOver_L20
        rw [if_neg (show ¬ (48 : Int32) ≤ nI i from (show ¬ nI 48 ≤ nI i from nI_ge (by omega) (by omega))), e2, Option.bind_some, if_neg (nI_pos (by omega)), eg, Option.bind_some, add1]
      have eG : ∀ g2 lo2 ct2, mG (mG mo g1 (loH S (M_lastOver mo)) ct1) g2 lo2 ct2 = mG mo g2 lo2 ct2 := by
        intro g2 lo2 ct2
        unfold mG
        simp only [M_g_mk, M_kept_mk, M_saved_mk, M_before_mk, M_trial_mk, M_counted_mk, M_isSaved_mk, M_changes_mk, M_isWithin_mk, M_isDenied_mk, M_code_mk, M_why_mk, M_detail_mk, M_cause_mk, M_input_mk, M_length_mk, M_fault_mk, M_signs_mk, M_signMany_mk, M_lastOver_mk, M_at_mk, M_told_mk, M_toldMany_mk]
      have eC : F_X4_hoursUntilOver_L13 x b p (fun b5 x6 => some (.inr ("java/util/NoSuchElementException", b5))) (fu + 1) (toB S) (nI (i + 1)) = if s_P S j + 1 = s_n S then some (.inl (nI (i + 1), toB S)) else F_X4_hoursUntilOver_L13 x b p (fun b5 x6 => some (.inr ("java/util/NoSuchElementException", b5))) fu (toB (hrs S)) (nI (i + 1 + 1)) := by
        conv => lhs; unfold F_X4_hoursUntilOver_L13
        rw [if_neg (show ¬ (48 : Int32) < nI (i + 1) from (show ¬ nI 48 < nI (i + 1) from nI_nlt (by omega) (by omega))), e1, Option.bind_some, if_pos (m1_ne (by omega)), c_last hI hj, Option.bind_some]
        by_cases c : s_P S j + 1 = s_n S
        · rw [decide_eq_true c, if_neg bt1, if_pos c]
        · rw [decide_eq_false c, if_pos (show bi false = 0 by decide), if_neg c]
          have ec := c_hours hI (r := 1) (by omega) (by omega)
          rw [show F_X0_letHoursPass (toB S) 1 = F_X0_letHoursPass (toB S) (nI 1) from rfl, ec, Option.bind_some, add1]
          rfl
      -- the reference's loop, once the vehicle is gone
      have gone : (∀ i2, i2 < s_v (hrs S) → nI (s_N (hrs S) i2) ≠ p) → F_X5_hoursOver_L20 p K fu2 (mG mo g1 (loH S (M_lastOver mo)) ct1) (nI (i + 1)) = K (mG mo g1 (loH S (M_lastOver mo)) ct1) (nI (i + 1)) := by
        intro hno
        obtain ⟨fu3, rfl⟩ : ∃ f2, fu2 = f2 + 1 := ⟨fu2 - 1, by omega⟩
        unfold F_X5_hoursOver_L20
        by_cases c48 : i + 1 = 48
        · rw [if_pos (by rw [c48]; decide)]
        · rcases pos_c p (m2 := mG mo g1 (loH S (M_lastOver mo)) ct1) hI1.1.2.1 (by rw [w_mG_g]; exact hg1) with ⟨i2, hi2, hp2, -, -⟩ | ⟨-, -, e3⟩
          · exact absurd hp2 (hno i2 hi2)
          · rw [if_neg (show ¬ (48 : Int32) ≤ nI (i + 1) from (show ¬ nI 48 ≤ nI (i + 1) from nI_ge (by omega) (by omega))), e3, Option.bind_some, if_pos (by decide)]
      by_cases c : s_P S j + 1 = s_n S
      · obtain ⟨k1, k2⟩ := hrs_gone hI hHb hj c
        have hno : ∀ i2, i2 < s_v (hrs S) → nI (s_N (hrs S) i2) ≠ p := by
          intro i2 hi2 z
          have hn2 := (hI1.2.2.1 i2 hi2).2.2.2
          have hnx2 := hI1.1.2.2.1
          rw [← hpj] at z
          exact k1 i2 hi2 ((nI_eq (by omega) (by omega)).mp z)
        obtain ⟨i3, hi3, k3, k4⟩ := k2 (M_lastOver mo)
        have hn3 := (hI.2.2.1 i3 hi3).2.2.2
        refine ⟨S, g1, loH S (M_lastOver mo), ct1, i + 1, hrs S, ?_, by omega, hg1, hI1.mono (by omega) (Nat.le_refl _), Or.inl ⟨hno, ?_, ?_⟩⟩
        · rw [eM, gone hno]
        · rw [k4, ← hpj]; exact nI_nlt k3 (by omega)
        · rw [eC, if_pos c]
      · have hlo1 : loH S (M_lastOver mo) < p := by
          rcases hrs_low hI hHb hj c (M_lastOver mo) with e | ⟨i3, hi3, k3, k4⟩
          · rw [e]; exact hlo
          · rw [k4, ← hpj]; exact nI_lt k3 (by omega)
        by_cases hpr2 : ∃ j2, j2 < s_v (hrs S) ∧ nI (s_N (hrs S) j2) = p
        · obtain ⟨T, g', lo', ct', i', R, q1, q2, q3, q4, q5⟩ := ih fu fu2 (i + 1) (Hb + 1) (hrs S) (mG mo g1 (loH S (M_lastOver mo)) ct1) hI1 (by omega) (by rw [w_mG_g]; exact hg1) (by omega) (by omega) (by omega) hpr2 (by rw [w_mG_lastOver]; exact hlo1)
          refine ⟨T, g', lo', ct', i', R, ?_, q2, q3, q4, ?_⟩
          · rw [eM, q1, eG]
          · rw [eC, if_neg c]; exact q5
        · have hno : ∀ i2, i2 < s_v (hrs S) → nI (s_N (hrs S) i2) ≠ p := fun i2 hi2 z => hpr2 ⟨i2, hi2, z⟩
          refine ⟨hrs S, g1, loH S (M_lastOver mo), ct1, i + 1, hrs S, ?_, by omega, hg1, hI1.mono (by omega) (Nat.le_refl _), Or.inr ⟨Or.inr hlo1, ?_⟩⟩
          · rw [eM, gone hno]
          · rw [eC, if_neg c]
            obtain ⟨fu3, rfl⟩ : ∃ f2, fu = f2 + 1 := ⟨fu - 1, by omega⟩
            unfold F_X4_hoursUntilOver_L13
            by_cases c48 : i + 1 = 48
            · rw [if_pos (by rw [c48]; decide)]
            · rcases pos_c p (m2 := mG mo g1 (loH S (M_lastOver mo)) ct1) hI1.1.2.1 (by rw [w_mG_g]; exact hg1) with ⟨i2, hi2, hp2, -, -⟩ | ⟨-, e3, -⟩
              · exact absurd hp2 (hno i2 hi2)
              · rw [if_neg (show ¬ (48 : Int32) < nI (i + 1 + 1) from (show ¬ nI 48 < nI (i + 1 + 1) from nI_nlt (by omega) (by omega))), e3, Option.bind_some, if_neg (fun z => z rfl)]
    · obtain ⟨j, hj, e⟩ := hpr
      exact absurd e (hno j hj)
def mO (x : Mv) (y tr : Nat → Int32) (lo : Int32) (ct : Nat → Int32) : Mv := mkM (y) (M_kept x) (M_saved x) (M_before x) (tr) (ct) (M_isSaved x) (M_changes x) (M_isWithin x) (M_isDenied x) (M_code x) (M_why x) (M_detail x) (M_cause x) (M_input x) (M_length x) (M_fault x) (M_signs x) (M_signMany x) (lo) (M_at x) (M_told x) (M_toldMany x)
theorem w_mO_g (x : Mv) (y tr : Nat → Int32) (lo : Int32) (ct : Nat → Int32) : M_g (mO x y tr lo ct) = y := rfl
theorem w_mO_kept (x : Mv) (y tr : Nat → Int32) (lo : Int32) (ct : Nat → Int32) : M_kept (mO x y tr lo ct) = M_kept x := rfl
theorem w_mO_saved (x : Mv) (y tr : Nat → Int32) (lo : Int32) (ct : Nat → Int32) : M_saved (mO x y tr lo ct) = M_saved x := rfl
theorem w_mO_before (x : Mv) (y tr : Nat → Int32) (lo : Int32) (ct : Nat → Int32) : M_before (mO x y tr lo ct) = M_before x := rfl
theorem w_mO_trial (x : Mv) (y tr : Nat → Int32) (lo : Int32) (ct : Nat → Int32) : M_trial (mO x y tr lo ct) = tr := rfl
theorem w_mO_counted (x : Mv) (y tr : Nat → Int32) (lo : Int32) (ct : Nat → Int32) : M_counted (mO x y tr lo ct) = ct := rfl
theorem w_mO_isSaved (x : Mv) (y tr : Nat → Int32) (lo : Int32) (ct : Nat → Int32) : M_isSaved (mO x y tr lo ct) = M_isSaved x := rfl
theorem w_mO_changes (x : Mv) (y tr : Nat → Int32) (lo : Int32) (ct : Nat → Int32) : M_changes (mO x y tr lo ct) = M_changes x := rfl
theorem w_mO_isWithin (x : Mv) (y tr : Nat → Int32) (lo : Int32) (ct : Nat → Int32) : M_isWithin (mO x y tr lo ct) = M_isWithin x := rfl
theorem w_mO_isDenied (x : Mv) (y tr : Nat → Int32) (lo : Int32) (ct : Nat → Int32) : M_isDenied (mO x y tr lo ct) = M_isDenied x := rfl
theorem w_mO_code (x : Mv) (y tr : Nat → Int32) (lo : Int32) (ct : Nat → Int32) : M_code (mO x y tr lo ct) = M_code x := rfl
theorem w_mO_why (x : Mv) (y tr : Nat → Int32) (lo : Int32) (ct : Nat → Int32) : M_why (mO x y tr lo ct) = M_why x := rfl
theorem w_mO_detail (x : Mv) (y tr : Nat → Int32) (lo : Int32) (ct : Nat → Int32) : M_detail (mO x y tr lo ct) = M_detail x := rfl
theorem w_mO_cause (x : Mv) (y tr : Nat → Int32) (lo : Int32) (ct : Nat → Int32) : M_cause (mO x y tr lo ct) = M_cause x := rfl
theorem w_mO_input (x : Mv) (y tr : Nat → Int32) (lo : Int32) (ct : Nat → Int32) : M_input (mO x y tr lo ct) = M_input x := rfl
theorem w_mO_length (x : Mv) (y tr : Nat → Int32) (lo : Int32) (ct : Nat → Int32) : M_length (mO x y tr lo ct) = M_length x := rfl
theorem w_mO_fault (x : Mv) (y tr : Nat → Int32) (lo : Int32) (ct : Nat → Int32) : M_fault (mO x y tr lo ct) = M_fault x := rfl
theorem w_mO_signs (x : Mv) (y tr : Nat → Int32) (lo : Int32) (ct : Nat → Int32) : M_signs (mO x y tr lo ct) = M_signs x := rfl
theorem w_mO_signMany (x : Mv) (y tr : Nat → Int32) (lo : Int32) (ct : Nat → Int32) : M_signMany (mO x y tr lo ct) = M_signMany x := rfl
theorem w_mO_lastOver (x : Mv) (y tr : Nat → Int32) (lo : Int32) (ct : Nat → Int32) : M_lastOver (mO x y tr lo ct) = lo := rfl
theorem w_mO_at (x : Mv) (y tr : Nat → Int32) (lo : Int32) (ct : Nat → Int32) : M_at (mO x y tr lo ct) = M_at x := rfl
theorem w_mO_told (x : Mv) (y tr : Nat → Int32) (lo : Int32) (ct : Nat → Int32) : M_told (mO x y tr lo ct) = M_told x := rfl
theorem w_mO_toldMany (x : Mv) (y tr : Nat → Int32) (lo : Int32) (ct : Nat → Int32) : M_toldMany (mO x y tr lo ct) = M_toldMany x := rfl
theorem Rel.O {g tr ct : Nat → Int32} {lo : Int32} {S : Br} (hR : Rel H x (toB S) t sn h tx ln mo) (hH : H + 800 ≤ 900000) (hI : Iv H S) (hg : RG g S) (c : Int32) : Rel (H + 800) x (toB S) t sn h tx ln (mF (mO mo g tr lo ct) c) := by
  have h1 := hR.up (H1 := H + 800) (by omega) hH
  unfold Rel TXR LNR at h1 ⊢
  simp only [w_mF_g, w_mF_kept, w_mF_saved, w_mF_before, w_mF_trial, w_mF_counted, w_mF_isSaved, w_mF_changes, w_mF_isWithin, w_mF_isDenied, w_mF_code, w_mF_why, w_mF_detail, w_mF_cause, w_mF_input, w_mF_length, w_mF_fault, w_mF_signs, w_mF_signMany, w_mF_lastOver, w_mF_at, w_mF_told, w_mF_toldMany, w_mO_g, w_mO_kept, w_mO_saved, w_mO_before, w_mO_trial, w_mO_counted, w_mO_isSaved, w_mO_changes, w_mO_isWithin, w_mO_isDenied, w_mO_code, w_mO_why, w_mO_detail, w_mO_cause, w_mO_input, w_mO_length, w_mO_fault, w_mO_signs, w_mO_signMany, w_mO_lastOver, w_mO_at, w_mO_told, w_mO_toldMany]
  exact ⟨⟨S, rfl, hI.mono (by omega) hH, hg⟩, h1.2⟩
theorem op_hoursUntilOver (hR : Rel H x b t sn h tx ln mo) (hH : H + 800 ≤ 900000) (p : Int32) : ∃ z zm, F_X4_hoursUntilOver x b t p = some z ∧ F_X5_hoursUntilOver mo p = some zm ∧ R1t ["java/util/NoSuchElementException"] z zm ∧ Rel (H + 800) x b (Sum.elim (fun y => y.2) (fun y => y.2) z) sn h tx ln zm.2 := by
  obtain ⟨⟨S, rfl, hI, hg⟩, ⟨T0, rfl⟩, -⟩ := id hR
  have hn := hI.1.1
  have hv := hI.1.2.1
  have hIc := Iv_cp T0 hI
  have hgc : RG (M_g mo) (cpS T0 S) := RG_cp T0 hg hn hv
  rcases gone_c (x := x) hI hg p with ⟨j, hj, hp, -, e2, e3⟩ | ⟨-, e2⟩
  · have hN := (hI.2.2.1 j hj).2.2.2
    have hnx := hI.1.2.2.1
    have hH9 := hI.1.2.2.2.2.2.2.2.2
    -- the reference's state before its loop
    have htr : RG (va_cpy (M_g mo) (M_trial mo) 0 0 83) S := RG_ext hn hv hg (fun t ht => by rw [pk_cpy_in (by omega) (by omega)]; exact congrArg (M_g mo) (by omega))
    have hback : ∀ g2 : Nat → Int32, RG (va_cpy (va_cpy (M_g mo) (M_trial mo) 0 0 83) g2 0 0 83) S := fun g2 => RG_ext hn hv htr (fun t ht => by rw [pk_cpy_in (by omega) (by omega)]; exact congrArg _ (by omega))
    obtain ⟨T, g', lo', ct', i', R, q1, q2, q3, q4, q5⟩ := over_L (x := x) (b := toB S) p (fun b4 x5 => (F_X5_placeOf b4 p).bind (fun z6 => if 0 ≤ z6 then (F_X5_copies 83 83 (M_trial b4) (M_g b4) 0 0).bind (fun z7 => if (0 : Int32) = 0 then some ((-1), m_g b4 z7) else some (x5, m_g b4 z7)) else if (M_lastOver b4) < p then (F_X5_copies 83 83 (M_trial b4) (M_g b4) 0 0).bind (fun z8 => if (0 : Int32) = 0 then some ((-1), m_g b4 z8) else some (x5, m_g b4 z8)) else (F_X5_copies 83 83 (M_trial b4) (M_g b4) 0 0).bind (fun z9 => if (1 : Int32) = 0 then some ((-1), m_g b4 z9) else some (x5, m_g b4 z9)))) 48 1000 1000 0 H (cpS T0 S) (mO (mF mo 0) (M_g mo) (va_cpy (M_g mo) (M_trial mo) 0 0 83) (-1) (M_counted mo)) hIc (by omega) (by rw [w_mO_g]; exact hgc) (by omega) (by omega) (by omega) ⟨j, by rw [p_cpS_v]; exact hj, by rw [p_cpS_N, cpN_i _ _ (by omega)]; exact hp⟩ (by
      rw [w_mO_lastOver, ← hp, Int32.lt_iff_toInt_lt, nI_toInt (by omega), show (-1 : Int32).toInt = -1 by decide]
      omega)
    have eO : mO (mF mo 0) (M_g mo) (va_cpy (M_g mo) (M_trial mo) 0 0 83) (-1) (M_counted mo) = mkM (M_g (mF mo 0)) (M_kept (mF mo 0)) (M_saved (mF mo 0)) (M_before (mF mo 0)) (va_cpy (M_g mo) (M_trial mo) 0 0 83) (M_counted (mF mo 0)) (M_isSaved (mF mo 0)) (M_changes (mF mo 0)) (M_isWithin (mF mo 0)) (M_isDenied (mF mo 0)) (M_code (mF mo 0)) (M_why (mF mo 0)) (M_detail (mF mo 0)) (M_cause (mF mo 0)) (M_input (mF mo 0)) (M_length (mF mo 0)) (M_fault (mF mo 0)) (M_signs (mF mo 0)) (M_signMany (mF mo 0)) (-1) (M_at (mF mo 0)) (M_told (mF mo 0)) (M_toldMany (mF mo 0)) := by
      unfold mO
      simp only [w_mF_g, w_mF_kept, w_mF_saved, w_mF_before, w_mF_trial, w_mF_counted, w_mF_isSaved, w_mF_changes, w_mF_isWithin, w_mF_isDenied, w_mF_code, w_mF_why, w_mF_detail, w_mF_cause, w_mF_input, w_mF_length, w_mF_fault, w_mF_signs, w_mF_signMany, w_mF_lastOver, w_mF_at, w_mF_told, w_mF_toldMany]
    have eFin : ∀ g2, m_g (mG (mO (mF mo 0) (M_g mo) (va_cpy (M_g mo) (M_trial mo) 0 0 83) (-1) (M_counted mo)) g' lo' ct') g2 = mO (mF mo 0) g2 (va_cpy (M_g mo) (M_trial mo) 0 0 83) lo' ct' := by
      intro g2
      unfold m_g mO
      simp only [w_mG_g, w_mG_kept, w_mG_saved, w_mG_before, w_mG_trial, w_mG_counted, w_mG_isSaved, w_mG_changes, w_mG_isWithin, w_mG_isDenied, w_mG_code, w_mG_why, w_mG_detail, w_mG_cause, w_mG_input, w_mG_length, w_mG_fault, w_mG_signs, w_mG_signMany, w_mG_lastOver, w_mG_at, w_mG_told, w_mG_toldMany, w_mF_g, w_mF_kept, w_mF_saved, w_mF_before, w_mF_trial, w_mF_counted, w_mF_isSaved, w_mF_changes, w_mF_isWithin, w_mF_isDenied, w_mF_code, w_mF_why, w_mF_detail, w_mF_cause, w_mF_input, w_mF_length, w_mF_fault, w_mF_signs, w_mF_signMany, w_mF_lastOver, w_mF_at, w_mF_told, w_mF_toldMany, M_g_mk, M_kept_mk, M_saved_mk, M_before_mk, M_trial_mk, M_counted_mk, M_isSaved_mk, M_changes_mk, M_isWithin_mk, M_isDenied_mk, M_code_mk, M_why_mk, M_detail_mk, M_cause_mk, M_input_mk, M_length_mk, M_fault_mk, M_signs_mk, M_signMany_mk, M_lastOver_mk, M_at_mk, M_told_mk, M_toldMany_mk]
    have eFF : ∀ g2 c, mF (mO (mF mo 0) g2 (va_cpy (M_g mo) (M_trial mo) 0 0 83) lo' ct') c = mF (mO mo g2 (va_cpy (M_g mo) (M_trial mo) 0 0 83) lo' ct') c := by
      intro g2 c
      unfold mF
      simp only [w_mO_g, w_mO_kept, w_mO_saved, w_mO_before, w_mO_trial, w_mO_counted, w_mO_isSaved, w_mO_changes, w_mO_isWithin, w_mO_isDenied, w_mO_code, w_mO_why, w_mO_detail, w_mO_cause, w_mO_input, w_mO_length, w_mO_fault, w_mO_signs, w_mO_signMany, w_mO_lastOver, w_mO_at, w_mO_told, w_mO_toldMany, M_g_mk, M_kept_mk, M_saved_mk, M_before_mk, M_trial_mk, M_counted_mk, M_isSaved_mk, M_changes_mk, M_isWithin_mk, M_isDenied_mk, M_code_mk, M_why_mk, M_detail_mk, M_cause_mk, M_input_mk, M_length_mk, M_fault_mk, M_signs_mk, M_signMany_mk, M_lastOver_mk, M_at_mk, M_told_mk, M_toldMany_mk]
    have hcp : ∀ (f2 g2 : Nat → Int32), F_X5_copies 83 83 f2 g2 0 0 = some (va_cpy f2 g2 0 0 83) := fun f2 g2 => m_copies (n1 := 83) (n2 := 83) (a := 0) (c := 0) (by omega) (by omega) (by omega) (by omega) f2 g2
    have hO : F_X5_hoursOver (mF mo 0) p = F_X5_hoursOver_L20 p (fun b4 x5 => (F_X5_placeOf b4 p).bind (fun z6 => if 0 ≤ z6 then (F_X5_copies 83 83 (M_trial b4) (M_g b4) 0 0).bind (fun z7 => if (0 : Int32) = 0 then some ((-1), m_g b4 z7) else some (x5, m_g b4 z7)) else if (M_lastOver b4) < p then (F_X5_copies 83 83 (M_trial b4) (M_g b4) 0 0).bind (fun z8 => if (0 : Int32) = 0 then some ((-1), m_g b4 z8) else some (x5, m_g b4 z8)) else (F_X5_copies 83 83 (M_trial b4) (M_g b4) 0 0).bind (fun z9 => if (1 : Int32) = 0 then some ((-1), m_g b4 z9) else some (x5, m_g b4 z9)))) 1000 (mO (mF mo 0) (M_g mo) (va_cpy (M_g mo) (M_trial mo) 0 0 83) (-1) (M_counted mo)) 0 := by
      rw [eO]
      unfold F_X5_hoursOver
      rw [w_mF_trial, w_mF_g, hcp, Option.bind_some]
      rfl
    have hgo : RG (M_g (mG (mO (mF mo 0) (M_g mo) (va_cpy (M_g mo) (M_trial mo) 0 0 83) (-1) (M_counted mo)) g' lo' ct')) R := by rw [w_mG_g]; exact q3
    have hFx : ∀ z, F_X4_hoursUntilOver_L13 x (toB S) p (fun b5 x6 => some (.inr ("java/util/NoSuchElementException", b5))) 1000 (toB (cpS T0 S)) (nI (0 + 1)) = some z → F_X4_hoursUntilOver x (toB S) (toB T0) p = some z := by
      intro z hz
      unfold F_X4_hoursUntilOver
      rw [c_copy, Option.bind_some]
      exact hz
    rcases q5 with ⟨k1, k2, k3⟩ | ⟨k1, k3⟩
    · have eOv : F_X5_hoursOver (mF mo 0) p = some (nI i', mO (mF mo 0) (va_cpy (va_cpy (M_g mo) (M_trial mo) 0 0 83) g' 0 0 83) (va_cpy (M_g mo) (M_trial mo) 0 0 83) lo' ct') := by
        rw [hO]
        refine q1.trans ?_
        rcases pos_c p q4.1.2.1 hgo with ⟨j2, h1, h2, -, -⟩ | ⟨-, -, h3⟩
        · exact absurd h2 (k1 j2 h1)
        · refine gb h3 (gn (by decide) (gn (by rw [w_mG_lastOver]; exact k2) (gb (hcp _ _) (gn (by decide) ?_))))
          rw [eFin, w_mG_trial, w_mO_trial, w_mG_g]
      refine ⟨_, (nI i', mF (mO mo (va_cpy (va_cpy (M_g mo) (M_trial mo) 0 0 83) g' 0 0 83) (va_cpy (M_g mo) (M_trial mo) 0 0 83) lo' ct') 0), hFx _ k3, ?_, ⟨w_mF_code _ _, rfl⟩, (Rel.O hR hH hI (hback g') 0).tr⟩
      unfold F_X5_hoursUntilOver
      refine gb e2 (gp rfl (gb eOv (gp (nI_pos' (by omega)) (gb (fails_0 _) (gp rfl ?_)))))
      rw [eFF]
    · have eOv : F_X5_hoursOver (mF mo 0) p = some (-1, mO (mF mo 0) (va_cpy (va_cpy (M_g mo) (M_trial mo) 0 0 83) g' 0 0 83) (va_cpy (M_g mo) (M_trial mo) 0 0 83) lo' ct') := by
        rw [hO]
        refine q1.trans ?_
        rcases pos_c p q4.1.2.1 hgo with ⟨j2, h1, h2, -, h3⟩ | ⟨h1, -, h3⟩
        · refine gb h3 (gp (nI_pos' (by have := q4.1.2.1; omega)) (gb (hcp _ _) (gp rfl ?_)))
          rw [eFin, w_mG_trial, w_mO_trial, w_mG_g]
        · have hl : lo' < p := by
            rcases k1 with ⟨j2, h4, h5⟩ | h4
            · exact absurd h5 (h1 j2 h4)
            · exact h4
          refine gb h3 (gn (by decide) (gp (by rw [w_mG_lastOver]; exact hl) (gb (hcp _ _) (gp rfl ?_))))
          rw [eFin, w_mG_trial, w_mO_trial, w_mG_g]
      refine ⟨_, (0, mF (mO mo (va_cpy (va_cpy (M_g mo) (M_trial mo) 0 0 83) g' 0 0 83) (va_cpy (M_g mo) (M_trial mo) 0 0 83) lo' ct') 1), hFx _ k3, ?_, ⟨?_, ?_⟩, (Rel.O hR hH hI (hback g') 1).tr⟩
      · unfold F_X5_hoursUntilOver
        refine gb e2 (gp rfl (gb eOv (gn (show ¬ (0 : Int32) ≤ -1 by decide) (gb (fails_1 _) (gn bt1 ?_)))))
        rw [eFF]
      · rw [w_mF_code]; exact (show cd ["java/util/NoSuchElementException"] 1 "java/util/NoSuchElementException" = some 1 by decide)
      · rw [w_mF_code]; decide
  · obtain ⟨hF, -⟩ : F_X4_hoursUntilOver x (toB S) (toB T0) p = some (.inr ("java/util/NoSuchElementException", toB (cpS T0 S))) ∧ True := by
      refine ⟨?_, trivial⟩
      have hno : F_X0_positionOf (toB (cpS T0 S)) p = some (-1) := by
        rcases pos_c p (S := cpS T0 S) (m2 := mo) (by rw [p_cpS_v]; exact hv) hgc with ⟨j, h1, h2, h3, h4⟩ | ⟨h1, h3, h4⟩
        · exfalso
          unfold F_X5_isGone at e2
          rw [h4, Option.bind_some, if_pos (nI_pos' (by rw [p_cpS_v] at h1; omega)), fails_0] at e2
          cases e2
        · exact h3
      unfold F_X4_hoursUntilOver
      rw [c_copy, Option.bind_some]
      unfold F_X4_hoursUntilOver_L13
      rw [if_neg (by decide), hno, Option.bind_some, if_neg (fun z => z rfl)]
    refine ⟨_, (0, mF mo 1), hF, ?_, ⟨?_, ?_⟩, (hR.F hH 1).tr⟩
    · unfold F_X5_hoursUntilOver
      exact gb e2 (gn bt1 rfl)
    · rw [w_mF_code]; exact (show cd ["java/util/NoSuchElementException"] 1 "java/util/NoSuchElementException" = some 1 by decide)
    · rw [w_mF_code]; decide
end OVER
