section EXEC2
variable {H : Nat} {x : Xv} {b t sn : Bv} {h : Hv} {tx : Tv} {ln : Nv} {mo : Mv}
def mB (x : Mv) (p : Int32) (td : Nat → Int32) (n : Int32) (bf : Nat → Int32) : Mv := mkM (M_g x) (M_kept x) (M_saved x) (bf) (M_trial x) (M_counted x) (M_isSaved x) (M_changes x) (1) (0) (0) (M_why x) (M_detail x) (M_cause x) (M_input x) (0) (M_fault x) (M_signs x) (M_signMany x) (M_lastOver x) (p) (td) (n)
theorem w_mB_g (x : Mv) (p : Int32) (td : Nat → Int32) (n : Int32) (bf : Nat → Int32) : M_g (mB x p td n bf) = M_g x := rfl
theorem w_mB_kept (x : Mv) (p : Int32) (td : Nat → Int32) (n : Int32) (bf : Nat → Int32) : M_kept (mB x p td n bf) = M_kept x := rfl
theorem w_mB_saved (x : Mv) (p : Int32) (td : Nat → Int32) (n : Int32) (bf : Nat → Int32) : M_saved (mB x p td n bf) = M_saved x := rfl
theorem w_mB_before (x : Mv) (p : Int32) (td : Nat → Int32) (n : Int32) (bf : Nat → Int32) : M_before (mB x p td n bf) = bf := rfl
theorem w_mB_trial (x : Mv) (p : Int32) (td : Nat → Int32) (n : Int32) (bf : Nat → Int32) : M_trial (mB x p td n bf) = M_trial x := rfl
theorem w_mB_counted (x : Mv) (p : Int32) (td : Nat → Int32) (n : Int32) (bf : Nat → Int32) : M_counted (mB x p td n bf) = M_counted x := rfl
theorem w_mB_isSaved (x : Mv) (p : Int32) (td : Nat → Int32) (n : Int32) (bf : Nat → Int32) : M_isSaved (mB x p td n bf) = M_isSaved x := rfl
theorem w_mB_changes (x : Mv) (p : Int32) (td : Nat → Int32) (n : Int32) (bf : Nat → Int32) : M_changes (mB x p td n bf) = M_changes x := rfl
theorem w_mB_isWithin (x : Mv) (p : Int32) (td : Nat → Int32) (n : Int32) (bf : Nat → Int32) : M_isWithin (mB x p td n bf) = 1 := rfl
theorem w_mB_isDenied (x : Mv) (p : Int32) (td : Nat → Int32) (n : Int32) (bf : Nat → Int32) : M_isDenied (mB x p td n bf) = 0 := rfl
theorem w_mB_code (x : Mv) (p : Int32) (td : Nat → Int32) (n : Int32) (bf : Nat → Int32) : M_code (mB x p td n bf) = 0 := rfl
theorem w_mB_why (x : Mv) (p : Int32) (td : Nat → Int32) (n : Int32) (bf : Nat → Int32) : M_why (mB x p td n bf) = M_why x := rfl
theorem w_mB_detail (x : Mv) (p : Int32) (td : Nat → Int32) (n : Int32) (bf : Nat → Int32) : M_detail (mB x p td n bf) = M_detail x := rfl
theorem w_mB_cause (x : Mv) (p : Int32) (td : Nat → Int32) (n : Int32) (bf : Nat → Int32) : M_cause (mB x p td n bf) = M_cause x := rfl
theorem w_mB_input (x : Mv) (p : Int32) (td : Nat → Int32) (n : Int32) (bf : Nat → Int32) : M_input (mB x p td n bf) = M_input x := rfl
theorem w_mB_length (x : Mv) (p : Int32) (td : Nat → Int32) (n : Int32) (bf : Nat → Int32) : M_length (mB x p td n bf) = 0 := rfl
theorem w_mB_fault (x : Mv) (p : Int32) (td : Nat → Int32) (n : Int32) (bf : Nat → Int32) : M_fault (mB x p td n bf) = M_fault x := rfl
theorem w_mB_signs (x : Mv) (p : Int32) (td : Nat → Int32) (n : Int32) (bf : Nat → Int32) : M_signs (mB x p td n bf) = M_signs x := rfl
theorem w_mB_signMany (x : Mv) (p : Int32) (td : Nat → Int32) (n : Int32) (bf : Nat → Int32) : M_signMany (mB x p td n bf) = M_signMany x := rfl
theorem w_mB_lastOver (x : Mv) (p : Int32) (td : Nat → Int32) (n : Int32) (bf : Nat → Int32) : M_lastOver (mB x p td n bf) = M_lastOver x := rfl
theorem w_mB_at (x : Mv) (p : Int32) (td : Nat → Int32) (n : Int32) (bf : Nat → Int32) : M_at (mB x p td n bf) = p := rfl
theorem w_mB_told (x : Mv) (p : Int32) (td : Nat → Int32) (n : Int32) (bf : Nat → Int32) : M_told (mB x p td n bf) = td := rfl
theorem w_mB_toldMany (x : Mv) (p : Int32) (td : Nat → Int32) (n : Int32) (bf : Nat → Int32) : M_toldMany (mB x p td n bf) = n := rfl
def mT0 (x : Mv) (p : Int32) (td : Nat → Int32) (n f : Int32) : Mv := mkM (M_g x) (M_kept x) (M_saved x) (M_before x) (M_trial x) (M_counted x) (M_isSaved x) (M_changes x) (M_isWithin x) (M_isDenied x) (M_code x) (M_why x) (M_detail x) (M_cause x) (M_input x) (0) (f) (M_signs x) (M_signMany x) (M_lastOver x) (p) (td) (n)
theorem w_mT0_g (x : Mv) (p : Int32) (td : Nat → Int32) (n f : Int32) : M_g (mT0 x p td n f) = M_g x := rfl
theorem w_mT0_kept (x : Mv) (p : Int32) (td : Nat → Int32) (n f : Int32) : M_kept (mT0 x p td n f) = M_kept x := rfl
theorem w_mT0_saved (x : Mv) (p : Int32) (td : Nat → Int32) (n f : Int32) : M_saved (mT0 x p td n f) = M_saved x := rfl
theorem w_mT0_before (x : Mv) (p : Int32) (td : Nat → Int32) (n f : Int32) : M_before (mT0 x p td n f) = M_before x := rfl
theorem w_mT0_trial (x : Mv) (p : Int32) (td : Nat → Int32) (n f : Int32) : M_trial (mT0 x p td n f) = M_trial x := rfl
theorem w_mT0_counted (x : Mv) (p : Int32) (td : Nat → Int32) (n f : Int32) : M_counted (mT0 x p td n f) = M_counted x := rfl
theorem w_mT0_isSaved (x : Mv) (p : Int32) (td : Nat → Int32) (n f : Int32) : M_isSaved (mT0 x p td n f) = M_isSaved x := rfl
theorem w_mT0_changes (x : Mv) (p : Int32) (td : Nat → Int32) (n f : Int32) : M_changes (mT0 x p td n f) = M_changes x := rfl
theorem w_mT0_isWithin (x : Mv) (p : Int32) (td : Nat → Int32) (n f : Int32) : M_isWithin (mT0 x p td n f) = M_isWithin x := rfl
theorem w_mT0_isDenied (x : Mv) (p : Int32) (td : Nat → Int32) (n f : Int32) : M_isDenied (mT0 x p td n f) = M_isDenied x := rfl
theorem w_mT0_code (x : Mv) (p : Int32) (td : Nat → Int32) (n f : Int32) : M_code (mT0 x p td n f) = M_code x := rfl
theorem w_mT0_why (x : Mv) (p : Int32) (td : Nat → Int32) (n f : Int32) : M_why (mT0 x p td n f) = M_why x := rfl
theorem w_mT0_detail (x : Mv) (p : Int32) (td : Nat → Int32) (n f : Int32) : M_detail (mT0 x p td n f) = M_detail x := rfl
theorem w_mT0_cause (x : Mv) (p : Int32) (td : Nat → Int32) (n f : Int32) : M_cause (mT0 x p td n f) = M_cause x := rfl
theorem w_mT0_input (x : Mv) (p : Int32) (td : Nat → Int32) (n f : Int32) : M_input (mT0 x p td n f) = M_input x := rfl
theorem w_mT0_length (x : Mv) (p : Int32) (td : Nat → Int32) (n f : Int32) : M_length (mT0 x p td n f) = 0 := rfl
theorem w_mT0_fault (x : Mv) (p : Int32) (td : Nat → Int32) (n f : Int32) : M_fault (mT0 x p td n f) = f := rfl
theorem w_mT0_signs (x : Mv) (p : Int32) (td : Nat → Int32) (n f : Int32) : M_signs (mT0 x p td n f) = M_signs x := rfl
theorem w_mT0_signMany (x : Mv) (p : Int32) (td : Nat → Int32) (n f : Int32) : M_signMany (mT0 x p td n f) = M_signMany x := rfl
theorem w_mT0_lastOver (x : Mv) (p : Int32) (td : Nat → Int32) (n f : Int32) : M_lastOver (mT0 x p td n f) = M_lastOver x := rfl
theorem w_mT0_at (x : Mv) (p : Int32) (td : Nat → Int32) (n f : Int32) : M_at (mT0 x p td n f) = p := rfl
theorem w_mT0_told (x : Mv) (p : Int32) (td : Nat → Int32) (n f : Int32) : M_told (mT0 x p td n f) = td := rfl
theorem w_mT0_toldMany (x : Mv) (p : Int32) (td : Nat → Int32) (n f : Int32) : M_toldMany (mT0 x p td n f) = n := rfl
def mY (x : Mv) (g : Nat → Int32) : Mv := mkM (g) (M_kept x) (M_saved x) (M_before x) (M_trial x) (M_counted x) (M_isSaved x) (M_changes x) (0) (M_isDenied x) (M_code x) (M_why x) (M_detail x) (M_cause x) (M_input x) (M_length x) (M_fault x) (M_signs x) (M_signMany x) (M_lastOver x) (M_at x) (M_told x) (M_toldMany x)
theorem w_mY_g (x : Mv) (g : Nat → Int32) : M_g (mY x g) = g := rfl
theorem w_mY_kept (x : Mv) (g : Nat → Int32) : M_kept (mY x g) = M_kept x := rfl
theorem w_mY_saved (x : Mv) (g : Nat → Int32) : M_saved (mY x g) = M_saved x := rfl
theorem w_mY_before (x : Mv) (g : Nat → Int32) : M_before (mY x g) = M_before x := rfl
theorem w_mY_trial (x : Mv) (g : Nat → Int32) : M_trial (mY x g) = M_trial x := rfl
theorem w_mY_counted (x : Mv) (g : Nat → Int32) : M_counted (mY x g) = M_counted x := rfl
theorem w_mY_isSaved (x : Mv) (g : Nat → Int32) : M_isSaved (mY x g) = M_isSaved x := rfl
theorem w_mY_changes (x : Mv) (g : Nat → Int32) : M_changes (mY x g) = M_changes x := rfl
theorem w_mY_isWithin (x : Mv) (g : Nat → Int32) : M_isWithin (mY x g) = 0 := rfl
theorem w_mY_isDenied (x : Mv) (g : Nat → Int32) : M_isDenied (mY x g) = M_isDenied x := rfl
theorem w_mY_code (x : Mv) (g : Nat → Int32) : M_code (mY x g) = M_code x := rfl
theorem w_mY_why (x : Mv) (g : Nat → Int32) : M_why (mY x g) = M_why x := rfl
theorem w_mY_detail (x : Mv) (g : Nat → Int32) : M_detail (mY x g) = M_detail x := rfl
theorem w_mY_cause (x : Mv) (g : Nat → Int32) : M_cause (mY x g) = M_cause x := rfl
theorem w_mY_input (x : Mv) (g : Nat → Int32) : M_input (mY x g) = M_input x := rfl
theorem w_mY_length (x : Mv) (g : Nat → Int32) : M_length (mY x g) = M_length x := rfl
theorem w_mY_fault (x : Mv) (g : Nat → Int32) : M_fault (mY x g) = M_fault x := rfl
theorem w_mY_signs (x : Mv) (g : Nat → Int32) : M_signs (mY x g) = M_signs x := rfl
theorem w_mY_signMany (x : Mv) (g : Nat → Int32) : M_signMany (mY x g) = M_signMany x := rfl
theorem w_mY_lastOver (x : Mv) (g : Nat → Int32) : M_lastOver (mY x g) = M_lastOver x := rfl
theorem w_mY_at (x : Mv) (g : Nat → Int32) : M_at (mY x g) = M_at x := rfl
theorem w_mY_told (x : Mv) (g : Nat → Int32) : M_told (mY x g) = M_told x := rfl
theorem w_mY_toldMany (x : Mv) (g : Nat → Int32) : M_toldMany (mY x g) = M_toldMany x := rfl
def mZ (x : Mv) (dt u : Int32) : Mv := mkM (M_g x) (M_kept x) (M_saved x) (M_before x) (M_trial x) (M_counted x) (M_isSaved x) (M_changes x) (M_isWithin x) (1) (2) (8) (dt) (u) (M_input x) (M_length x) (M_fault x) (M_signs x) (M_signMany x) (M_lastOver x) (M_at x) (M_told x) (M_toldMany x)
theorem w_mZ_g (x : Mv) (dt u : Int32) : M_g (mZ x dt u) = M_g x := rfl
theorem w_mZ_kept (x : Mv) (dt u : Int32) : M_kept (mZ x dt u) = M_kept x := rfl
theorem w_mZ_saved (x : Mv) (dt u : Int32) : M_saved (mZ x dt u) = M_saved x := rfl
theorem w_mZ_before (x : Mv) (dt u : Int32) : M_before (mZ x dt u) = M_before x := rfl
theorem w_mZ_trial (x : Mv) (dt u : Int32) : M_trial (mZ x dt u) = M_trial x := rfl
theorem w_mZ_counted (x : Mv) (dt u : Int32) : M_counted (mZ x dt u) = M_counted x := rfl
theorem w_mZ_isSaved (x : Mv) (dt u : Int32) : M_isSaved (mZ x dt u) = M_isSaved x := rfl
theorem w_mZ_changes (x : Mv) (dt u : Int32) : M_changes (mZ x dt u) = M_changes x := rfl
theorem w_mZ_isWithin (x : Mv) (dt u : Int32) : M_isWithin (mZ x dt u) = M_isWithin x := rfl
theorem w_mZ_isDenied (x : Mv) (dt u : Int32) : M_isDenied (mZ x dt u) = 1 := rfl
theorem w_mZ_code (x : Mv) (dt u : Int32) : M_code (mZ x dt u) = 2 := rfl
theorem w_mZ_why (x : Mv) (dt u : Int32) : M_why (mZ x dt u) = 8 := rfl
theorem w_mZ_detail (x : Mv) (dt u : Int32) : M_detail (mZ x dt u) = dt := rfl
theorem w_mZ_cause (x : Mv) (dt u : Int32) : M_cause (mZ x dt u) = u := rfl
theorem w_mZ_input (x : Mv) (dt u : Int32) : M_input (mZ x dt u) = M_input x := rfl
theorem w_mZ_length (x : Mv) (dt u : Int32) : M_length (mZ x dt u) = M_length x := rfl
theorem w_mZ_fault (x : Mv) (dt u : Int32) : M_fault (mZ x dt u) = M_fault x := rfl
theorem w_mZ_signs (x : Mv) (dt u : Int32) : M_signs (mZ x dt u) = M_signs x := rfl
theorem w_mZ_signMany (x : Mv) (dt u : Int32) : M_signMany (mZ x dt u) = M_signMany x := rfl
theorem w_mZ_lastOver (x : Mv) (dt u : Int32) : M_lastOver (mZ x dt u) = M_lastOver x := rfl
theorem w_mZ_at (x : Mv) (dt u : Int32) : M_at (mZ x dt u) = M_at x := rfl
theorem w_mZ_told (x : Mv) (dt u : Int32) : M_told (mZ x dt u) = M_told x := rfl
theorem w_mZ_toldMany (x : Mv) (dt u : Int32) : M_toldMany (mZ x dt u) = M_toldMany x := rfl
theorem text_den0 (Y : Mv) (i : Int32) (hd : M_isDenied Y = 0) : F_X5_deniesText Y i = some (0, mZ Y i 9) := by
  unfold F_X5_deniesText
  refine gp hd (gb (denies_e _ _ _ _) ?_)
  unfold mZ
  simp only [w_mDn_g, w_mDn_kept, w_mDn_saved, w_mDn_before, w_mDn_trial, w_mDn_counted, w_mDn_isSaved, w_mDn_changes, w_mDn_isWithin, w_mDn_isDenied, w_mDn_code, w_mDn_why, w_mDn_detail, w_mDn_cause, w_mDn_input, w_mDn_length, w_mDn_fault, w_mDn_signs, w_mDn_signMany, w_mDn_lastOver, w_mDn_at, w_mDn_told, w_mDn_toldMany]
theorem text_den1 (Y : Mv) (i : Int32) (hd : ¬ M_isDenied Y = 0) : F_X5_deniesText Y i = some (0, mZ Y i (M_why Y)) := by
  unfold F_X5_deniesText
  refine gn hd (gb (denies_e _ _ _ _) ?_)
  unfold mZ
  simp only [w_mDn_g, w_mDn_kept, w_mDn_saved, w_mDn_before, w_mDn_trial, w_mDn_counted, w_mDn_isSaved, w_mDn_changes, w_mDn_isWithin, w_mDn_isDenied, w_mDn_code, w_mDn_why, w_mDn_detail, w_mDn_cause, w_mDn_input, w_mDn_length, w_mDn_fault, w_mDn_signs, w_mDn_signMany, w_mDn_lastOver, w_mDn_at, w_mDn_told, w_mDn_toldMany]
theorem op_execute (hR : Rel H x b t sn h tx ln mo) (hH : H + 800 ≤ 900000) (j : Jv) : ∃ z zm, F_X4_execute x b t h j tx = some z ∧ F_X5_execute mo = some zm ∧
    Sum.elim (fun y => M_code zm.2 = 0 ∧ y.1 = zm.1 ∧ Rel (H + 800) y.2.1 y.2.2.1 y.2.2.2.1 sn y.2.2.2.2.1 y.2.2.2.2.2.2 ln zm.2) (fun y => cd ["java/lang/IllegalArgumentException", "java/lang/UnsupportedOperationException"] 1 y.1 = some (M_code zm.2) ∧ ¬ M_code zm.2 = 0 ∧ Rel (H + 800) y.2.1 y.2.2.1 y.2.2.2.1 sn y.2.2.2.2.1 y.2.2.2.2.2.2 ln zm.2) z := by
  have hRu := hR.up (H1 := H + 800) (by omega) hH
  obtain ⟨⟨S, rfl, hI, hg⟩, ⟨T0, rfl⟩, a3, a4, ⟨ch, hch, hHR⟩, hw, a7, ⟨hf1, hf2⟩, ⟨l, hl, t1, t2, t3⟩, a10⟩ := id hR
  have hn := hI.1.1
  have hv := hI.1.2.1
  have hc : ∀ i, i < l → T_signs tx i = nI ((fun i => (T_signs tx i).toNatClampNeg) i) ∧ (fun i => (T_signs tx i).toNatClampNeg) i < 65536 := by
    intro i hi
    obtain ⟨w, w1, w2, w3⟩ := t3 i hi
    show T_signs tx i = nI (T_signs tx i).toNatClampNeg ∧ (T_signs tx i).toNatClampNeg < 65536
    rw [w2, nI_clamp (by omega)]
    exact ⟨rfl, w1⟩
  have hin : M_length mo = nI l ∧ ∀ i, i < l → M_input mo i = nI ((fun i => (T_signs tx i).toNatClampNeg) i) := by
    refine ⟨t2, fun i hi => ?_⟩
    obtain ⟨w, w1, w2, w3⟩ := t3 i hi
    show M_input mo i = nI (T_signs tx i).toNatClampNeg
    rw [w2, nI_clamp (by omega)]
    exact w3
  obtain ⟨ok, p', m, kd, ft, sd, td, q1, q2, q3, q4⟩ := text_c (mo := mo) ⟨t1, hc⟩ hin hl
  have hcp : ∀ (f2 g2 : Nat → Int32), F_X5_copies 83 83 f2 g2 0 0 = some (va_cpy f2 g2 0 0 83) := fun f2 g2 => m_copies (n1 := 83) (n2 := 83) (a := 0) (c := 0) (by omega) (by omega) (by omega) (by omega) f2 g2
  cases ok with
  | false =>
    have eT : ∀ a : Int32, mkM (M_g (mP mo (nI p') td (nI m))) (M_kept (mP mo (nI p') td (nI m))) (M_saved (mP mo (nI p') td (nI m))) (M_before (mP mo (nI p') td (nI m))) (M_trial (mP mo (nI p') td (nI m))) (M_counted (mP mo (nI p') td (nI m))) (M_isSaved (mP mo (nI p') td (nI m))) (M_changes (mP mo (nI p') td (nI m))) (M_isWithin (mP mo (nI p') td (nI m))) (M_isDenied (mP mo (nI p') td (nI m))) (M_code (mP mo (nI p') td (nI m))) (M_why (mP mo (nI p') td (nI m))) (M_detail (mP mo (nI p') td (nI m))) (M_cause (mP mo (nI p') td (nI m))) (M_input (mP mo (nI p') td (nI m))) 0 a (M_signs (mP mo (nI p') td (nI m))) (M_signMany (mP mo (nI p') td (nI m))) (M_lastOver (mP mo (nI p') td (nI m))) (M_at (mP mo (nI p') td (nI m))) (M_told (mP mo (nI p') td (nI m))) (M_toldMany (mP mo (nI p') td (nI m))) = mT0 mo (nI p') td (nI m) a := by
      intro a
      unfold mT0
      simp only [w_mP_g, w_mP_kept, w_mP_saved, w_mP_before, w_mP_trial, w_mP_counted, w_mP_isSaved, w_mP_changes, w_mP_isWithin, w_mP_isDenied, w_mP_code, w_mP_why, w_mP_detail, w_mP_cause, w_mP_input, w_mP_length, w_mP_fault, w_mP_signs, w_mP_signMany, w_mP_lastOver, w_mP_at, w_mP_told, w_mP_toldMany]
    refine ⟨.inr ("java/lang/IllegalArgumentException", mkX (X_snapshotSaved x) (nI p') (X_deniedNumber x) (X_deniedDetail x) (X_deniedCause x), toB S, toB T0, h, j, tT (T_signs tx) 0 p' kd ft sd m), (0, mF (mT0 mo (nI p') td (nI m) (nI p')) 1), ?_, ?_, ⟨?_, ?_, ?_⟩⟩
    · unfold F_X4_execute
      refine gb q1 (gn (fun z => z rfl) ?_)
      unfold tT
      simp only [T_position_mk, T_signs_mk, T_kinds_mk, T_firsts_mk, T_seconds_mk, T_commands_mk]
      rfl
    · unfold F_X5_execute
      refine gb q2 (gn (fun z => z rfl) (gp rfl ?_))
      simp only [eT]
      rw [w_mP_at]
      exact gb (fails_1 _) (gn bt1 rfl)
    · rw [w_mF_code]; exact (show cd ["java/lang/IllegalArgumentException", "java/lang/UnsupportedOperationException"] 1 "java/lang/IllegalArgumentException" = some 1 by decide)
    · rw [w_mF_code]; decide
    · unfold Rel TXR LNR at hRu ⊢
      unfold tT
      simp only [w_mF_g, w_mF_kept, w_mF_saved, w_mF_before, w_mF_trial, w_mF_counted, w_mF_isSaved, w_mF_changes, w_mF_isWithin, w_mF_isDenied, w_mF_code, w_mF_why, w_mF_detail, w_mF_cause, w_mF_input, w_mF_length, w_mF_fault, w_mF_signs, w_mF_signMany, w_mF_lastOver, w_mF_at, w_mF_told, w_mF_toldMany, w_mT0_g, w_mT0_kept, w_mT0_saved, w_mT0_before, w_mT0_trial, w_mT0_counted, w_mT0_isSaved, w_mT0_changes, w_mT0_isWithin, w_mT0_isDenied, w_mT0_code, w_mT0_why, w_mT0_detail, w_mT0_cause, w_mT0_input, w_mT0_length, w_mT0_fault, w_mT0_signs, w_mT0_signMany, w_mT0_lastOver, w_mT0_at, w_mT0_told, w_mT0_toldMany, X_snapshotSaved_mk, X_faultKept_mk, X_deniedNumber_mk, X_deniedDetail_mk, X_deniedCause_mk, T_length_mk, T_signs_mk]
      obtain ⟨b1, b2, b3, b4, b5, b6, b7, b8, b9, b10⟩ := hRu
      refine ⟨b1, b2, b3, b4, b5, b6, b7, ⟨?_, Or.inr ⟨p', by omega, ?_⟩⟩, ⟨0, Nat.zero_le _, rfl, rfl, fun i hi => absurd hi (Nat.not_lt_zero _)⟩, b10⟩
      all_goals first | rfl | trivial
  | true =>
    obtain ⟨hm, hK⟩ := q4 rfl
    have hbf : RG (va_cpy (M_g mo) (M_before mo) 0 0 83) S := RG_ext hn hv hg (fun t ht => by rw [pk_cpy_in (by omega) (by omega)]; exact congrArg (M_g mo) (by omega))
    have hIc := Iv_cp T0 hI
    have hgc : RG (M_g mo) (cpS T0 S) := RG_cp T0 hg hn hv
    have main := exe_L (E := mB mo (nI p') td (nI m) (va_cpy (M_g mo) (M_before mo) 0 0 83)) (m := m) (td := td) (x := x) (b := toB S) (h := h) (p' := p') (kd := kd) (ft := ft) (sd := sd) (sg := T_signs tx) (by rw [w_mB_isWithin]; decide) (w_mB_told _ _ _ _ _) (w_mB_toldMany _ _ _ _ _) hm hK
      (fun b6 b7 b8 b9 b10 b11 x12 => (F_X1_keep b9 b7).bind (fun z13 => (F_X0_copyFrom b7 b8).bind (fun z14 => some (.inl (T_commands b11, b6, z14, b8, z13, b10, b11)))))
      (fun b5 x6 x7 => if (M_code b5) ≤ 0 then (F_X5_keeps_b (m_isWithin b5 0)).bind (fun z8 => some (M_toldMany z8, z8)) else (F_X5_copies 83 83 (M_before b5) (M_g b5) 0 0).bind (fun z9 => (F_X5_deniesText (mY b5 z9) x6).bind (fun z10 => if x7 ≤ 0 then some (z10.1 + x7, z10.2) else some (z10.1 + 0, z10.2))))
      m 1000 1000 0 H (cpS T0 S) (M_g mo) (M_counted mo) (M_lastOver mo) 0 0 j hIc (by omega) hgc (by omega) (by omega) (by omega)
    have eC : ∀ z, F_X4_execute_L54 (fun b6 b7 b8 b9 b10 b11 x12 => (F_X1_keep b9 b7).bind (fun z13 => (F_X0_copyFrom b7 b8).bind (fun z14 => some (.inl (T_commands b11, b6, z14, b8, z13, b10, b11))))) 1000 x (toB S) (toB (cpS T0 S)) h j (tT (T_signs tx) 0 p' kd ft sd m) (nI 0) = z → F_X4_execute x (toB S) (toB T0) h j tx = z := by
      intro z hz
      unfold F_X4_execute
      refine gb q1 (gp bt1 (gb (c_copy T0 S) ?_))
      exact hz
    have eS : mE (mB mo (nI p') td (nI m) (va_cpy (M_g mo) (M_before mo) 0 0 83)) (M_g mo) (M_lastOver mo) (M_counted mo) 0 = mkM (M_g mo) (M_kept mo) (M_saved mo) (va_cpy (M_g mo) (M_before mo) 0 0 83) (M_trial mo) (M_counted mo) (M_isSaved mo) (M_changes mo) 1 0 0 (M_why mo) (M_detail mo) (M_cause mo) (M_input mo) 0 (M_fault mo) (M_signs mo) (M_signMany mo) (M_lastOver mo) (nI p') td (nI m) := by
      unfold mE
      simp only [w_mB_g, w_mB_kept, w_mB_saved, w_mB_before, w_mB_trial, w_mB_counted, w_mB_isSaved, w_mB_changes, w_mB_isWithin, w_mB_isDenied, w_mB_code, w_mB_why, w_mB_detail, w_mB_cause, w_mB_input, w_mB_length, w_mB_fault, w_mB_signs, w_mB_signMany, w_mB_lastOver, w_mB_at, w_mB_told, w_mB_toldMany]
    have eK : (fun (b13 : Mv) (x14 x15 : Int32) => if (M_code b13) ≤ 0 then (F_X5_keeps_b (mkM (M_g b13) (M_kept b13) (M_saved b13) (M_before b13) (M_trial b13) (M_counted b13) (M_isSaved b13) (M_changes b13) 0 (M_isDenied b13) (M_code b13) (M_why b13) (M_detail b13) (M_cause b13) (M_input b13) (M_length b13) (M_fault b13) (M_signs b13) (M_signMany b13) (M_lastOver b13) (M_at b13) (M_told b13) (M_toldMany b13))).bind (fun z16 => some (M_toldMany z16, z16)) else (F_X5_copies 83 83 (M_before b13) (M_g b13) 0 0).bind (fun z17 => (F_X5_deniesText (mkM z17 (M_kept b13) (M_saved b13) (M_before b13) (M_trial b13) (M_counted b13) (M_isSaved b13) (M_changes b13) 0 (M_isDenied b13) (M_code b13) (M_why b13) (M_detail b13) (M_cause b13) (M_input b13) (M_length b13) (M_fault b13) (M_signs b13) (M_signMany b13) (M_lastOver b13) (M_at b13) (M_told b13) (M_toldMany b13)) x14).bind (fun z18 => if x15 ≤ 0 then some (z18.1 + x15, z18.2) else some (z18.1 + 0, z18.2)))) = (fun b5 x6 x7 => if (M_code b5) ≤ 0 then (F_X5_keeps_b (m_isWithin b5 0)).bind (fun z8 => some (M_toldMany z8, z8)) else (F_X5_copies 83 83 (M_before b5) (M_g b5) 0 0).bind (fun z9 => (F_X5_deniesText (mY b5 z9) x6).bind (fun z10 => if x7 ≤ 0 then some (z10.1 + x7, z10.2) else some (z10.1 + 0, z10.2)))) := rfl
    have eM : ∀ z, F_X5_execute_L62 (fun b5 x6 x7 => if (M_code b5) ≤ 0 then (F_X5_keeps_b (m_isWithin b5 0)).bind (fun z8 => some (M_toldMany z8, z8)) else (F_X5_copies 83 83 (M_before b5) (M_g b5) 0 0).bind (fun z9 => (F_X5_deniesText (mY b5 z9) x6).bind (fun z10 => if x7 ≤ 0 then some (z10.1 + x7, z10.2) else some (z10.1 + 0, z10.2)))) 1000 (mE (mB mo (nI p') td (nI m) (va_cpy (M_g mo) (M_before mo) 0 0 83)) (M_g mo) (M_lastOver mo) (M_counted mo) 0) (nI 0) 0 = z → F_X5_execute mo = z := by
      intro z hz
      unfold F_X5_execute
      refine gb q2 (gp bt1 (gn bt1 (gb (fails_0 _) (gp rfl ?_))))
      simp only [w_mF_g, w_mF_kept, w_mF_saved, w_mF_before, w_mF_trial, w_mF_counted, w_mF_isSaved, w_mF_changes, w_mF_isWithin, w_mF_isDenied, w_mF_code, w_mF_why, w_mF_detail, w_mF_cause, w_mF_input, w_mF_length, w_mF_fault, w_mF_signs, w_mF_signMany, w_mF_lastOver, w_mF_at, w_mF_told, w_mF_toldMany, w_mP_g, w_mP_kept, w_mP_saved, w_mP_before, w_mP_trial, w_mP_counted, w_mP_isSaved, w_mP_changes, w_mP_isWithin, w_mP_isDenied, w_mP_code, w_mP_why, w_mP_detail, w_mP_cause, w_mP_input, w_mP_length, w_mP_fault, w_mP_signs, w_mP_signMany, w_mP_lastOver, w_mP_at, w_mP_told, w_mP_toldMany, M_g_mk, M_kept_mk, M_saved_mk, M_before_mk, M_trial_mk, M_counted_mk, M_isSaved_mk, M_changes_mk, M_isWithin_mk, M_isDenied_mk, M_code_mk, M_why_mk, M_detail_mk, M_cause_mk, M_input_mk, M_length_mk, M_fault_mk, M_signs_mk, M_signMany_mk, M_lastOver_mk, M_at_mk, M_told_mk, M_toldMany_mk]
      refine gb (hcp _ _) ?_
      rw [eS, ← eK] at hz
      exact hz
    have hbM : ∀ (g2 : Nat → Int32), RG (va_cpy (va_cpy (M_g mo) (M_before mo) 0 0 83) g2 0 0 83) S := fun g2 => RG_ext hn hv hbf (fun t ht => by rw [pk_cpy_in (by omega) (by omega)]; exact congrArg _ (by omega))
    rcases main with ⟨S', g', lo', ct', d', j', v, w1, w2, w3, w4⟩ | ⟨i', S', j', u, g', lo', ct', d', w0, w1, w2⟩
    · obtain ⟨nw, -, hc8, -⟩ := id hHR
      obtain ⟨h', hk, hHR'⟩ := HR_push (g := va_cpy (M_g mo) (M_before mo) 0 0 83) hHR hI hbf
      have hkp := m_keepsb (mo := m_isWithin (mE (mB mo (nI p') td (nI m) (va_cpy (M_g mo) (M_before mo) 0 0 83)) g' lo' ct' d') 0) (c := ch) hc8 (by rw [r_changes_isWithin, w_mE_changes, w_mB_changes]; exact hch) (by rw [r_isWithin_isWithin])
      rw [r_before_isWithin, r_kept_isWithin, w_mE_before, w_mE_kept, w_mB_before, w_mB_kept] at hkp
      refine ⟨.inl (nI m, x, toB (cpS S S'), toB S', h', j', tT (T_signs tx) 0 p' kd ft sd m), _, eC _ (w1.trans ?_), eM _ (w2.trans (gp (by rw [w_mE_code]; decide) (gb hkp rfl))), ⟨?_, ?_, ?_⟩⟩
      · exact gb hk (gb (c_copy S S') rfl)
      · rw [w_mKp_code]
      · show nI m = M_toldMany _
        rw [w_mKp_toldMany, r_toldMany_isWithin, w_mE_toldMany, w_mB_toldMany]
      · unfold Rel TXR LNR at hRu ⊢
        unfold tT
        simp only [w_mKp_g, w_mKp_kept, w_mKp_saved, w_mKp_before, w_mKp_trial, w_mKp_counted, w_mKp_isSaved, w_mKp_changes, w_mKp_isWithin, w_mKp_isDenied, w_mKp_code, w_mKp_why, w_mKp_detail, w_mKp_cause, w_mKp_input, w_mKp_length, w_mKp_fault, w_mKp_signs, w_mKp_signMany, w_mKp_lastOver, w_mKp_at, w_mKp_told, w_mKp_toldMany, w_mE_g, w_mE_kept, w_mE_saved, w_mE_before, w_mE_trial, w_mE_counted, w_mE_isSaved, w_mE_changes, w_mE_isWithin, w_mE_isDenied, w_mE_code, w_mE_why, w_mE_detail, w_mE_cause, w_mE_input, w_mE_length, w_mE_fault, w_mE_signs, w_mE_signMany, w_mE_lastOver, w_mE_at, w_mE_told, w_mE_toldMany, w_mB_g, w_mB_kept, w_mB_saved, w_mB_before, w_mB_trial, w_mB_counted, w_mB_isSaved, w_mB_changes, w_mB_isWithin, w_mB_isDenied, w_mB_code, w_mB_why, w_mB_detail, w_mB_cause, w_mB_input, w_mB_length, w_mB_fault, w_mB_signs, w_mB_signMany, w_mB_lastOver, w_mB_at, w_mB_told, w_mB_toldMany, r_g_isWithin, r_kept_isWithin, r_saved_isWithin, r_before_isWithin, r_trial_isWithin, r_counted_isWithin, r_isSaved_isWithin, r_changes_isWithin, r_isWithin_isWithin, r_isDenied_isWithin, r_code_isWithin, r_why_isWithin, r_detail_isWithin, r_cause_isWithin, r_input_isWithin, r_length_isWithin, r_fault_isWithin, r_signs_isWithin, r_signMany_isWithin, r_lastOver_isWithin, r_at_isWithin, r_told_isWithin, r_toldMany_isWithin, T_length_mk, T_signs_mk]
        obtain ⟨b1, b2, b3, b4, b5, b6, b7, b8, b9, b10⟩ := hRu
        have hn' := w3.1.1
        have hv' := w3.1.2.1
        exact ⟨⟨cpS S S', rfl, Iv_cp S (w3.mono (by omega) hH), RG_cp S w4 hn' hv'⟩, ⟨S', rfl⟩, b3, b4, ⟨pushC ch, rfl, hHR'.mono (by omega) hH⟩, trivial, b7, b8, ⟨0, Nat.zero_le _, rfl, rfl, fun i hi => absurd hi (Nat.not_lt_zero _)⟩, b10⟩
    · have fin : ∀ (m9 : Mv), M_before m9 = va_cpy (M_g mo) (M_before mo) 0 0 83 → ¬ M_code m9 ≤ 0 → F_X5_deniesText (mY m9 (va_cpy (va_cpy (M_g mo) (M_before mo) 0 0 83) (M_g m9) 0 0 83)) (nI i') = some (0, mZ (mY m9 (va_cpy (va_cpy (M_g mo) (M_before mo) 0 0 83) (M_g m9) 0 0 83)) (nI i') u) → (fun (b5 : Mv) (x6 x7 : Int32) => if (M_code b5) ≤ 0 then (F_X5_keeps_b (m_isWithin b5 0)).bind (fun z8 => some (M_toldMany z8, z8)) else (F_X5_copies 83 83 (M_before b5) (M_g b5) 0 0).bind (fun z9 => (F_X5_deniesText (mY b5 z9) x6).bind (fun z10 => if x7 ≤ 0 then some (z10.1 + x7, z10.2) else some (z10.1 + 0, z10.2)))) m9 (nI i') 0 = some (0, mZ (mY m9 (va_cpy (va_cpy (M_g mo) (M_before mo) 0 0 83) (M_g m9) 0 0 83)) (nI i') u) := by
        intro m9 h1 h2 h3
        refine gn h2 (gb (by rw [h1]; exact hcp _ _) (gb h3 (gp (by decide) ?_)))
        rfl
      rcases w2 with ⟨e, y1, y2, y3⟩ | ⟨e, dt, y1, y3⟩
      · subst y2
        refine ⟨_, _, eC _ w1, eM _ (y3.trans (fin _ (by rw [w_mF_before, w_mE_before, w_mB_before]) (by rw [w_mF_code]; exact y1) (text_den0 _ _ (by rw [w_mY_isDenied, w_mF_isDenied])))), ⟨?_, ?_, ?_⟩⟩
        · rw [w_mZ_code]; exact (show cd ["java/lang/IllegalArgumentException", "java/lang/UnsupportedOperationException"] 1 "java/lang/UnsupportedOperationException" = some 2 by decide)
        · rw [w_mZ_code]; decide
        · unfold Rel TXR LNR at hRu ⊢
          unfold tT
          simp only [w_mZ_g, w_mZ_kept, w_mZ_saved, w_mZ_before, w_mZ_trial, w_mZ_counted, w_mZ_isSaved, w_mZ_changes, w_mZ_isWithin, w_mZ_isDenied, w_mZ_code, w_mZ_why, w_mZ_detail, w_mZ_cause, w_mZ_input, w_mZ_length, w_mZ_fault, w_mZ_signs, w_mZ_signMany, w_mZ_lastOver, w_mZ_at, w_mZ_told, w_mZ_toldMany, w_mY_g, w_mY_kept, w_mY_saved, w_mY_before, w_mY_trial, w_mY_counted, w_mY_isSaved, w_mY_changes, w_mY_isWithin, w_mY_isDenied, w_mY_code, w_mY_why, w_mY_detail, w_mY_cause, w_mY_input, w_mY_length, w_mY_fault, w_mY_signs, w_mY_signMany, w_mY_lastOver, w_mY_at, w_mY_told, w_mY_toldMany, w_mF_g, w_mF_kept, w_mF_saved, w_mF_before, w_mF_trial, w_mF_counted, w_mF_isSaved, w_mF_changes, w_mF_isWithin, w_mF_isDenied, w_mF_code, w_mF_why, w_mF_detail, w_mF_cause, w_mF_input, w_mF_length, w_mF_fault, w_mF_signs, w_mF_signMany, w_mF_lastOver, w_mF_at, w_mF_told, w_mF_toldMany, w_mE_g, w_mE_kept, w_mE_saved, w_mE_before, w_mE_trial, w_mE_counted, w_mE_isSaved, w_mE_changes, w_mE_isWithin, w_mE_isDenied, w_mE_code, w_mE_why, w_mE_detail, w_mE_cause, w_mE_input, w_mE_length, w_mE_fault, w_mE_signs, w_mE_signMany, w_mE_lastOver, w_mE_at, w_mE_told, w_mE_toldMany, w_mB_g, w_mB_kept, w_mB_saved, w_mB_before, w_mB_trial, w_mB_counted, w_mB_isSaved, w_mB_changes, w_mB_isWithin, w_mB_isDenied, w_mB_code, w_mB_why, w_mB_detail, w_mB_cause, w_mB_input, w_mB_length, w_mB_fault, w_mB_signs, w_mB_signMany, w_mB_lastOver, w_mB_at, w_mB_told, w_mB_toldMany, T_length_mk, T_signs_mk]
          obtain ⟨b1, b2, b3, b4, b5, b6, b7, b8, b9, b10⟩ := hRu
          exact ⟨⟨S, rfl, hI.mono (by omega) hH, hbM _⟩, ⟨S', rfl⟩, b3, b4, b5, trivial, ⟨rfl, rfl, rfl⟩, b8, ⟨0, Nat.zero_le _, rfl, rfl, fun i hi => absurd hi (Nat.not_lt_zero _)⟩, b10⟩
      · have hwy : M_why (mY (mDn (mE (mB mo (nI p') td (nI m) (va_cpy (M_g mo) (M_before mo) 0 0 83)) g' lo' ct' d') e u dt) (va_cpy (va_cpy (M_g mo) (M_before mo) 0 0 83) (M_g (mDn (mE (mB mo (nI p') td (nI m) (va_cpy (M_g mo) (M_before mo) 0 0 83)) g' lo' ct' d') e u dt)) 0 0 83)) = u := by rw [w_mY_why, w_mDn_why]
        have hden := text_den1 (mY (mDn (mE (mB mo (nI p') td (nI m) (va_cpy (M_g mo) (M_before mo) 0 0 83)) g' lo' ct' d') e u dt) (va_cpy (va_cpy (M_g mo) (M_before mo) 0 0 83) (M_g (mDn (mE (mB mo (nI p') td (nI m) (va_cpy (M_g mo) (M_before mo) 0 0 83)) g' lo' ct' d') e u dt)) 0 0 83)) (nI i') (by rw [w_mY_isDenied, w_mDn_isDenied]; decide)
        rw [hwy] at hden
        refine ⟨_, _, eC _ w1, eM _ (y3.trans (fin _ (by rw [w_mDn_before, w_mE_before, w_mB_before]) (by rw [w_mDn_code]; exact y1) hden)), ⟨?_, ?_, ?_⟩⟩
        · rw [w_mZ_code]; exact (show cd ["java/lang/IllegalArgumentException", "java/lang/UnsupportedOperationException"] 1 "java/lang/UnsupportedOperationException" = some 2 by decide)
        · rw [w_mZ_code]; decide
        · unfold Rel TXR LNR at hRu ⊢
          unfold tT
          simp only [w_mZ_g, w_mZ_kept, w_mZ_saved, w_mZ_before, w_mZ_trial, w_mZ_counted, w_mZ_isSaved, w_mZ_changes, w_mZ_isWithin, w_mZ_isDenied, w_mZ_code, w_mZ_why, w_mZ_detail, w_mZ_cause, w_mZ_input, w_mZ_length, w_mZ_fault, w_mZ_signs, w_mZ_signMany, w_mZ_lastOver, w_mZ_at, w_mZ_told, w_mZ_toldMany, w_mY_g, w_mY_kept, w_mY_saved, w_mY_before, w_mY_trial, w_mY_counted, w_mY_isSaved, w_mY_changes, w_mY_isWithin, w_mY_isDenied, w_mY_code, w_mY_why, w_mY_detail, w_mY_cause, w_mY_input, w_mY_length, w_mY_fault, w_mY_signs, w_mY_signMany, w_mY_lastOver, w_mY_at, w_mY_told, w_mY_toldMany, w_mDn_g, w_mDn_kept, w_mDn_saved, w_mDn_before, w_mDn_trial, w_mDn_counted, w_mDn_isSaved, w_mDn_changes, w_mDn_isWithin, w_mDn_isDenied, w_mDn_code, w_mDn_why, w_mDn_detail, w_mDn_cause, w_mDn_input, w_mDn_length, w_mDn_fault, w_mDn_signs, w_mDn_signMany, w_mDn_lastOver, w_mDn_at, w_mDn_told, w_mDn_toldMany, w_mE_g, w_mE_kept, w_mE_saved, w_mE_before, w_mE_trial, w_mE_counted, w_mE_isSaved, w_mE_changes, w_mE_isWithin, w_mE_isDenied, w_mE_code, w_mE_why, w_mE_detail, w_mE_cause, w_mE_input, w_mE_length, w_mE_fault, w_mE_signs, w_mE_signMany, w_mE_lastOver, w_mE_at, w_mE_told, w_mE_toldMany, w_mB_g, w_mB_kept, w_mB_saved, w_mB_before, w_mB_trial, w_mB_counted, w_mB_isSaved, w_mB_changes, w_mB_isWithin, w_mB_isDenied, w_mB_code, w_mB_why, w_mB_detail, w_mB_cause, w_mB_input, w_mB_length, w_mB_fault, w_mB_signs, w_mB_signMany, w_mB_lastOver, w_mB_at, w_mB_told, w_mB_toldMany, T_length_mk, T_signs_mk]
          obtain ⟨b1, b2, b3, b4, b5, b6, b7, b8, b9, b10⟩ := hRu
          exact ⟨⟨S, rfl, hI.mono (by omega) hH, hbM _⟩, ⟨S', rfl⟩, b3, b4, b5, trivial, ⟨rfl, rfl, rfl⟩, b8, ⟨0, Nat.zero_le _, rfl, rfl, fun i hi => absurd hi (Nat.not_lt_zero _)⟩, b10⟩
end EXEC2
