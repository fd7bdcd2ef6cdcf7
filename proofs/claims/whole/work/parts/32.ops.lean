section OPS4
variable {H : Nat} {x : Xv} {b t sn : Bv} {h : Hv} {tx : Tv} {ln : Nv} {mo : Mv}
theorem nn64_of {a : UInt64} (h : FP.Core.dIsNaN a = false) : nn64 a = true := by
  refine decide_eq_true (UInt64.le_iff_toNat_le.mpr ?_)
  rw [FP.Core.mask_toNat]
  exact (FP.Core.ne_nan a).mp ((FP.Core.notNaN_iff a).mp h)
theorem nn32_of {a : UInt32} (h : FP.Core.fIsNaN a = false) : nn32 a = true := by
  refine decide_eq_true (UInt32.le_iff_toNat_le.mpr ?_)
  rw [FP.Core.mask_toNat32]
  exact (FP.Core.ne_nan32 a).mp ((FP.Core.notNaN_iff32 a).mp h)
theorem mean_nn (a : Int32) {c : Int32} (hc : c ≠ 0) : nn64 (FP.ddiv (FP.i2d a) (FP.i2d c)) = true := by
  refine nn64_of (FP.Core.ddiv_out (FP.Core.DFin.notNaN (FP.Core.i2d_fin a)) (FP.Core.i2d_fin c) ?_)
  rw [FP.Core.zero_bits2]
  exact FP.Core.i2d_ne_zero hc
theorem share_nan (a : Int32) {c : Int32} (hc : c ≠ 0) : FP.Core.fIsNaN (FP.fdiv (FP.i2f a) (FP.i2f c)) = false := by
  refine FP.Core.fdiv_out (FP.Core.FFin.notNaN (FP.Core.i2f_fin a)) (FP.Core.i2f_fin c) ?_
  rw [FP.Core.zero_bits232]
  exact FP.Core.i2f_ne_zero hc
theorem share_nn (a : Int32) {c : Int32} (hc : c ≠ 0) : nn32 (FP.fdiv (FP.i2f a) (FP.i2f c)) = true := nn32_of (share_nan a hc)
theorem share_nn64 (a : Int32) {c : Int32} (hc : c ≠ 0) : nn64 (FP.f2d (FP.fdiv (FP.i2f a) (FP.i2f c))) = true := by
  refine nn64_of ?_
  have h1 := FP.f2d_nan (FP.fdiv (FP.i2f a) (FP.i2f c))
  exact h1.trans (share_nan a hc)
def R1d (exs : List String) (z : UInt64 ⊕ String) (zm : (UInt64 × Mv) ⊕ (String × Mv)) : Prop := Sum.elim (fun y => ∃ m2, zm = .inl (y, m2) ∧ M_code m2 = 0 ∧ nn64 y = true) (fun y => ∃ v m2, zm = .inl (v, m2) ∧ cd exs 1 y = some (M_code m2) ∧ ¬ M_code m2 = 0) z
theorem op_meanStrength (hR : Rel H x b t sn h tx ln mo) (hH : H + 800 ≤ 900000) : ∃ z v m2, F_X4_meanStrength x b = some z ∧ F_X5_meanStrength mo = some (.inl (v, m2)) ∧ Sum.elim (fun y => M_code m2 = 0 ∧ y = v ∧ nn64 y = true) (fun y => cd ["java/lang/ArithmeticException"] 1 y = some (M_code m2) ∧ ¬ M_code m2 = 0) z ∧ Rel (H + 800) x b t sn h tx ln m2 := by
  obtain ⟨⟨S, rfl, hI, hg⟩, -⟩ := id hR
  have hn := hI.1.1
  by_cases c0 : s_n S = 0
  · refine ⟨.inr "java/lang/ArithmeticException", FP.dconst0, mF mo 1, ?_, ?_, ⟨?_, ?_⟩, hR.F hH 1⟩
    · unfold F_X4_meanStrength
      exact gn (by rw [B_spans_to, c0]; exact fun z => z rfl) rfl
    · unfold F_X5_meanStrength
      exact gk ub_0 (gn (by rw [zc_0, hg.1.1, c0]; exact fun z => z rfl) (gb (fails_1 mo) (gn bt1 rfl)))
    · rw [w_mF_code]; decide
    · rw [w_mF_code]; decide
  · have e0 : ¬ nI (s_n S) = 0 := nI_ne0 (by omega) (by omega)
    have hnn := mean_nn (nI (sg (fun k => str S k) (s_n S))) (c := nI (s_n S)) e0
    refine ⟨.inl (FP.ddiv (FP.i2d (nI (sg (fun k => str S k) (s_n S)))) (FP.i2d (nI (s_n S)))), FP.ddiv (FP.i2d (nI (sg (fun k => str S k) (s_n S)))) (FP.i2d (nI (s_n S))), mF mo 0, ?_, ?_, ⟨w_mF_code _ _, rfl, hnn⟩, hR.F hH 0⟩
    · have key : ∀ (r fu i : Nat), i + r = s_n S → r < fu → F_X4_meanStrength_L24 x (toB S) (fun x2 x3 => ck (nn64 (FP.ddiv (FP.i2d x2) (FP.i2d (B_spans (toB S))))) (some (.inl (FP.ddiv (FP.i2d x2) (FP.i2d (B_spans (toB S))))))) fu (nI (sg (fun k => str S k) i)) (nI i) = some (.inl (FP.ddiv (FP.i2d (nI (sg (fun k => str S k) (s_n S)))) (FP.i2d (nI (s_n S))))) := by
        intro r
        induction r with
        | zero =>
          intro fu i hi hr
          obtain ⟨fu, rfl⟩ : ∃ f2, fu = f2 + 1 := ⟨fu - 1, by omega⟩
          have : i = s_n S := by omega
          subst this
          unfold F_X4_meanStrength_L24
          rw [B_spans_to, if_pos (nI_le (Nat.le_refl _) (by omega)), hnn, ck_tt]
        | succ r ih =>
          intro fu i hi hr
          obtain ⟨fu, rfl⟩ : ∃ f2, fu = f2 + 1 := ⟨fu - 1, by omega⟩
          unfold F_X4_meanStrength_L24
          refine gn (by rw [B_spans_to]; exact nI_ge (by omega) (by omega)) (gb (c_str hI (by omega)) ?_)
          rw [nI_add, add1]
          exact ih fu (i + 1) (by omega) (by omega)
      unfold F_X4_meanStrength
      exact gp (by rw [B_spans_to]; exact e0) (key (s_n S) 1000 0 (by omega) (by omega))
    · have key : ∀ (r fu i : Nat), i + r = s_n S → r < fu → F_X5_meanStrength_L27 (fun b3 x4 x5 => ck (inb 0 83) (ck (nn64 (FP.ddiv (FP.i2d x4) (FP.i2d ((M_g b3) (0 : Int32).toNatClampNeg)))) (some (.inl (FP.ddiv (FP.i2d x4) (FP.i2d ((M_g b3) (0 : Int32).toNatClampNeg)), b3))))) fu (mF mo 0) (nI (sg (fun k => str S k) i)) (nI i) = some (.inl (FP.ddiv (FP.i2d (nI (sg (fun k => str S k) (s_n S)))) (FP.i2d (nI (s_n S))), mF mo 0)) := by
        have hg2 : RG (M_g (mF mo 0)) S := by rw [w_mF_g]; exact hg
        intro r
        induction r with
        | zero =>
          intro fu i hi hr
          obtain ⟨fu, rfl⟩ : ∃ f2, fu = f2 + 1 := ⟨fu - 1, by omega⟩
          have : i = s_n S := by omega
          subst this
          unfold F_X5_meanStrength_L27
          refine gk ub_0 (gp (by rw [zc_0, hg2.1.1]; exact nI_le (Nat.le_refl _) (by omega)) (gk ub_0 ?_))
          rw [zc_0, hg2.1.1, hnn, ck_tt]
        | succ r ih =>
          intro fu i hi hr
          obtain ⟨fu, rfl⟩ : ∃ f2, fu = f2 + 1 := ⟨fu - 1, by omega⟩
          unfold F_X5_meanStrength_L27
          refine gk ub_0 (gn (by rw [zc_0, hg2.1.1]; exact nI_ge (by omega) (by omega)) (gb (m_strong hI hg2 (by omega)) ?_))
          rw [nI_add, add1]
          exact ih fu (i + 1) (by omega) (by omega)
      unfold F_X5_meanStrength
      exact gk ub_0 (gp (by rw [zc_0, hg.1.1]; exact e0) (gb (fails_0 mo) (gp rfl (key (s_n S) 1000 0 (by omega) (by omega)))))
theorem op_sunkShare (hR : Rel H x b t sn h tx ln mo) (hH : H + 800 ≤ 900000) : ∃ z v m2, F_X4_sunkShare x b = some z ∧ F_X5_sunkShare mo = some (.inl (v, m2)) ∧ Sum.elim (fun y => M_code m2 = 0 ∧ y = v ∧ nn64 (FP.f2d y) = true) (fun y => cd ["java/lang/ArithmeticException"] 1 y = some (M_code m2) ∧ ¬ M_code m2 = 0) z ∧ Rel (H + 800) x b t sn h tx ln m2 := by
  obtain ⟨⟨S, rfl, hI, hg⟩, -⟩ := id hR
  have h7 : M_g mo 7 = nI (s_cr S) := hg.1.2.2.2.2.2.2.2.1
  have h8 : M_g mo 8 = nI (s_sk S) := hg.1.2.2.2.2.2.2.2.2
  by_cases c0 : nI (s_sk S) + nI (s_cr S) = 0
  · refine ⟨.inr "java/lang/ArithmeticException", FP.fconst0, mF mo 1, ?_, ?_, ⟨?_, ?_⟩, hR.F hH 1⟩
    · unfold F_X4_sunkShare
      exact gn (by rw [B_sunk_to, B_crossed_to]; exact fun z => z c0) rfl
    · unfold F_X5_sunkShare
      exact gk ub_8 (gk ub_7 (gn (by rw [zc_8, zc_7, h8, h7]; exact fun z => z c0) (gb (fails_1 mo) (gn bt1 rfl))))
    · rw [w_mF_code]; decide
    · rw [w_mF_code]; decide
  · have hnn := share_nn (nI (s_sk S)) c0
    refine ⟨.inl (FP.fdiv (FP.i2f (nI (s_sk S))) (FP.i2f (nI (s_sk S) + nI (s_cr S)))), FP.fdiv (FP.i2f (nI (s_sk S))) (FP.i2f (nI (s_sk S) + nI (s_cr S))), mF mo 0, ?_, ?_, ⟨w_mF_code _ _, rfl, share_nn64 _ c0⟩, hR.F hH 0⟩
    · unfold F_X4_sunkShare
      refine gp (by rw [B_sunk_to, B_crossed_to]; exact c0) ?_
      rw [B_sunk_to, B_crossed_to, hnn, ck_tt]
    · unfold F_X5_sunkShare
      refine gk ub_8 (gk ub_7 (gp (by rw [zc_8, zc_7, h8, h7]; exact c0) (gb (fails_0 mo) (gp rfl (gk ub_8 (gk ub_8 (gk ub_7 ?_)))))))
      rw [zc_8, zc_7, w_mF_g, h8, h7, hnn, ck_tt]
/-! what was denied, where a text failed -/
theorem op_faultPosition (hR : Rel H x b t sn h tx ln mo) (hH : H + 800 ≤ 900000) : ∃ z zm, F_X4_faultPosition x = some z ∧ F_X5_faultPosition mo = some zm ∧ R1 ["java/util/NoSuchElementException"] z zm ∧ Rel (H + 800) x b t sn h tx ln zm.2 := by
  obtain ⟨-, -, -, -, -, -, -, ⟨hf, hf2⟩, -⟩ := id hR
  rcases hf2 with e | ⟨f, hf3, e⟩
  · refine ⟨.inr "java/util/NoSuchElementException", (0, mF mo 1), ?_, ?_, ⟨?_, ?_⟩, hR.F hH 1⟩
    · unfold F_X4_faultPosition
      exact gn (by rw [hf, e]; exact fun z => z rfl) rfl
    · unfold F_X5_faultPosition
      exact gn (by rw [e]; decide) (gb (fails_1 mo) (gn bt1 rfl))
    · rw [w_mF_code]; decide
    · rw [w_mF_code]; decide
  · refine ⟨.inl (nI f), (nI f, mF mo 0), ?_, ?_, ⟨w_mF_code _ _, rfl⟩, hR.F hH 0⟩
    · unfold F_X4_faultPosition
      rw [hf, e]
      exact gp (m1_ne (by omega)) rfl
    · unfold F_X5_faultPosition
      refine gp (by rw [e]; exact nI_pos' (by omega)) (gb (fails_0 mo) (gp rfl ?_))
      rw [w_mF_fault, e]
theorem op_denial (hR : Rel H x b t sn h tx ln mo) (hH : H + 800 ≤ 900000) : ∃ z zm, F_X4_denial x = some z ∧ F_X5_denial mo = some zm ∧ R1 ["java/util/NoSuchElementException"] z zm ∧ Rel (H + 800) x b t sn h tx ln zm.2 := by
  obtain ⟨-, -, -, -, -, -, ⟨h1, h2, h3⟩, -⟩ := id hR
  unfold F_X4_denial F_X4_requireDenial F_X5_denial
  rw [h1]
  by_cases c : M_why mo = 0
  · refine ⟨.inr "java/util/NoSuchElementException", (0, mF mo 1), ?_, ?_, ⟨?_, ?_⟩, hR.F hH 1⟩
    · rw [if_neg (fun z => z c)]; rfl
    · exact gn (fun z => z c) (gb (fails_1 mo) (gn bt1 rfl))
    · rw [w_mF_code]; decide
    · rw [w_mF_code]; decide
  · refine ⟨.inl (M_why mo), (M_why mo, mF mo 0), ?_, ?_, ⟨w_mF_code _ _, rfl⟩, hR.F hH 0⟩
    · rw [if_pos c]; rfl
    · exact gp c (gb (fails_0 mo) (gp rfl rfl))
theorem op_denialDetail (hR : Rel H x b t sn h tx ln mo) (hH : H + 800 ≤ 900000) : ∃ z zm, F_X4_denialDetail x = some z ∧ F_X5_denialDetail mo = some zm ∧ R1 ["java/util/NoSuchElementException"] z zm ∧ Rel (H + 800) x b t sn h tx ln zm.2 := by
  obtain ⟨-, -, -, -, -, -, ⟨h1, h2, h3⟩, -⟩ := id hR
  unfold F_X4_denialDetail F_X4_requireDenial F_X5_denialDetail
  rw [h1, h2]
  by_cases c : M_why mo = 0
  · refine ⟨.inr "java/util/NoSuchElementException", (0, mF mo 1), ?_, ?_, ⟨?_, ?_⟩, hR.F hH 1⟩
    · rw [if_neg (fun z => z c)]; rfl
    · exact gn (fun z => z c) (gb (fails_1 mo) (gn bt1 rfl))
    · rw [w_mF_code]; decide
    · rw [w_mF_code]; decide
  · refine ⟨.inl (M_detail mo), (M_detail mo, mF mo 0), ?_, ?_, ⟨w_mF_code _ _, rfl⟩, hR.F hH 0⟩
    · rw [if_pos c]; rfl
    · exact gp c (gb (fails_0 mo) (gp rfl rfl))
theorem op_denialCause (hR : Rel H x b t sn h tx ln mo) (hH : H + 800 ≤ 900000) : ∃ z zm, F_X4_denialCause x = some z ∧ F_X5_denialCause mo = some zm ∧ R1 ["java/util/NoSuchElementException"] z zm ∧ Rel (H + 800) x b t sn h tx ln zm.2 := by
  obtain ⟨-, -, -, -, -, -, ⟨h1, h2, h3⟩, -⟩ := id hR
  unfold F_X4_denialCause F_X5_denialCause
  rw [h3]
  by_cases c : M_cause mo = 0
  · refine ⟨.inr "java/util/NoSuchElementException", (0, mF mo 1), ?_, ?_, ⟨?_, ?_⟩, hR.F hH 1⟩
    · rw [if_neg (fun z => z c)]
    · exact gn (fun z => z c) (gb (fails_1 mo) (gn bt1 rfl))
    · rw [w_mF_code]; decide
    · rw [w_mF_code]; decide
  · refine ⟨.inl (M_cause mo), (M_cause mo, mF mo 0), ?_, ?_, ⟨w_mF_code _ _, rfl⟩, hR.F hH 0⟩
    · rw [if_pos c]
    · exact gp c (gb (fails_0 mo) (gp rfl rfl))
/-! taking back; the snapshot -/
def RU (H : Nat) (x : Xv) (t sn : Bv) (tx : Tv) (ln : Nv) (exs : List String) (z : (Int32 × Bv × Hv) ⊕ (String × Bv × Hv)) (zm : Int32 × Mv) : Prop :=
  Sum.elim (fun y => M_code zm.2 = 0 ∧ y.1 = zm.1 ∧ Rel (H + 800) x y.2.1 t sn y.2.2 tx ln zm.2) (fun y => cd exs 1 y.1 = some (M_code zm.2) ∧ ¬ M_code zm.2 = 0 ∧ Rel (H + 800) x y.2.1 t sn y.2.2 tx ln zm.2) z
def mU (x : Mv) (y : Nat → Int32) (ch : Int32) : Mv := mkM (y) (M_kept x) (M_saved x) (M_before x) (M_trial x) (M_counted x) (M_isSaved x) (ch) (M_isWithin x) (0) (0) (M_why x) (M_detail x) (M_cause x) (M_input x) (M_length x) (M_fault x) (M_signs x) (M_signMany x) (M_lastOver x) (M_at x) (M_told x) (M_toldMany x)
theorem w_mU_g (x : Mv) (y : Nat → Int32) (ch : Int32) : M_g (mU x y ch) = y := rfl
theorem w_mU_kept (x : Mv) (y : Nat → Int32) (ch : Int32) : M_kept (mU x y ch) = M_kept x := rfl
theorem w_mU_saved (x : Mv) (y : Nat → Int32) (ch : Int32) : M_saved (mU x y ch) = M_saved x := rfl
theorem w_mU_before (x : Mv) (y : Nat → Int32) (ch : Int32) : M_before (mU x y ch) = M_before x := rfl
theorem w_mU_trial (x : Mv) (y : Nat → Int32) (ch : Int32) : M_trial (mU x y ch) = M_trial x := rfl
theorem w_mU_counted (x : Mv) (y : Nat → Int32) (ch : Int32) : M_counted (mU x y ch) = M_counted x := rfl
theorem w_mU_isSaved (x : Mv) (y : Nat → Int32) (ch : Int32) : M_isSaved (mU x y ch) = M_isSaved x := rfl
theorem w_mU_changes (x : Mv) (y : Nat → Int32) (ch : Int32) : M_changes (mU x y ch) = ch := rfl
theorem w_mU_isWithin (x : Mv) (y : Nat → Int32) (ch : Int32) : M_isWithin (mU x y ch) = M_isWithin x := rfl
theorem w_mU_isDenied (x : Mv) (y : Nat → Int32) (ch : Int32) : M_isDenied (mU x y ch) = 0 := rfl
theorem w_mU_code (x : Mv) (y : Nat → Int32) (ch : Int32) : M_code (mU x y ch) = 0 := rfl
theorem w_mU_why (x : Mv) (y : Nat → Int32) (ch : Int32) : M_why (mU x y ch) = M_why x := rfl
theorem w_mU_detail (x : Mv) (y : Nat → Int32) (ch : Int32) : M_detail (mU x y ch) = M_detail x := rfl
theorem w_mU_cause (x : Mv) (y : Nat → Int32) (ch : Int32) : M_cause (mU x y ch) = M_cause x := rfl
theorem w_mU_input (x : Mv) (y : Nat → Int32) (ch : Int32) : M_input (mU x y ch) = M_input x := rfl
theorem w_mU_length (x : Mv) (y : Nat → Int32) (ch : Int32) : M_length (mU x y ch) = M_length x := rfl
theorem w_mU_fault (x : Mv) (y : Nat → Int32) (ch : Int32) : M_fault (mU x y ch) = M_fault x := rfl
theorem w_mU_signs (x : Mv) (y : Nat → Int32) (ch : Int32) : M_signs (mU x y ch) = M_signs x := rfl
theorem w_mU_signMany (x : Mv) (y : Nat → Int32) (ch : Int32) : M_signMany (mU x y ch) = M_signMany x := rfl
theorem w_mU_lastOver (x : Mv) (y : Nat → Int32) (ch : Int32) : M_lastOver (mU x y ch) = M_lastOver x := rfl
theorem w_mU_at (x : Mv) (y : Nat → Int32) (ch : Int32) : M_at (mU x y ch) = M_at x := rfl
theorem w_mU_told (x : Mv) (y : Nat → Int32) (ch : Int32) : M_told (mU x y ch) = M_told x := rfl
theorem w_mU_toldMany (x : Mv) (y : Nat → Int32) (ch : Int32) : M_toldMany (mU x y ch) = M_toldMany x := rfl
theorem Rel.U {g : Nat → Int32} {c : Nat} {h' : Hv} {S Q : Br} (hR : Rel H x (toB S) t sn h tx ln mo) (hH : H + 800 ≤ 900000) (hI : Iv H Q) (hg : RG g Q) (hh : HR H h' (M_kept mo) c) : Rel (H + 800) x (toB Q) t sn h' tx ln (mU mo g (nI c)) := by
  have h1 := hR.up (H1 := H + 800) (by omega) hH
  unfold Rel TXR LNR at h1 ⊢
  simp only [w_mU_g, w_mU_kept, w_mU_saved, w_mU_before, w_mU_trial, w_mU_counted, w_mU_isSaved, w_mU_changes, w_mU_isWithin, w_mU_isDenied, w_mU_code, w_mU_why, w_mU_detail, w_mU_cause, w_mU_input, w_mU_length, w_mU_fault, w_mU_signs, w_mU_signMany, w_mU_lastOver, w_mU_at, w_mU_told, w_mU_toldMany]
  obtain ⟨a1, a2, a3, a4, a5, a6⟩ := h1
  exact ⟨⟨Q, rfl, hI.mono (by omega) hH, hg⟩, a2, a3, a4, ⟨c, rfl, hh.mono (by omega) hH⟩, a6⟩
theorem op_undo (hR : Rel H x b t sn h tx ln mo) (hH : H + 800 ≤ 900000) : ∃ z zm, F_X4_undo x b h = some z ∧ F_X5_undo mo = some zm ∧ RU H x t sn tx ln ["java/lang/IllegalStateException"] z zm := by
  obtain ⟨⟨S, rfl, hI, hg⟩, -, -, -, ⟨c, hch, hHR⟩, -⟩ := id hR
  obtain ⟨nw, a1, a2, a3, a4, a5, a6⟩ := hHR
  by_cases c0 : c = 0
  · refine ⟨.inr ("java/lang/IllegalStateException", toB S, h), (0, mF mo 1), ?_, ?_, ⟨?_, ?_, hR.F hH 1⟩⟩
    · unfold F_X4_undo
      rw [a4, c0]
      exact gn (fun z => z rfl) rfl
    · unfold F_X5_undo
      exact gn (by rw [hch, c0]; exact fun z => z rfl) (gb (fails_1 mo) (gn bt1 rfl))
    · rw [w_mF_code]; exact (show cd ["java/lang/IllegalStateException"] 1 "java/lang/IllegalStateException" = some 1 by decide)
    · rw [w_mF_code]; decide
  · obtain ⟨Q, q1, q2, q3⟩ := a6 (c - 1) (by omega)
    rw [show (nw + 8 - (c - 1 - (c - 1))) % 8 = nw by omega] at q1
    have e1 : (nI nw + 8 - 1) - (nI nw + 8 - 1) / 8 * 8 = nI ((nw + 7) % 8) := by
      rw [show nI nw + 8 = nI (nw + 8) from nI_add nw 8, sub1 (by omega), show nw + 8 - 1 = nw + 7 by omega, l_8, pk_rem (by omega) (by omega) (by omega)]
    have hRow : RG (va_cpy (M_kept mo) (M_g mo) (83 * (c - 1)) 0 83) (cpS S Q) := by
      refine RG_cp S (RG_ext q2.1.1 q2.1.2.1 q3 fun t ht => ?_) q2.1.1 q2.1.2.1
      rw [pk_cpy_in (by omega) (by omega)]
      exact congrArg (M_kept mo) (by omega)
    have hh : HR H (mkH (nI ((nw + 7) % 8)) (nI (c - 1)) (H_st h)) (M_kept mo) (c - 1) := by
      refine ⟨(nw + 7) % 8, by omega, by omega, rfl, rfl, a5, ?_⟩
      intro i hi
      obtain ⟨Q2, r1, r2, r3⟩ := a6 i (by omega)
      refine ⟨Q2, ?_, r2, r3⟩
      show H_st h (((nw + 7) % 8 + 8 - (c - 1 - 1 - i)) % 8) = _
      rw [show ((nw + 7) % 8 + 8 - (c - 1 - 1 - i)) % 8 = (nw + 8 - (c - 1 - i)) % 8 by omega]
      exact r1
    refine ⟨.inl (nI (c - 1), toB (cpS S Q), mkH (nI ((nw + 7) % 8)) (nI (c - 1)) (H_st h)), (nI (c - 1), mU mo (va_cpy (M_kept mo) (M_g mo) (83 * (c - 1)) 0 83) (nI (c - 1))), ?_, ?_, ⟨w_mU_code _ _ _, rfl, Rel.U hR hH (Iv_cp S q2) hRow hh⟩⟩
    · unfold F_X4_undo F_X1_giveBack
      rw [a4]
      refine gp (nI_ne0 (by omega) (by omega)) (gb (z := (mkH (nI ((nw + 7) % 8)) (nI (c - 1)) (H_st h), toB (cpS S Q))) (gn (nI_nle (by omega) (by omega)) (gk (by rw [a3]; exact inb_nI a1 (by omega)) ?_)) rfl)
      rw [a3, nI_clamp (by omega), q1, c_copy, Option.bind_some, e1, sub1 (by omega)]
    · unfold F_X5_undo
      refine gp (by rw [hch]; exact nI_ne0 (by omega) (by omega)) (gb (fails_0 mo) (gp rfl ?_))
      simp only [w_mF_g, w_mF_kept, w_mF_saved, w_mF_before, w_mF_trial, w_mF_counted, w_mF_isSaved, w_mF_changes, w_mF_isWithin, w_mF_isDenied, w_mF_code, w_mF_why, w_mF_detail, w_mF_cause, w_mF_input, w_mF_length, w_mF_fault, w_mF_signs, w_mF_signMany, w_mF_lastOver, w_mF_at, w_mF_told, w_mF_toldMany, hch]
      rw [sub1 (by omega), show (83 : Int32) * nI (c - 1) = nI (83 * (c - 1)) from pk_mul 83 (c - 1)]
      exact gb (m_copies (n1 := 664) (n2 := 83) (a := 83 * (c - 1)) (c := 0) (by omega) (by omega) (by omega) (by omega) (M_kept mo) (M_g mo)) rfl
theorem op_undoCount (hR : Rel H x b t sn h tx ln mo) (hH : H + 800 ≤ 900000) : ∃ v zm, F_X4_undoCount x h = some v ∧ F_X5_undoCount mo = some (v, zm) ∧ Rel (H + 800) x b t sn h tx ln zm := by
  obtain ⟨-, -, -, -, ⟨c, hch, hHR⟩, -⟩ := id hR
  obtain ⟨nw, a1, a2, a3, a4, a5, a6⟩ := hHR
  refine ⟨nI c, m_code mo 0, ?_, ?_, hR.code hH 0⟩
  · unfold F_X4_undoCount
    rw [a4]
  · unfold F_X5_undoCount
    rw [mkM_code, hch]
def mSv (x : Mv) (y : Nat → Int32) : Mv := mkM (M_g x) (M_kept x) (y) (M_before x) (M_trial x) (M_counted x) (1) (M_changes x) (M_isWithin x) (M_isDenied x) (0) (M_why x) (M_detail x) (M_cause x) (M_input x) (M_length x) (M_fault x) (M_signs x) (M_signMany x) (M_lastOver x) (M_at x) (M_told x) (M_toldMany x)
theorem w_mSv_g (x : Mv) (y : Nat → Int32) : M_g (mSv x y) = M_g x := rfl
theorem w_mSv_kept (x : Mv) (y : Nat → Int32) : M_kept (mSv x y) = M_kept x := rfl
theorem w_mSv_saved (x : Mv) (y : Nat → Int32) : M_saved (mSv x y) = y := rfl
theorem w_mSv_before (x : Mv) (y : Nat → Int32) : M_before (mSv x y) = M_before x := rfl
theorem w_mSv_trial (x : Mv) (y : Nat → Int32) : M_trial (mSv x y) = M_trial x := rfl
theorem w_mSv_counted (x : Mv) (y : Nat → Int32) : M_counted (mSv x y) = M_counted x := rfl
theorem w_mSv_isSaved (x : Mv) (y : Nat → Int32) : M_isSaved (mSv x y) = 1 := rfl
theorem w_mSv_changes (x : Mv) (y : Nat → Int32) : M_changes (mSv x y) = M_changes x := rfl
theorem w_mSv_isWithin (x : Mv) (y : Nat → Int32) : M_isWithin (mSv x y) = M_isWithin x := rfl
theorem w_mSv_isDenied (x : Mv) (y : Nat → Int32) : M_isDenied (mSv x y) = M_isDenied x := rfl
theorem w_mSv_code (x : Mv) (y : Nat → Int32) : M_code (mSv x y) = 0 := rfl
theorem w_mSv_why (x : Mv) (y : Nat → Int32) : M_why (mSv x y) = M_why x := rfl
theorem w_mSv_detail (x : Mv) (y : Nat → Int32) : M_detail (mSv x y) = M_detail x := rfl
theorem w_mSv_cause (x : Mv) (y : Nat → Int32) : M_cause (mSv x y) = M_cause x := rfl
theorem w_mSv_input (x : Mv) (y : Nat → Int32) : M_input (mSv x y) = M_input x := rfl
theorem w_mSv_length (x : Mv) (y : Nat → Int32) : M_length (mSv x y) = M_length x := rfl
theorem w_mSv_fault (x : Mv) (y : Nat → Int32) : M_fault (mSv x y) = M_fault x := rfl
theorem w_mSv_signs (x : Mv) (y : Nat → Int32) : M_signs (mSv x y) = M_signs x := rfl
theorem w_mSv_signMany (x : Mv) (y : Nat → Int32) : M_signMany (mSv x y) = M_signMany x := rfl
theorem w_mSv_lastOver (x : Mv) (y : Nat → Int32) : M_lastOver (mSv x y) = M_lastOver x := rfl
theorem w_mSv_at (x : Mv) (y : Nat → Int32) : M_at (mSv x y) = M_at x := rfl
theorem w_mSv_told (x : Mv) (y : Nat → Int32) : M_told (mSv x y) = M_told x := rfl
theorem w_mSv_toldMany (x : Mv) (y : Nat → Int32) : M_toldMany (mSv x y) = M_toldMany x := rfl
theorem op_saveSnapshot (hR : Rel H x b t sn h tx ln mo) (hH : H + 800 ≤ 900000) : ∃ z zm, F_X4_saveSnapshot x b sn = some z ∧ F_X5_saveSnapshot mo = some (z.1, zm) ∧ Rel (H + 800) z.2.1 b t z.2.2 h tx ln zm := by
  obtain ⟨⟨S, rfl, hI, hg⟩, a2, ⟨Q, rfl, -⟩, a4, a5, a6, a7, a8, a9⟩ := hR.up (H1 := H + 800) (by omega) hH
  have hn := hI.1.1
  have hv := hI.1.2.1
  refine ⟨(nI (s_n S), mkX 1 (X_faultKept x) (X_deniedNumber x) (X_deniedDetail x) (X_deniedCause x), toB (cpS Q S)), mSv mo (va_cpy (M_g mo) (M_saved mo) 0 0 83), ?_, ?_, ?_⟩
  · unfold F_X4_saveSnapshot
    rw [c_copy, Option.bind_some, B_spans_to]
  · unfold F_X5_saveSnapshot
    refine gb (m_copies (n1 := 83) (n2 := 83) (a := 0) (c := 0) (by omega) (by omega) (by omega) (by omega) (M_g mo) (M_saved mo)) (gk ub_0 ?_)
    rw [zc_0, hg.1.1]; rfl
  · unfold Rel TXR LNR at *
    simp only [w_mSv_g, w_mSv_kept, w_mSv_saved, w_mSv_before, w_mSv_trial, w_mSv_counted, w_mSv_isSaved, w_mSv_changes, w_mSv_isWithin, w_mSv_isDenied, w_mSv_code, w_mSv_why, w_mSv_detail, w_mSv_cause, w_mSv_input, w_mSv_length, w_mSv_fault, w_mSv_signs, w_mSv_signMany, w_mSv_lastOver, w_mSv_at, w_mSv_told, w_mSv_toldMany]
    refine ⟨⟨S, rfl, hI, hg⟩, a2, ⟨cpS Q S, rfl, fun _ => ⟨Iv_cp Q hI, RG_cp Q (RG_ext hn hv hg fun t ht => ?_) hn hv⟩⟩, ⟨by rw [X_snapshotSaved_mk]; decide, rfl⟩, a5, a6, a7, a8, a9⟩
    rw [pk_cpy_in (by omega) (by omega)]
    exact congrArg (M_g mo) (by omega)
theorem op_restoreSnapshot (hR : Rel H x b t sn h tx ln mo) (hH : H + 800 ≤ 900000) : ∃ z zm, F_X4_restoreSnapshot x b sn h = some z ∧ F_X5_restoreSnapshot mo = some zm ∧ RU H x t sn tx ln ["java/lang/IllegalStateException"] z zm := by
  obtain ⟨⟨S, rfl, hI, hg⟩, -, ⟨Q, rfl, hQ⟩, ⟨hb, hs⟩, ⟨c, hch, hHR⟩, -⟩ := id hR
  by_cases c0 : X_snapshotSaved x = 0
  · refine ⟨.inr ("java/lang/IllegalStateException", toB S, h), (0, mF mo 1), ?_, ?_, ⟨?_, ?_, hR.F hH 1⟩⟩
    · unfold F_X4_restoreSnapshot
      exact gn (fun z => z c0) rfl
    · unfold F_X5_restoreSnapshot
      exact gp (by rw [hs]; exact c0) (gb (fails_1 mo) (gn bt1 rfl))
    · rw [w_mF_code]; exact (show cd ["java/lang/IllegalStateException"] 1 "java/lang/IllegalStateException" = some 1 by decide)
    · rw [w_mF_code]; decide
  · obtain ⟨hIQ, hgQ⟩ := hQ c0
    have hnQ := hIQ.1.1
    have hvQ := hIQ.1.2.1
    have hRow : RG (va_cpy (M_saved mo) (M_g mo) 0 0 83) (cpS S Q) := by
      refine RG_cp S (RG_ext hnQ hvQ hgQ fun t ht => ?_) hnQ hvQ
      rw [pk_cpy_in (by omega) (by omega)]
      exact congrArg (M_saved mo) (by omega)
    obtain ⟨nw, a1, a2, a3, a4, a5, a6⟩ := hHR
    have hh : HR H (mkH (H_newest h) 0 (H_st h)) (M_kept mo) 0 := ⟨nw, a1, by omega, a3, rfl, a5, fun i hi => absurd hi (Nat.not_lt_zero _)⟩
    have hR2 := Rel.U hR hH (Iv_cp S hIQ) hRow hh
    refine ⟨.inl (nI (s_n Q), toB (cpS S Q), mkH (H_newest h) 0 (H_st h)), (nI (s_n Q), mU mo (va_cpy (M_saved mo) (M_g mo) 0 0 83) 0), ?_, ?_, ⟨w_mU_code _ _ _, rfl, hR2⟩⟩
    · unfold F_X4_restoreSnapshot
      refine gp c0 (gb (c_copy S Q) ?_)
      rw [B_spans_to, p_cpS_n]
    · unfold F_X5_restoreSnapshot
      refine gn (by rw [hs]; exact c0) (gb (fails_0 mo) (gp rfl ?_))
      simp only [w_mF_g, w_mF_kept, w_mF_saved, w_mF_before, w_mF_trial, w_mF_counted, w_mF_isSaved, w_mF_changes, w_mF_isWithin, w_mF_isDenied, w_mF_code, w_mF_why, w_mF_detail, w_mF_cause, w_mF_input, w_mF_length, w_mF_fault, w_mF_signs, w_mF_signMany, w_mF_lastOver, w_mF_at, w_mF_told, w_mF_toldMany]
      refine gb (m_copies (n1 := 83) (n2 := 83) (a := 0) (c := 0) (by omega) (by omega) (by omega) (by omega) (M_saved mo) (M_g mo)) (gk ub_0 ?_)
      rw [zc_0, hRow.1.1, p_cpS_n]; rfl
/-! signs of a text -/
def mFd (x : Mv) (y : Nat → Int32) (l : Int32) : Mv := mkM (M_g x) (M_kept x) (M_saved x) (M_before x) (M_trial x) (M_counted x) (M_isSaved x) (M_changes x) (M_isWithin x) (0) (0) (M_why x) (M_detail x) (M_cause x) (y) (l) (M_fault x) (M_signs x) (M_signMany x) (M_lastOver x) (M_at x) (M_told x) (M_toldMany x)
theorem w_mFd_g (x : Mv) (y : Nat → Int32) (l : Int32) : M_g (mFd x y l) = M_g x := rfl
theorem w_mFd_kept (x : Mv) (y : Nat → Int32) (l : Int32) : M_kept (mFd x y l) = M_kept x := rfl
theorem w_mFd_saved (x : Mv) (y : Nat → Int32) (l : Int32) : M_saved (mFd x y l) = M_saved x := rfl
theorem w_mFd_before (x : Mv) (y : Nat → Int32) (l : Int32) : M_before (mFd x y l) = M_before x := rfl
theorem w_mFd_trial (x : Mv) (y : Nat → Int32) (l : Int32) : M_trial (mFd x y l) = M_trial x := rfl
theorem w_mFd_counted (x : Mv) (y : Nat → Int32) (l : Int32) : M_counted (mFd x y l) = M_counted x := rfl
theorem w_mFd_isSaved (x : Mv) (y : Nat → Int32) (l : Int32) : M_isSaved (mFd x y l) = M_isSaved x := rfl
theorem w_mFd_changes (x : Mv) (y : Nat → Int32) (l : Int32) : M_changes (mFd x y l) = M_changes x := rfl
theorem w_mFd_isWithin (x : Mv) (y : Nat → Int32) (l : Int32) : M_isWithin (mFd x y l) = M_isWithin x := rfl
theorem w_mFd_isDenied (x : Mv) (y : Nat → Int32) (l : Int32) : M_isDenied (mFd x y l) = 0 := rfl
theorem w_mFd_code (x : Mv) (y : Nat → Int32) (l : Int32) : M_code (mFd x y l) = 0 := rfl
theorem w_mFd_why (x : Mv) (y : Nat → Int32) (l : Int32) : M_why (mFd x y l) = M_why x := rfl
theorem w_mFd_detail (x : Mv) (y : Nat → Int32) (l : Int32) : M_detail (mFd x y l) = M_detail x := rfl
theorem w_mFd_cause (x : Mv) (y : Nat → Int32) (l : Int32) : M_cause (mFd x y l) = M_cause x := rfl
theorem w_mFd_input (x : Mv) (y : Nat → Int32) (l : Int32) : M_input (mFd x y l) = y := rfl
theorem w_mFd_length (x : Mv) (y : Nat → Int32) (l : Int32) : M_length (mFd x y l) = l := rfl
theorem w_mFd_fault (x : Mv) (y : Nat → Int32) (l : Int32) : M_fault (mFd x y l) = M_fault x := rfl
theorem w_mFd_signs (x : Mv) (y : Nat → Int32) (l : Int32) : M_signs (mFd x y l) = M_signs x := rfl
theorem w_mFd_signMany (x : Mv) (y : Nat → Int32) (l : Int32) : M_signMany (mFd x y l) = M_signMany x := rfl
theorem w_mFd_lastOver (x : Mv) (y : Nat → Int32) (l : Int32) : M_lastOver (mFd x y l) = M_lastOver x := rfl
theorem w_mFd_at (x : Mv) (y : Nat → Int32) (l : Int32) : M_at (mFd x y l) = M_at x := rfl
theorem w_mFd_told (x : Mv) (y : Nat → Int32) (l : Int32) : M_told (mFd x y l) = M_told x := rfl
theorem w_mFd_toldMany (x : Mv) (y : Nat → Int32) (l : Int32) : M_toldMany (mFd x y l) = M_toldMany x := rfl
def RFd (H : Nat) (x : Xv) (b t sn : Bv) (h : Hv) (ln : Nv) (exs : List String) (z : (Int32 × Tv) ⊕ (String × Tv)) (zm : Int32 × Mv) : Prop :=
  Sum.elim (fun y => M_code zm.2 = 0 ∧ y.1 = zm.1 ∧ Rel (H + 800) x b t sn h y.2 ln zm.2) (fun y => cd exs 1 y.1 = some (M_code zm.2) ∧ ¬ M_code zm.2 = 0 ∧ Rel (H + 800) x b t sn h y.2 ln zm.2) z
theorem op_feed (hR : Rel H x b t sn h tx ln mo) (hH : H + 800 ≤ 900000) (q : Int32) : ∃ z zm, F_X4_feed x tx ((q.toUInt32 % 65536).toInt32) = some z ∧ F_X5_feed mo ((q.toUInt32 % 65536).toInt32) = some zm ∧ RFd H x b t sn h ln ["java/lang/IllegalStateException"] z zm := by
  obtain ⟨a1, a2, a3, a4, a5, a6, a7, a8, ⟨l, b1, b2, b3, b4⟩, a10⟩ := id hR
  by_cases c0 : l < 60
  · obtain ⟨w, hw, ew⟩ : ∃ w, w < 65536 ∧ (q.toUInt32 % 65536).toInt32 = nI w := ⟨q.toBitVec.toNat % 65536, Nat.mod_lt _ (by decide), pk_char q⟩
    have ev : vp_nar .char (nI w) = nI w := by rw [← ew]; exact pk_vc q
    rw [ew]
    refine ⟨.inl (nI (l + 1), mkT (upd (T_signs tx) l (nI w)) (nI (l + 1)) (T_position tx) (T_kinds tx) (T_firsts tx) (T_seconds tx) (T_commands tx)), (nI (l + 1), mFd mo (upd (M_input mo) l (nI w)) (nI (l + 1))), ?_, ?_, ⟨w_mFd_code _ _ _, rfl, ?_⟩⟩
    · unfold F_X4_feed F_X3_append
      rw [b2, if_pos (show nI l < (60 : Int32) from (show nI l < nI 60 from nI_lt c0 (by omega))), if_neg (show ¬ (60 : Int32) ≤ nI l from (show ¬ nI 60 ≤ nI l from nI_ge c0 (by omega))), inb_nI c0 (by omega), ck_tt, nI_clamp (by omega), ev, add1, Option.bind_some, T_length_mk]
    · unfold F_X5_feed
      refine gp (by rw [b3]; exact fun z => absurd ((nI_eq (by omega) (by omega)).mp (show nI l = nI 60 from z)) (by omega)) (gb (fails_0 mo) (gp rfl (gk (by rw [w_mF_length, b3]; exact inb_nI c0 (by omega)) ?_)))
      simp only [w_mF_g, w_mF_kept, w_mF_saved, w_mF_before, w_mF_trial, w_mF_counted, w_mF_isSaved, w_mF_changes, w_mF_isWithin, w_mF_isDenied, w_mF_code, w_mF_why, w_mF_detail, w_mF_cause, w_mF_input, w_mF_length, w_mF_fault, w_mF_signs, w_mF_signMany, w_mF_lastOver, w_mF_at, w_mF_told, w_mF_toldMany, b3]
      rw [nI_clamp (by omega), add1]; rfl
    · have h1 := hR.up (H1 := H + 800) (by omega) hH
      unfold Rel TXR LNR at h1 ⊢
      simp only [w_mFd_g, w_mFd_kept, w_mFd_saved, w_mFd_before, w_mFd_trial, w_mFd_counted, w_mFd_isSaved, w_mFd_changes, w_mFd_isWithin, w_mFd_isDenied, w_mFd_code, w_mFd_why, w_mFd_detail, w_mFd_cause, w_mFd_input, w_mFd_length, w_mFd_fault, w_mFd_signs, w_mFd_signMany, w_mFd_lastOver, w_mFd_at, w_mFd_told, w_mFd_toldMany, T_signs_mk, T_length_mk]
      obtain ⟨a1, a2, a3, a4, a5, a6, a7, a8, -, a10⟩ := h1
      refine ⟨a1, a2, a3, a4, a5, a6, a7, a8, ⟨l + 1, by omega, rfl, rfl, ?_⟩, a10⟩
      intro i hi
      by_cases e : i = l
      · subst e; exact ⟨w, hw, pk_us, pk_us⟩
      · obtain ⟨c, k1, k2, k3⟩ := b4 i (by omega)
        exact ⟨c, k1, (pk_un e).trans k2, (pk_un e).trans k3⟩
  · have hl : l = 60 := by omega
    subst hl
    refine ⟨.inr ("java/lang/IllegalStateException", tx), (0, mF mo 1), ?_, ?_, ⟨?_, ?_, hR.F hH 1⟩⟩
    · unfold F_X4_feed
      rw [b2]
      exact gn (by decide) rfl
    · unfold F_X5_feed
      exact gn (by rw [b3]; exact fun z => z rfl) (gb (fails_1 mo) (gn bt1 rfl))
    · rw [w_mF_code]; exact (show cd ["java/lang/IllegalStateException"] 1 "java/lang/IllegalStateException" = some 1 by decide)
    · rw [w_mF_code]; decide
end OPS4
