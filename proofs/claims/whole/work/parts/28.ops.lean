/-! calls of a change -/
theorem X_snapshotSaved_mk (a b c d e : Int32) : X_snapshotSaved (mkX a b c d e) = a := rfl
theorem X_faultKept_mk (a b c d e : Int32) : X_faultKept (mkX a b c d e) = b := rfl
theorem X_deniedNumber_mk (a b c d e : Int32) : X_deniedNumber (mkX a b c d e) = c := rfl
theorem X_deniedDetail_mk (a b c d e : Int32) : X_deniedDetail (mkX a b c d e) = d := rfl
theorem X_deniedCause_mk (a b c d e : Int32) : X_deniedCause (mkX a b c d e) = e := rfl
def CHF (x : Xv) (b : Bv) (h : Hv) (j : Jv) (k p q : Int32) (C : Bv → Option (Int32 × Bv)) : Option ((Int32 × Xv × Bv × Hv × Jv) ⊕ (String × Xv × Bv × Hv × Jv)) := obx (F_X4_prepare x b h j k p q) (fun z1 => (C b).bind (fun z2 => some (.inl (z2.1, z1.1, z2.2, z1.2.1, z1.2.2)))) (fun z1 => some (.inr (z1.1, z1.2.1, b, z1.2.2.1, z1.2.2.2)))
theorem prep_t {x : Xv} {b : Bv} {h h' : Hv} {j : Jv} {k p q : Int32} (ha : F_X2_allows j b k p q = some (true, mkJ 0 0)) (hk : F_X1_keep h b = some h') : F_X4_prepare x b h j k p q = some (.inl (x, h', mkJ 0 0)) := by
  unfold F_X4_prepare
  rw [ha, Option.bind_some, if_pos bt1, if_pos bt1, if_pos bt1, hk, Option.bind_some]
theorem prep_10 {x : Xv} {b : Bv} {h : Hv} {j : Jv} {k p q : Int32} (ha : F_X2_allows j b k p q = some (false, mkJ 10 0)) : F_X4_prepare x b h j k p q = some (.inr ("java/lang/IndexOutOfBoundsException", x, h, mkJ 10 0)) := by
  unfold F_X4_prepare
  rw [ha, Option.bind_some, if_neg (show ¬ ¬ bi false = 0 by decide), if_neg (c := ¬ J_reason (mkJ 10 0) = 10) (fun z => z rfl)]
theorem prep_9 {x : Xv} {b : Bv} {h : Hv} {j : Jv} {k p q : Int32} (ha : F_X2_allows j b k p q = some (false, mkJ 9 0)) : F_X4_prepare x b h j k p q = some (.inr ("java/lang/IllegalArgumentException", x, h, mkJ 9 0)) := by
  unfold F_X4_prepare
  rw [ha, Option.bind_some, if_neg (show ¬ ¬ bi false = 0 by decide), J_reason_mk, if_pos (show ¬ (9 : Int32) = 10 by decide), if_neg (show ¬ ¬ bi false = 0 by decide), if_neg (c := ¬ (9 : Int32) = 9) (fun z => z rfl)]
theorem prep_u {x : Xv} {b : Bv} {h : Hv} {j : Jv} {k p q d : Int32} {u : Nat} (hu : u ≤ 8) (ha : F_X2_allows j b k p q = some (false, mkJ (nI u) d)) : F_X4_prepare x b h j k p q = some (.inr ("java/lang/UnsupportedOperationException", mkX (X_snapshotSaved x) (X_faultKept x) (nI u) d 0, h, mkJ (nI u) d)) := by
  unfold F_X4_prepare F_X4_keepDenial
  rw [ha, Option.bind_some, if_neg (show ¬ ¬ bi false = 0 by decide), J_reason_mk, J_detail_mk, if_pos (show ¬ nI u = (10 : Int32) from fun z => absurd ((nI_eq (by omega) (by omega)).mp (show nI u = nI 10 from z)) (by omega)), if_neg (show ¬ ¬ bi false = 0 by decide), if_pos (show ¬ nI u = (9 : Int32) from fun z => absurd ((nI_eq (by omega) (by omega)).mp (show nI u = nI 9 from z)) (by omega)), if_neg (show ¬ ¬ bi false = 0 by decide), Option.bind_some]
theorem Rel.up {H H1 : Nat} {x : Xv} {b t sn : Bv} {h : Hv} {tx : Tv} {ln : Nv} {mo : Mv} (hR : Rel H x b t sn h tx ln mo) (h1 : H ≤ H1) (h2 : H1 ≤ 900000) : Rel H1 x b t sn h tx ln mo := by
  obtain ⟨⟨S, a1, a2, a3⟩, a4, ⟨Q, a5, a6⟩, a7, ⟨c, a8, a9⟩, a10⟩ := hR
  exact ⟨⟨S, a1, a2.mono h1 h2, a3⟩, a4, ⟨Q, a5, fun z => ⟨(a6 z).1.mono h1 h2, (a6 z).2⟩⟩, a7, ⟨c, a8, a9.mono h1 h2⟩, a10⟩
theorem Rel.F {H : Nat} {x : Xv} {b t sn : Bv} {h : Hv} {tx : Tv} {ln : Nv} {mo : Mv} (hR : Rel H x b t sn h tx ln mo) (hH : H + 800 ≤ 900000) (c : Int32) : Rel (H + 800) x b t sn h tx ln (mF mo c) := by
  have h1 := hR.up (by omega) hH
  unfold Rel TXR LNR at h1 ⊢
  simp only [w_mF_g, w_mF_kept, w_mF_saved, w_mF_before, w_mF_trial, w_mF_counted, w_mF_isSaved, w_mF_changes, w_mF_isWithin, w_mF_isDenied, w_mF_code, w_mF_why, w_mF_detail, w_mF_cause, w_mF_input, w_mF_length, w_mF_fault, w_mF_signs, w_mF_signMany, w_mF_lastOver, w_mF_at, w_mF_told, w_mF_toldMany]
  exact h1
theorem Rel.code {H : Nat} {x : Xv} {b t sn : Bv} {h : Hv} {tx : Tv} {ln : Nv} {mo : Mv} (hR : Rel H x b t sn h tx ln mo) (hH : H + 800 ≤ 900000) (c : Int32) : Rel (H + 800) x b t sn h tx ln (m_code mo c) := by
  have h1 := hR.up (by omega) hH
  unfold Rel TXR LNR at h1 ⊢
  simp only [r_g_code, r_kept_code, r_saved_code, r_before_code, r_trial_code, r_counted_code, r_isSaved_code, r_changes_code, r_isWithin_code, r_isDenied_code, r_code_code, r_why_code, r_detail_code, r_cause_code, r_input_code, r_length_code, r_fault_code, r_signs_code, r_signMany_code, r_lastOver_code, r_at_code, r_told_code, r_toldMany_code]
  exact h1
theorem Rel.dn {H : Nat} {x : Xv} {b t sn : Bv} {h : Hv} {tx : Tv} {ln : Nv} {mo : Mv} (hR : Rel H x b t sn h tx ln mo) (hH : H + 800 ≤ 900000) (a u d : Int32) : Rel (H + 800) (mkX (X_snapshotSaved x) (X_faultKept x) u d 0) b t sn h tx ln (mDn mo a u d) := by
  have h1 := hR.up (by omega) hH
  unfold Rel TXR LNR at h1 ⊢
  simp only [w_mDn_g, w_mDn_kept, w_mDn_saved, w_mDn_before, w_mDn_trial, w_mDn_counted, w_mDn_isSaved, w_mDn_changes, w_mDn_isWithin, w_mDn_isDenied, w_mDn_code, w_mDn_why, w_mDn_detail, w_mDn_cause, w_mDn_input, w_mDn_length, w_mDn_fault, w_mDn_signs, w_mDn_signMany, w_mDn_lastOver, w_mDn_at, w_mDn_told, w_mDn_toldMany]
  obtain ⟨a1, a2, a3, a4, a5, a6, a7, a8⟩ := h1
  exact ⟨a1, a2, a3, a4, a5, a6, ⟨rfl, rfl, rfl⟩, a8⟩
theorem Rel.chg {H c : Nat} {x : Xv} {b t sn : Bv} {h h' : Hv} {tx : Tv} {ln : Nv} {mo : Mv} {S' : Br} {kp g' ct : Nat → Int32} {d lo : Int32} (hR : Rel H x b t sn h tx ln mo) (hH : H + 800 ≤ 900000) (hS : Iv (H + 48) S') (hg : RG g' S') (hh : HR (H + 48) h' kp c) : Rel (H + 800) x (toB S') t sn h' tx ln (mK mo kp (nI c) d g' lo ct) := by
  have h1 := hR.up (H1 := H + 800) (by omega) hH
  unfold Rel TXR LNR at h1 ⊢
  simp only [w_mK_g, w_mK_kept, w_mK_saved, w_mK_before, w_mK_trial, w_mK_counted, w_mK_isSaved, w_mK_changes, w_mK_isWithin, w_mK_isDenied, w_mK_code, w_mK_why, w_mK_detail, w_mK_cause, w_mK_input, w_mK_length, w_mK_fault, w_mK_signs, w_mK_signMany, w_mK_lastOver, w_mK_at, w_mK_told, w_mK_toldMany]
  obtain ⟨a1, a2, a3, a4, a5, a6⟩ := h1
  exact ⟨⟨S', rfl, hS.mono (by omega) hH, hg⟩, a2, a3, a4, ⟨c, rfl, hh.mono (by omega) hH⟩, a6⟩
/-- a call of a change, by both -/
theorem op_chg {H : Nat} {x : Xv} {b t sn : Bv} {h : Hv} {tx : Tv} {ln : Nv} {mo : Mv} {k p q cI cA cU : Int32} {C : Bv → Option (Int32 × Bv)} {M : Mv → Option (Int32 × Mv)} (hR : Rel H x b t sn h tx ln mo) (hH : H + 800 ≤ 900000) (j : Jv) (hC : ∀ S, Iv H S → CH H S k p q C M cI cA cU) :
    ∃ z zm, CHF x b h j k p q C = some z ∧ M mo = some zm ∧ Sum.elim (fun y => M_code zm.2 = 0 ∧ y.1 = zm.1 ∧ Rel (H + 800) y.2.1 y.2.2.1 t sn y.2.2.2.1 tx ln zm.2) (fun y => ((y.1 = "java/lang/IndexOutOfBoundsException" ∧ M_code zm.2 = cI) ∨ (y.1 = "java/lang/IllegalArgumentException" ∧ M_code zm.2 = cA) ∨ (y.1 = "java/lang/UnsupportedOperationException" ∧ M_code zm.2 = cU)) ∧ ¬ M_code zm.2 = 0 ∧ Rel (H + 800) y.2.1 y.2.2.1 t sn y.2.2.2.1 tx ln zm.2) z := by
  have hR0 := hR
  obtain ⟨⟨S, rfl, hI, hg⟩, -, -, -, ⟨c, hch, hHR⟩, hw, -⟩ := hR0
  unfold CHF
  rcases hC S hI with ⟨v, S', h1, h2, h3, h4⟩ | ⟨r, e, h1, h0, h2, h3⟩ | ⟨u, d, h1, h2, h0, h3, h4⟩
  · obtain ⟨h', hk, hHR'⟩ := HR_push (H := H) (g := M_g mo) hHR hI hg
    obtain ⟨nw, -, hc8, -⟩ := id hHR
    obtain ⟨d, g', lo, ct, hg', hM⟩ := h4 mo _ _ hg (KP_keeps hc8 hch hw)
    refine ⟨.inl (v, x, toB S', h', mkJ 0 0), _, ?_, hM, ?_⟩
    · rw [prep_t (h1 j) hk]
      show (C (toB S)).bind _ = _
      rw [h2]; rfl
    · exact ⟨w_mK_code _ _ _ _ _ _ _, rfl, Rel.chg hR hH h3 hg' (hHR'.mono (by omega) (by omega))⟩
  · rcases h1 with ⟨rfl, rfl⟩ | ⟨rfl, rfl⟩
    · refine ⟨.inr ("java/lang/IllegalArgumentException", x, toB S, h, mkJ 9 0), _, ?_, h3 mo hg, ?_⟩
      · rw [prep_9 (h2 j)]; rfl
      · exact ⟨Or.inr (Or.inl ⟨rfl, w_mF_code _ _⟩), by rw [w_mF_code]; exact h0, hR.F hH _⟩
    · refine ⟨.inr ("java/lang/IndexOutOfBoundsException", x, toB S, h, mkJ 10 0), _, ?_, h3 mo hg, ?_⟩
      · rw [prep_10 (h2 j)]; rfl
      · exact ⟨Or.inl ⟨rfl, w_mF_code _ _⟩, by rw [w_mF_code]; exact h0, hR.F hH _⟩
  · refine ⟨.inr ("java/lang/UnsupportedOperationException", mkX (X_snapshotSaved x) (X_faultKept x) (nI u) d 0, toB S, h, mkJ (nI u) d), _, ?_, h4 mo hg, ?_⟩
    · rw [prep_u h2 (h3 j)]; rfl
    · exact ⟨Or.inr (Or.inr ⟨rfl, w_mDn_code _ _ _ _⟩), by rw [w_mDn_code]; exact h0, hR.dn hH _ _ _⟩
section OPS
variable {H : Nat} {x : Xv} {b t sn : Bv} {h : Hv} {tx : Tv} {ln : Nv} {mo : Mv}
def RC (H : Nat) (t sn : Bv) (tx : Tv) (ln : Nv) (exs : List String) (z : (Int32 × Xv × Bv × Hv × Jv) ⊕ (String × Xv × Bv × Hv × Jv)) (zm : Int32 × Mv) : Prop :=
  Sum.elim (fun y => M_code zm.2 = 0 ∧ y.1 = zm.1 ∧ Rel (H + 800) y.2.1 y.2.2.1 t sn y.2.2.2.1 tx ln zm.2) (fun y => cd exs 1 y.1 = some (M_code zm.2) ∧ ¬ M_code zm.2 = 0 ∧ Rel (H + 800) y.2.1 y.2.2.1 t sn y.2.2.2.1 tx ln zm.2) z
theorem RC_of {exs : List String} {cI cA cU : Int32} {z : (Int32 × Xv × Bv × Hv × Jv) ⊕ (String × Xv × Bv × Hv × Jv)} {zm : Int32 × Mv} (hI : ¬ cI = 0 → cd exs 1 "java/lang/IndexOutOfBoundsException" = some cI) (hA : ¬ cA = 0 → cd exs 1 "java/lang/IllegalArgumentException" = some cA) (hU : ¬ cU = 0 → cd exs 1 "java/lang/UnsupportedOperationException" = some cU)
    (hz : Sum.elim (fun y => M_code zm.2 = 0 ∧ y.1 = zm.1 ∧ Rel (H + 800) y.2.1 y.2.2.1 t sn y.2.2.2.1 tx ln zm.2) (fun y => ((y.1 = "java/lang/IndexOutOfBoundsException" ∧ M_code zm.2 = cI) ∨ (y.1 = "java/lang/IllegalArgumentException" ∧ M_code zm.2 = cA) ∨ (y.1 = "java/lang/UnsupportedOperationException" ∧ M_code zm.2 = cU)) ∧ ¬ M_code zm.2 = 0 ∧ Rel (H + 800) y.2.1 y.2.2.1 t sn y.2.2.2.1 tx ln zm.2) z) : RC H t sn tx ln exs z zm := by
  rcases z with y | y
  · exact hz
  · obtain ⟨h1, h2, h3⟩ := hz
    refine ⟨?_, h2, h3⟩
    rcases h1 with ⟨e1, e2⟩ | ⟨e1, e2⟩ | ⟨e1, e2⟩
    · rw [e1, e2]; exact hI (fun z => h2 (e2.trans z))
    · rw [e1, e2]; exact hA (fun z => h2 (e2.trans z))
    · rw [e1, e2]; exact hU (fun z => h2 (e2.trans z))
theorem op_addSpan (hR : Rel H x b t sn h tx ln mo) (hH : H + 800 ≤ 900000) (j : Jv) (p : Int32) : ∃ z zm, F_X4_addSpan x b h j p = some z ∧ F_X5_addSpan mo p = some zm ∧ RC H t sn tx ln ["java/lang/IllegalArgumentException", "java/lang/UnsupportedOperationException"] z zm := by
  obtain ⟨z, zm, h1, h2, h3⟩ := op_chg hR hH j (fun S hI => CH_add hI (by omega) p 0)
  exact ⟨z, zm, h1, h2, RC_of (fun z => absurd rfl z) (fun _ => by decide) (fun _ => by decide) h3⟩
theorem op_removeLastSpan (hR : Rel H x b t sn h tx ln mo) (hH : H + 800 ≤ 900000) (j : Jv) : ∃ z zm, F_X4_removeLastSpan x b h j = some z ∧ F_X5_removeLastSpan mo = some zm ∧ RC H t sn tx ln ["java/lang/UnsupportedOperationException"] z zm := by
  obtain ⟨z, zm, h1, h2, h3⟩ := op_chg hR hH j (fun S hI => CH_rem hI (by omega) 0 0)
  exact ⟨z, zm, h1, h2, RC_of (fun z => absurd rfl z) (fun z => absurd rfl z) (fun _ => by decide) h3⟩
theorem op_pour (hR : Rel H x b t sn h tx ln mo) (hH : H + 800 ≤ 900000) (j : Jv) (p q : Int32) : ∃ z zm, F_X4_pour x b h j p q = some z ∧ F_X5_pour mo p q = some zm ∧ RC H t sn tx ln ["java/lang/IndexOutOfBoundsException", "java/lang/IllegalArgumentException", "java/lang/UnsupportedOperationException"] z zm := by
  obtain ⟨z, zm, h1, h2, h3⟩ := op_chg hR hH j (fun S hI => CH_pou hI (by omega) p q)
  exact ⟨z, zm, h1, h2, RC_of (fun _ => by decide) (fun _ => by decide) (fun _ => by decide) h3⟩
theorem op_mend (hR : Rel H x b t sn h tx ln mo) (hH : H + 800 ≤ 900000) (j : Jv) (p q : Int32) : ∃ z zm, F_X4_mend x b h j p q = some z ∧ F_X5_mend mo p q = some zm ∧ RC H t sn tx ln ["java/lang/IndexOutOfBoundsException", "java/lang/IllegalArgumentException", "java/lang/UnsupportedOperationException"] z zm := by
  obtain ⟨z, zm, h1, h2, h3⟩ := op_chg hR hH j (fun S hI => CH_men hI (by omega) p q)
  exact ⟨z, zm, h1, h2, RC_of (fun _ => by decide) (fun _ => by decide) (fun _ => by decide) h3⟩
theorem op_enter (hR : Rel H x b t sn h tx ln mo) (hH : H + 800 ≤ 900000) (j : Jv) (p : Int32) : ∃ z zm, F_X4_enter x b h j p = some z ∧ F_X5_enter mo p = some zm ∧ RC H t sn tx ln ["java/lang/IllegalArgumentException", "java/lang/UnsupportedOperationException"] z zm := by
  obtain ⟨z, zm, h1, h2, h3⟩ := op_chg hR hH j (fun S hI => CH_ent hI (by omega) p 0)
  exact ⟨z, zm, h1, h2, RC_of (fun z => absurd rfl z) (fun _ => by decide) (fun _ => by decide) h3⟩
theorem op_pass (hR : Rel H x b t sn h tx ln mo) (hH : H + 800 ≤ 900000) (j : Jv) (p : Int32) : ∃ z zm, F_X4_pass x b h j p = some z ∧ F_X5_pass mo p = some zm ∧ RC H t sn tx ln ["java/lang/IllegalArgumentException"] z zm := by
  have hC : ∀ S, Iv H S → CH H S 5 p 0 (fun b => F_X0_letHoursPass b p) (fun m => F_X5_pass m p) 0 1 0 := fun S hI => CH_pas hI (by omega) p 0
  obtain ⟨z, zm, h1, h2, h3⟩ := op_chg hR hH j hC
  exact ⟨z, zm, h1, h2, RC_of (fun z => absurd rfl z) (fun _ => by decide) (fun z => absurd rfl z) h3⟩
theorem op_setRate (hR : Rel H x b t sn h tx ln mo) (hH : H + 800 ≤ 900000) (j : Jv) (p : Int32) : ∃ z zm, F_X4_setRate x b h j p = some z ∧ F_X5_setRate mo p = some zm ∧ RC H t sn tx ln ["java/lang/IllegalArgumentException", "java/lang/UnsupportedOperationException"] z zm := by
  obtain ⟨z, zm, h1, h2, h3⟩ := op_chg hR hH j (fun S hI => CH_rate hI (by omega) p 0)
  exact ⟨z, zm, h1, h2, RC_of (fun z => absurd rfl z) (fun _ => by decide) (fun _ => by decide) h3⟩
/-! calls that only look -/
def R1 (exs : List String) (z : Int32 ⊕ String) (zm : Int32 × Mv) : Prop := Sum.elim (fun y => M_code zm.2 = 0 ∧ y = zm.1) (fun y => cd exs 1 y = some (M_code zm.2) ∧ ¬ M_code zm.2 = 0) z
theorem op_spanCount (hR : Rel H x b t sn h tx ln mo) (hH : H + 800 ≤ 900000) : ∃ v zm, F_X4_spanCount x b = some v ∧ F_X5_spanCount mo = some (v, zm) ∧ Rel (H + 800) x b t sn h tx ln zm := by
  obtain ⟨⟨S, rfl, hI, hg⟩, -⟩ := id hR
  refine ⟨_, _, rfl, ?_, hR.code hH 0⟩
  unfold F_X5_spanCount
  rw [ub_0, ck_tt, zc_0, hg.1.1]
  rfl
theorem op_vehicleCount (hR : Rel H x b t sn h tx ln mo) (hH : H + 800 ≤ 900000) : ∃ v zm, F_X4_vehicleCount x b = some v ∧ F_X5_vehicleCount mo = some (v, zm) ∧ Rel (H + 800) x b t sn h tx ln zm := by
  obtain ⟨⟨S, rfl, hI, hg⟩, -⟩ := id hR
  refine ⟨_, _, rfl, ?_, hR.code hH 0⟩
  unfold F_X5_vehicleCount
  rw [ub_1, ck_tt, zc_1, hg.1.2.1]
  rfl
theorem op_hour (hR : Rel H x b t sn h tx ln mo) (hH : H + 800 ≤ 900000) : ∃ v zm, F_X4_hour x b = some v ∧ F_X5_hour mo = some (v, zm) ∧ Rel (H + 800) x b t sn h tx ln zm := by
  obtain ⟨⟨S, rfl, hI, hg⟩, -⟩ := id hR
  refine ⟨_, _, rfl, ?_, hR.code hH 0⟩
  unfold F_X5_hour
  rw [ub_3, ck_tt, zc_3, hg.1.2.2.2.1]
  rfl
theorem op_rate (hR : Rel H x b t sn h tx ln mo) (hH : H + 800 ≤ 900000) : ∃ v zm, F_X4_rate x b = some v ∧ F_X5_rate mo = some (v, zm) ∧ Rel (H + 800) x b t sn h tx ln zm := by
  obtain ⟨⟨S, rfl, hI, hg⟩, -⟩ := id hR
  refine ⟨_, _, rfl, ?_, hR.code hH 0⟩
  unfold F_X5_rate
  rw [ub_4, ck_tt, zc_4, hg.1.2.2.2.2.1]
  rfl
theorem op_till (hR : Rel H x b t sn h tx ln mo) (hH : H + 800 ≤ 900000) : ∃ v zm, F_X4_till x b = some v ∧ F_X5_till mo = some (v, zm) ∧ Rel (H + 800) x b t sn h tx ln zm := by
  obtain ⟨⟨S, rfl, hI, hg⟩, -⟩ := id hR
  refine ⟨_, _, rfl, ?_, hR.code hH 0⟩
  unfold F_X5_till
  rw [ub_5, ck_tt, zc_5, hg.1.2.2.2.2.2.1]
  rfl
theorem op_paidTolls (hR : Rel H x b t sn h tx ln mo) (hH : H + 800 ≤ 900000) : ∃ v zm, F_X4_paidTolls x b = some v ∧ F_X5_paidTolls mo = some (v, zm) ∧ Rel (H + 800) x b t sn h tx ln zm := by
  obtain ⟨⟨S, rfl, hI, hg⟩, -⟩ := id hR
  refine ⟨_, _, rfl, ?_, hR.code hH 0⟩
  unfold F_X5_paidTolls
  rw [ub_6, ck_tt, zc_6, hg.1.2.2.2.2.2.2.1]
  rfl
theorem op_crossed (hR : Rel H x b t sn h tx ln mo) (hH : H + 800 ≤ 900000) : ∃ v zm, F_X4_crossed x b = some v ∧ F_X5_crossed mo = some (v, zm) ∧ Rel (H + 800) x b t sn h tx ln zm := by
  obtain ⟨⟨S, rfl, hI, hg⟩, -⟩ := id hR
  refine ⟨_, _, rfl, ?_, hR.code hH 0⟩
  unfold F_X5_crossed
  rw [ub_7, ck_tt, zc_7, hg.1.2.2.2.2.2.2.2.1]
  rfl
theorem op_sunk (hR : Rel H x b t sn h tx ln mo) (hH : H + 800 ≤ 900000) : ∃ v zm, F_X4_sunk x b = some v ∧ F_X5_sunk mo = some (v, zm) ∧ Rel (H + 800) x b t sn h tx ln zm := by
  obtain ⟨⟨S, rfl, hI, hg⟩, -⟩ := id hR
  refine ⟨_, _, rfl, ?_, hR.code hH 0⟩
  unfold F_X5_sunk
  rw [ub_8, ck_tt, zc_8, hg.1.2.2.2.2.2.2.2.2]
  rfl
theorem span_c {S : Br} (hI : Iv H S) (hg : RG (M_g mo) S) (p : Int32) : (∃ k, k < s_n S ∧ p = nI k ∧ F_X4_requireSpan x (toB S) p = some (.inl ()) ∧ F_X5_isNone mo p = some (false, mF mo 0)) ∨ (F_X4_requireSpan x (toB S) p = some (.inr "java/lang/IndexOutOfBoundsException") ∧ F_X5_isNone mo p = some (true, mF mo 1)) := by
  have hn := hI.1.1
  have key : ∀ p : Int32, p < 0 ∨ nI (s_n S) ≤ p → F_X4_requireSpan x (toB S) p = some (.inr "java/lang/IndexOutOfBoundsException") ∧ F_X5_isNone mo p = some (true, mF mo 1) := by
    intro p hp
    refine ⟨?_, ?_⟩
    · unfold F_X4_requireSpan
      rw [hs_f hp, Option.bind_some, if_neg (show ¬ ¬ bi false = 0 by decide)]
    · unfold F_X5_isNone
      rw [m_isSpan_f hg hn hp, Option.bind_some, if_pos (show bi false = 0 by decide), fails_1, Option.bind_some]
  rcases pk_ix p (n := s_n S) (by omega) with hp | hp | ⟨k, hk, rfl⟩
  · exact Or.inr (key p (Or.inl hp))
  · exact Or.inr (key p (Or.inr hp))
  · refine Or.inl ⟨k, hk, rfl, ?_, ?_⟩
    · unfold F_X4_requireSpan
      rw [hs_t hk hn, Option.bind_some, if_pos bt1]
    · unfold F_X5_isNone
      rw [m_isSpan_t hg hn hk, Option.bind_some, if_neg bt1, fails_0, Option.bind_some]
theorem op_jars (hR : Rel H x b t sn h tx ln mo) (hH : H + 800 ≤ 900000) (p : Int32) : ∃ z zm, F_X4_jars x b p = some z ∧ F_X5_jars mo p = some zm ∧ R1 ["java/lang/IndexOutOfBoundsException"] z zm ∧ Rel (H + 800) x b t sn h tx ln zm.2 := by
  obtain ⟨⟨S, rfl, hI, hg⟩, -⟩ := id hR
  have hn := hI.1.1
  rcases span_c (x := x) hI hg p with ⟨k, hk, rfl, e1, e2⟩ | ⟨e1, e2⟩
  · refine ⟨.inl (nI (s_J S k)), (nI (s_J S k), mF mo 0), ?_, ?_, ⟨w_mF_code mo 0, rfl⟩, hR.F hH 0⟩
    · unfold F_X4_jars obx
      rw [e1, Option.bind_some]
      rw [Sum.elim_inl, inb_nI (by omega) (by omega), ck_tt, B_jars_to, nI_clamp (by omega), fI_a]
    · unfold F_X5_jars
      exact gb e2 (gp rfl (gb (of_J (S := S) (by rw [w_mF_g]; exact hg) hn hk) rfl))
  · refine ⟨.inr "java/lang/IndexOutOfBoundsException", (0, mF mo 1), ?_, ?_, ⟨?_, ?_⟩, hR.F hH 1⟩
    · unfold F_X4_jars obx
      rw [e1]; rfl
    · unfold F_X5_jars
      exact gb e2 (gn bt1 rfl)
    · rw [w_mF_code]; decide
    · rw [w_mF_code]; decide
theorem op_age (hR : Rel H x b t sn h tx ln mo) (hH : H + 800 ≤ 900000) (p : Int32) : ∃ z zm, F_X4_age x b p = some z ∧ F_X5_age mo p = some zm ∧ R1 ["java/lang/IndexOutOfBoundsException"] z zm ∧ Rel (H + 800) x b t sn h tx ln zm.2 := by
  obtain ⟨⟨S, rfl, hI, hg⟩, -⟩ := id hR
  have hn := hI.1.1
  rcases span_c (x := x) hI hg p with ⟨k, hk, rfl, e1, e2⟩ | ⟨e1, e2⟩
  · refine ⟨.inl (nI (s_A S k)), (nI (s_A S k), mF mo 0), ?_, ?_, ⟨w_mF_code mo 0, rfl⟩, hR.F hH 0⟩
    · unfold F_X4_age obx
      rw [e1, Option.bind_some]
      rw [Sum.elim_inl, inb_nI (by omega) (by omega), ck_tt, B_ages_to, nI_clamp (by omega), fI_a]
    · unfold F_X5_age
      exact gb e2 (gp rfl (gb (of_A (S := S) (by rw [w_mF_g]; exact hg) hn hk) rfl))
  · refine ⟨.inr "java/lang/IndexOutOfBoundsException", (0, mF mo 1), ?_, ?_, ⟨?_, ?_⟩, hR.F hH 1⟩
    · unfold F_X4_age obx
      rw [e1]; rfl
    · unfold F_X5_age
      exact gb e2 (gn bt1 rfl)
    · rw [w_mF_code]; decide
    · rw [w_mF_code]; decide
theorem op_cracks (hR : Rel H x b t sn h tx ln mo) (hH : H + 800 ≤ 900000) (p : Int32) : ∃ z zm, F_X4_cracks x b p = some z ∧ F_X5_cracks mo p = some zm ∧ R1 ["java/lang/IndexOutOfBoundsException"] z zm ∧ Rel (H + 800) x b t sn h tx ln zm.2 := by
  obtain ⟨⟨S, rfl, hI, hg⟩, -⟩ := id hR
  have hn := hI.1.1
  rcases span_c (x := x) hI hg p with ⟨k, hk, rfl, e1, e2⟩ | ⟨e1, e2⟩
  · refine ⟨.inl (nI (s_K S k)), (nI (s_K S k), mF mo 0), ?_, ?_, ⟨w_mF_code mo 0, rfl⟩, hR.F hH 0⟩
    · unfold F_X4_cracks obx
      rw [e1, Option.bind_some]
      rw [Sum.elim_inl, inb_nI (by omega) (by omega), ck_tt, B_cracks_to, nI_clamp (by omega), fI_a]
    · unfold F_X5_cracks
      exact gb e2 (gp rfl (gb (of_K (S := S) (by rw [w_mF_g]; exact hg) hn hk) rfl))
  · refine ⟨.inr "java/lang/IndexOutOfBoundsException", (0, mF mo 1), ?_, ?_, ⟨?_, ?_⟩, hR.F hH 1⟩
    · unfold F_X4_cracks obx
      rw [e1]; rfl
    · unfold F_X5_cracks
      exact gb e2 (gn bt1 rfl)
    · rw [w_mF_code]; decide
    · rw [w_mF_code]; decide
theorem op_stress (hR : Rel H x b t sn h tx ln mo) (hH : H + 800 ≤ 900000) (p : Int32) : ∃ z zm, F_X4_stress x b p = some z ∧ F_X5_stress mo p = some zm ∧ R1 ["java/lang/IndexOutOfBoundsException"] z zm ∧ Rel (H + 800) x b t sn h tx ln zm.2 := by
  obtain ⟨⟨S, rfl, hI, hg⟩, -⟩ := id hR
  have hn := hI.1.1
  rcases span_c (x := x) hI hg p with ⟨k, hk, rfl, e1, e2⟩ | ⟨e1, e2⟩
  · refine ⟨.inl (nI (s_T S k)), (nI (s_T S k), mF mo 0), ?_, ?_, ⟨w_mF_code mo 0, rfl⟩, hR.F hH 0⟩
    · unfold F_X4_stress obx
      rw [e1, Option.bind_some]
      rw [Sum.elim_inl, inb_nI (by omega) (by omega), ck_tt, B_stresses_to, nI_clamp (by omega), fI_a]
    · unfold F_X5_stress
      exact gb e2 (gp rfl (gb (of_T (S := S) (by rw [w_mF_g]; exact hg) hn hk) rfl))
  · refine ⟨.inr "java/lang/IndexOutOfBoundsException", (0, mF mo 1), ?_, ?_, ⟨?_, ?_⟩, hR.F hH 1⟩
    · unfold F_X4_stress obx
      rw [e1]; rfl
    · unfold F_X5_stress
      exact gb e2 (gn bt1 rfl)
    · rw [w_mF_code]; decide
    · rw [w_mF_code]; decide
theorem op_strength (hR : Rel H x b t sn h tx ln mo) (hH : H + 800 ≤ 900000) (p : Int32) : ∃ z zm, F_X4_strength x b p = some z ∧ F_X5_strength mo p = some zm ∧ R1 ["java/lang/IndexOutOfBoundsException"] z zm ∧ Rel (H + 800) x b t sn h tx ln zm.2 := by
  obtain ⟨⟨S, rfl, hI, hg⟩, -⟩ := id hR
  have hn := hI.1.1
  rcases span_c (x := x) hI hg p with ⟨k, hk, rfl, e1, e2⟩ | ⟨e1, e2⟩
  · refine ⟨.inl (nI (str S k)), (nI (str S k), mF mo 0), ?_, ?_, ⟨w_mF_code mo 0, rfl⟩, hR.F hH 0⟩
    · unfold F_X4_strength obx
      rw [e1, Option.bind_some]
      rw [Sum.elim_inl, c_str hI hk, Option.bind_some]
    · unfold F_X5_strength
      exact gb e2 (gp rfl (gb (m_strong (S := S) hI (by rw [w_mF_g]; exact hg) hk) rfl))
  · refine ⟨.inr "java/lang/IndexOutOfBoundsException", (0, mF mo 1), ?_, ?_, ⟨?_, ?_⟩, hR.F hH 1⟩
    · unfold F_X4_strength obx
      rw [e1]; rfl
    · unfold F_X5_strength
      exact gb e2 (gn bt1 rfl)
    · rw [w_mF_code]; decide
    · rw [w_mF_code]; decide
theorem op_load (hR : Rel H x b t sn h tx ln mo) (hH : H + 800 ≤ 900000) (p : Int32) : ∃ z zm, F_X4_load x b p = some z ∧ F_X5_load mo p = some zm ∧ R1 ["java/lang/IndexOutOfBoundsException"] z zm ∧ Rel (H + 800) x b t sn h tx ln zm.2 := by
  obtain ⟨⟨S, rfl, hI, hg⟩, -⟩ := id hR
  have hn := hI.1.1
  rcases span_c (x := x) hI hg p with ⟨k, hk, rfl, e1, e2⟩ | ⟨e1, e2⟩
  · refine ⟨.inl (nI (ld S k)), (nI (ld S k), mF mo 0), ?_, ?_, ⟨w_mF_code mo 0, rfl⟩, hR.F hH 0⟩
    · unfold F_X4_load obx
      rw [e1, Option.bind_some]
      rw [Sum.elim_inl, c_ld hI (by omega), Option.bind_some]
    · unfold F_X5_load
      exact gb e2 (gp rfl (gb (m_loaded (S := S) hI (by rw [w_mF_g]; exact hg) (by omega)) rfl))
  · refine ⟨.inr "java/lang/IndexOutOfBoundsException", (0, mF mo 1), ?_, ?_, ⟨?_, ?_⟩, hR.F hH 1⟩
    · unfold F_X4_load obx
      rw [e1]; rfl
    · unfold F_X5_load
      exact gb e2 (gn bt1 rfl)
    · rw [w_mF_code]; decide
    · rw [w_mF_code]; decide
end OPS
