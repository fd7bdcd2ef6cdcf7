section EXEC
variable {sg : Nat → Int32} {c : Nat → Nat} {l : Nat} {mo : Mv}
theorem cmd_all {p m : Nat} {kd ft sd td : Nat → Int32} (hsg : ∀ i, i < l → sg i = nI (c i) ∧ c i < 65536) (hin : M_length mo = nI l ∧ ∀ i, i < l → M_input mo i = nI (c i)) (hl : l ≤ 60) (hp : p ≤ l) (hm : m ≤ 15) : CMB sg c l mo p m kd ft sd td := by
  have no : (¬ p < l ∨ (c p ≠ 99 ∧ c p ≠ 101 ∧ c p ≠ 109 ∧ c p ≠ 112 ∧ c p ≠ 114 ∧ c p ≠ 115 ∧ c p ≠ 119)) → CMB sg c l mo p m kd ft sd td := by
    intro h
    have hk : F_X3_kindHere (tT sg l p kd ft sd m) = some (-1) := by
      unfold F_X3_kindHere tT
      (try rw [T_position_mk]); (try rw [T_length_mk]); (try rw [T_signs_mk])
      by_cases h1 : p < l
      · obtain ⟨k1, k2, k3, k4, k5, k6, k7⟩ := h.resolve_left (fun z => z h1)
        obtain ⟨s1, s2⟩ := hsg p h1
        have ne : ∀ a : Nat, a < 65536 → c p ≠ a → ¬ nI (c p) = nI a := fun a ha h z => h ((nI_eq (by omega) (by omega)).mp z)
        rw [if_pos (nI_lt h1 (by omega)), inb_nI (by omega) (by omega), ck_tt, nI_clamp (by omega), s1]
        exact gn (ne 99 (by decide) k1) (gn (ne 101 (by decide) k2) (gn (ne 109 (by decide) k3) (gn (ne 112 (by decide) k4) (gn (ne 114 (by decide) k5) (gn (ne 115 (by decide) k6) (gn (ne 119 (by decide) k7) rfl))))))
      · rw [if_neg (nI_nlt (by omega) (by omega))]
    refine ⟨false, p, kd, ft, sd, td, ?_, ?_, hp, fun z => by cases z⟩
    · unfold F_X3_readCommand
      exact gb hk (gp rfl rfl)
    · unfold F_X5_commandHere
      refine gb (m_here hin hl hp) ?_
      by_cases h1 : p < l
      · obtain ⟨k1, k2, k3, k4, k5, k6, k7⟩ := h.resolve_left (fun z => z h1)
        obtain ⟨s1, s2⟩ := hsg p h1
        have ne : ∀ a : Nat, a < 65536 → c p ≠ a → ¬ nI (c p) = nI a := fun a ha h z => h ((nI_eq (by omega) (by omega)).mp z)
        rw [if_pos h1]
        exact gn (ne 99 (by decide) k1) (gn (ne 101 (by decide) k2) (gn (ne 109 (by decide) k3) (gn (ne 112 (by decide) k4) (gn (ne 114 (by decide) k5) (gn (ne 115 (by decide) k6) (gn (ne 119 (by decide) k7) rfl))))))
      · rw [if_neg h1]
        exact gn (by decide) (gn (by decide) (gn (by decide) (gn (by decide) (gn (by decide) (gn (by decide) (gn (by decide) rfl))))))
  by_cases h1 : p < l
  · by_cases k0 : c p = 115
    · exact cmd_0 hsg hin hl h1 hm k0
    by_cases k1 : c p = 112
    · exact cmd_1 hsg hin hl h1 hm k1
    by_cases k2 : c p = 101
    · exact cmd_2 hsg hin hl h1 hm k2
    by_cases k3 : c p = 109
    · exact cmd_3 hsg hin hl h1 hm k3
    by_cases k4 : c p = 114
    · exact cmd_4 hsg hin hl h1 hm k4
    by_cases k5 : c p = 119
    · exact cmd_5 hsg hin hl h1 hm k5
    by_cases k6 : c p = 99
    · exact cmd_6 hsg hin hl h1 hm k6
    exact no (Or.inr ⟨k6, k2, k3, k1, k4, k0, k5⟩)
  · exact no (Or.inl h1)
theorem KR_keep {kd ft sd td kd' ft' sd' td' : Nat → Int32} {i : Nat} (h : KR kd ft sd td i) (e : kd' i = kd i ∧ ft' i = ft i ∧ sd' i = sd i ∧ td' (3 * i) = td (3 * i) ∧ td' (3 * i + 1) = td (3 * i + 1) ∧ td' (3 * i + 2) = td (3 * i + 2)) : KR kd' ft' sd' td' i := by
  obtain ⟨k, h1, h2, h3, h4, h5⟩ := h
  obtain ⟨e1, e2, e3, e4, e5, e6⟩ := e
  exact ⟨k, h1, e1.trans h2, e4.trans h3, fun z => (e5.trans (h4 z)).trans e2.symm, fun z => (e6.trans (h5 z)).trans e3.symm⟩
theorem mP_many (x : Mv) (a : Int32) (td : Nat → Int32) (n n2 : Int32) : m_toldMany (mP x a td n) n2 = mP x a td n2 := by
  unfold mP m_toldMany
  simp only [M_g_mk, M_kept_mk, M_saved_mk, M_before_mk, M_trial_mk, M_counted_mk, M_isSaved_mk, M_changes_mk, M_isWithin_mk, M_isDenied_mk, M_code_mk, M_why_mk, M_detail_mk, M_cause_mk, M_input_mk, M_length_mk, M_fault_mk, M_signs_mk, M_signMany_mk, M_lastOver_mk, M_at_mk, M_told_mk, M_toldMany_mk]
theorem text_L : ∀ (r fu fu2 p m : Nat) (kd ft sd td : Nat → Int32), (∀ i, i < l → sg i = nI (c i) ∧ c i < 65536) → (M_length mo = nI l ∧ ∀ i, i < l → M_input mo i = nI (c i)) → l ≤ 60 → p ≤ l → l - p ≤ r → r + 1 < fu → r + 1 < fu2 → 1 ≤ m → 4 * m ≤ p + 1 → (∀ i, i < m → KR kd ft sd td i) →
    ∃ ok p' m' kd' ft' sd' td', F_X3_parse_L17 (fun b4 x5 _ => ck (isb x5) (some (tob x5, b4))) fu (tT sg l p kd ft sd m) 1 (nI m) = some (ok, tT sg l p' kd' ft' sd' m') ∧ ((F_X5_skips (mP mo (nI p) td (nI m)) 59).bind (fun z2 => if ¬ (bi z2.1) = 0 then F_X5_isText_L10 (fun b3 => if ¬ (M_at b3) = (M_length b3) then some (false, b3) else some (true, b3)) fu2 z2.2 else (fun b3 => if ¬ (M_at b3) = (M_length b3) then some (false, b3) else some (true, b3)) z2.2)) = some (ok, mP mo (nI p') td' (nI m')) ∧ p' ≤ l ∧ (ok = true → m' ≤ 15 ∧ ∀ i, i < m' → KR kd' ft' sd' td' i) := by
  intro r
  induction r with
  | zero =>
    intro fu fu2 p m kd ft sd td hsg hin hl hp hr hf1 hf2 hm1 hm2 hK
    obtain ⟨fu, rfl⟩ : ∃ f2, fu = f2 + 1 := ⟨fu - 1, by omega⟩
    have hcc : ∀ i, i < l → c i < 65536 := fun i hi => (hsg i hi).2
    refine ⟨true, p, m, kd, ft, sd, td, ?_, ?_, hp, fun _ => ⟨by omega, hK⟩⟩
    · unfold F_X3_parse_L17 tT
      (try rw [T_position_mk]); (try rw [T_length_mk])
      rw [if_neg (show ¬ (60 : Int32) ≤ nI m from (show ¬ nI 60 ≤ nI m from nI_ge (by omega) (by omega))), if_neg (by decide), if_pos (nI_le (by omega) (by omega))]
      rfl
    · rw [show F_X5_skips (mP mo (nI p) td (nI m)) 59 = F_X5_skips (mP mo (nI p) td (nI m)) (nI 59) from rfl, m_skip hin hcc hl hp (by omega), if_neg (fun z => by omega), Option.bind_some]
      refine gn (fun z => z rfl) (gn ?_ rfl)
      rw [w_mP_at, w_mP_length, hin.1]
      exact fun z => z (congrArg nI (by omega))
  | succ r ih =>
    intro fu fu2 p m kd ft sd td hsg hin hl hp hr hf1 hf2 hm1 hm2 hK
    obtain ⟨fu, rfl⟩ : ∃ f2, fu = f2 + 1 := ⟨fu - 1, by omega⟩
    obtain ⟨fu2, rfl⟩ : ∃ f2, fu2 = f2 + 1 := ⟨fu2 - 1, by omega⟩
    have hcc : ∀ i, i < l → c i < 65536 := fun i hi => (hsg i hi).2
    have e60 : ¬ (60 : Int32) ≤ nI m := (show ¬ nI 60 ≤ nI m from nI_ge (by omega) (by omega))
    have stop : ∀ (fu3 : Nat) (tx : Tv), F_X3_parse_L17 (fun b4 x5 _ => ck (isb x5) (some (tob x5, b4))) (fu3 + 1) tx 0 (nI (m + 1)) = some (false, tx) := by
      intro fu3 tx
      unfold F_X3_parse_L17
      by_cases q : (60 : Int32) ≤ nI (m + 1)
      · rw [if_pos q]; rfl
      · rw [if_neg q, if_pos rfl]; rfl
    by_cases h1 : p < l
    · by_cases h2 : c p = 59
      · obtain ⟨ok, p', kd', ft', sd', td', q1, q2, q3, q4⟩ := cmd_all (kd := kd) (ft := ft) (sd := sd) (td := td) hsg hin hl (show p + 1 ≤ l by omega) (show m ≤ 15 by omega)
        have eC : F_X3_parse_L17 (fun b4 x5 _ => ck (isb x5) (some (tob x5, b4))) (fu + 1) (tT sg l p kd ft sd m) 1 (nI m) = (F_X3_readCommand (tT sg l (p + 1) kd ft sd m)).bind (fun z3 => if (bi z3.1) = 0 then F_X3_parse_L17 (fun b4 x5 _ => ck (isb x5) (some (tob x5, b4))) fu z3.2 0 (nI (m + 1)) else F_X3_parse_L17 (fun b4 x5 _ => ck (isb x5) (some (tob x5, b4))) fu z3.2 1 (nI (m + 1))) := by
          conv => lhs; unfold F_X3_parse_L17
          rw [if_neg e60, if_neg (by decide)]
          refine gn (show ¬ T_length (tT sg l p kd ft sd m) ≤ T_position (tT sg l p kd ft sd m) from nI_ge h1 (by omega)) ?_
          rw [show F_X3_readSign (tT sg l p kd ft sd m) 59 = F_X3_readSign (tT sg l p kd ft sd m) (nI 59) from rfl, c_sign hsg hl hp (by omega), if_pos ⟨h1, h2⟩, Option.bind_some, add1]
          exact gn bt1 rfl
        have eM : ((F_X5_skips (mP mo (nI p) td (nI m)) 59).bind (fun z2 => if ¬ (bi z2.1) = 0 then F_X5_isText_L10 (fun b3 => if ¬ (M_at b3) = (M_length b3) then some (false, b3) else some (true, b3)) (fu2 + 1) z2.2 else (fun b3 => if ¬ (M_at b3) = (M_length b3) then some (false, b3) else some (true, b3)) z2.2)) = (F_X5_commandHere (mP mo (nI (p + 1)) td (nI m))).bind (fun z1 => if ¬ (bi z1.1) = 0 then (F_X5_skips (mkM (M_g z1.2) (M_kept z1.2) (M_saved z1.2) (M_before z1.2) (M_trial z1.2) (M_counted z1.2) (M_isSaved z1.2) (M_changes z1.2) (M_isWithin z1.2) (M_isDenied z1.2) (M_code z1.2) (M_why z1.2) (M_detail z1.2) (M_cause z1.2) (M_input z1.2) (M_length z1.2) (M_fault z1.2) (M_signs z1.2) (M_signMany z1.2) (M_lastOver z1.2) (M_at z1.2) (M_told z1.2) ((M_toldMany z1.2) + 1)) 59).bind (fun z2 => if ¬ (bi z2.1) = 0 then F_X5_isText_L10 (fun b3 => if ¬ (M_at b3) = (M_length b3) then some (false, b3) else some (true, b3)) fu2 z2.2 else (fun b3 => if ¬ (M_at b3) = (M_length b3) then some (false, b3) else some (true, b3)) z2.2) else some (false, z1.2)) := by
          rw [show F_X5_skips (mP mo (nI p) td (nI m)) 59 = F_X5_skips (mP mo (nI p) td (nI m)) (nI 59) from rfl, m_skip hin hcc hl hp (by omega), if_pos ⟨h1, h2⟩, Option.bind_some]
          refine gp bt1 ?_
          conv => lhs; unfold F_X5_isText_L10
        rw [eC, eM, q1, q2, Option.bind_some, Option.bind_some]
        cases ok with
        | false =>
          obtain ⟨fu, rfl⟩ : ∃ f2, fu = f2 + 1 := ⟨fu - 1, by omega⟩
          refine ⟨false, p', m, kd', ft', sd', td', ?_, ?_, q3, fun z => by cases z⟩
          · refine gp rfl ((stop _ _).trans rfl)
          · exact gn (fun z => z rfl) rfl
        | true =>
          obtain ⟨k1, k2, k3⟩ := q4 rfl
          obtain ⟨ok2, p2, m2, kd2, ft2, sd2, td2, w1, w2, w3, w4⟩ := ih fu fu2 p' (m + 1) kd' ft' sd' td' hsg hin hl q3 (by omega) (by omega) (by omega) (by omega) (by omega) (by
            intro i hi
            by_cases e : i = m
            · subst e; exact k2
            · exact KR_keep (hK i (by omega)) (k3 i (by omega)))
          refine ⟨ok2, p2, m2, kd2, ft2, sd2, td2, ?_, ?_, w3, w4⟩
          · exact gn bt1 w1
          · refine gp bt1 ?_
            have e0 := mkM_toldMany (mP mo (nI p') td' (nI m)) (nI (m + 1))
            rw [mP_many] at e0
            show (F_X5_skips (mkM _ _ _ _ _ _ _ _ _ _ _ _ _ _ _ _ _ _ _ _ _ _ (M_toldMany (mP mo (nI p') td' (nI m)) + 1)) 59).bind _ = _
            rw [w_mP_toldMany, add1, e0]
            exact w2
      · refine ⟨false, p, m, kd, ft, sd, td, ?_, ?_, hp, fun z => by cases z⟩
        · obtain ⟨fu, rfl⟩ : ∃ f2, fu = f2 + 1 := ⟨fu - 1, by omega⟩
          conv => lhs; unfold F_X3_parse_L17
          rw [if_neg e60, if_neg (by decide)]
          refine gn (show ¬ T_length (tT sg l p kd ft sd m) ≤ T_position (tT sg l p kd ft sd m) from nI_ge h1 (by omega)) ?_
          rw [show F_X3_readSign (tT sg l p kd ft sd m) 59 = F_X3_readSign (tT sg l p kd ft sd m) (nI 59) from rfl, c_sign hsg hl hp (by omega), if_neg (fun z => h2 z.2), Option.bind_some, add1]
          exact gp rfl (stop _ _)
        · rw [show F_X5_skips (mP mo (nI p) td (nI m)) 59 = F_X5_skips (mP mo (nI p) td (nI m)) (nI 59) from rfl, m_skip hin hcc hl hp (by omega), if_neg (fun z => h2 z.2), Option.bind_some]
          refine gn (fun z => z rfl) (gp ?_ rfl)
          rw [w_mP_at, w_mP_length, hin.1]
          exact fun z => absurd ((nI_eq (by omega) (by omega)).mp z) (by omega)
    · refine ⟨true, p, m, kd, ft, sd, td, ?_, ?_, hp, fun _ => ⟨by omega, hK⟩⟩
      · unfold F_X3_parse_L17
        rw [if_neg e60, if_neg (by decide)]
        exact gp (show T_length (tT sg l p kd ft sd m) ≤ T_position (tT sg l p kd ft sd m) from nI_le (by omega) (by omega)) rfl
      · rw [show F_X5_skips (mP mo (nI p) td (nI m)) 59 = F_X5_skips (mP mo (nI p) td (nI m)) (nI 59) from rfl, m_skip hin hcc hl hp (by omega), if_neg (fun z => h1 z.1), Option.bind_some]
        refine gn (fun z => z rfl) (gn ?_ rfl)
        rw [w_mP_at, w_mP_length, hin.1]
        exact fun z => z (congrArg nI (by omega))
theorem text_c {tx : Tv} (hT : T_length tx = nI l ∧ ∀ i, i < l → T_signs tx i = nI (c i) ∧ c i < 65536) (hin : M_length mo = nI l ∧ ∀ i, i < l → M_input mo i = nI (c i)) (hl : l ≤ 60) : ∃ ok p' m' kd' ft' sd' td', F_X3_parse tx = some (ok, tT (T_signs tx) l p' kd' ft' sd' m') ∧ F_X5_isText mo = some (ok, mP mo (nI p') td' (nI m')) ∧ p' ≤ l ∧ (ok = true → m' ≤ 15 ∧ ∀ i, i < m' → KR kd' ft' sd' td' i) := by
  obtain ⟨ok, p', kd', ft', sd', td', q1, q2, q3, q4⟩ := cmd_all (sg := T_signs tx) (mo := mo) (p := 0) (m := 0) (kd := T_kinds tx) (ft := T_firsts tx) (sd := T_seconds tx) (td := M_told mo) hT.2 hin hl (Nat.zero_le _) (by omega)
  have eC : F_X3_parse tx = (F_X3_readCommand (tT (T_signs tx) l 0 (T_kinds tx) (T_firsts tx) (T_seconds tx) 0)).bind (fun z1 => F_X3_parse_L17 (fun b4 x5 _ => ck (isb x5) (some (tob x5, b4))) 1000 z1.2 (bi z1.1) 1) := by
    unfold F_X3_parse tT
    rw [hT.1]; rfl
  have eM : F_X5_isText mo = (F_X5_commandHere (mP mo (nI 0) (M_told mo) (nI 0))).bind (fun z1 => if ¬ (bi z1.1) = 0 then (F_X5_skips (mkM (M_g z1.2) (M_kept z1.2) (M_saved z1.2) (M_before z1.2) (M_trial z1.2) (M_counted z1.2) (M_isSaved z1.2) (M_changes z1.2) (M_isWithin z1.2) (M_isDenied z1.2) (M_code z1.2) (M_why z1.2) (M_detail z1.2) (M_cause z1.2) (M_input z1.2) (M_length z1.2) (M_fault z1.2) (M_signs z1.2) (M_signMany z1.2) (M_lastOver z1.2) (M_at z1.2) (M_told z1.2) ((M_toldMany z1.2) + 1)) 59).bind (fun z2 => if ¬ (bi z2.1) = 0 then F_X5_isText_L10 (fun b3 => if ¬ (M_at b3) = (M_length b3) then some (false, b3) else some (true, b3)) 999 z2.2 else (fun b3 => if ¬ (M_at b3) = (M_length b3) then some (false, b3) else some (true, b3)) z2.2) else some (false, z1.2)) := by
    unfold F_X5_isText
    conv => lhs; unfold F_X5_isText_L10
    rfl
  rw [eC, eM, q1, q2, Option.bind_some, Option.bind_some]
  cases ok with
  | false =>
    refine ⟨false, p', 0, kd', ft', sd', td', ?_, ?_, q3, fun z => by cases z⟩
    · show F_X3_parse_L17 _ (999 + 1) _ 0 1 = _
      unfold F_X3_parse_L17
      exact gn (by decide) (gp rfl rfl)
    · exact gn (fun z => z rfl) rfl
  | true =>
    obtain ⟨k1, k2, k3⟩ := q4 rfl
    obtain ⟨ok2, p2, m2, kd2, ft2, sd2, td2, w1, w2, w3, w4⟩ := text_L (mo := mo) 60 1000 999 p' 1 kd' ft' sd' td' hT.2 hin hl q3 (by omega) (by omega) (by omega) (by omega) (by omega) (by
      intro i hi
      have : i = 0 := by omega
      subst this
      exact k2)
    refine ⟨ok2, p2, m2, kd2, ft2, sd2, td2, ?_, ?_, w3, w4⟩
    · exact w1
    · refine gp bt1 ?_
      have e0 := mkM_toldMany (mP mo (nI p') td' (nI 0)) (nI (0 + 1))
      rw [mP_many] at e0
      show (F_X5_skips (mkM _ _ _ _ _ _ _ _ _ _ _ _ _ _ _ _ _ _ _ _ _ _ (M_toldMany (mP mo (nI p') td' (nI 0)) + 1)) 59).bind _ = _
      rw [w_mP_toldMany, add1, e0]
      exact w2
/-! a text's commands are carried out -/
theorem bind_pr {α β : Type} (o : Option (α × β)) : o.bind (fun z => some (z.1, z.2)) = o := by
  cases o with
  | none => rfl
  | some z => rfl
theorem kinds_all {H : Nat} {S : Br} (hI : Iv H S) (hH : H + 48 ≤ 900000) {k : Nat} (hk : k < 7) (p q : Int32) : ∃ C M cI cA cU, CH H S (nI k) p q C M cI cA cU ∧ (∀ b, F_X0_carryOut b (nI k) p q = (C b).bind (fun z => some z.2)) ∧ (∀ e, e = cI ∨ e = cA ∨ e = cU → ¬ e = 0 → ¬ e ≤ 0) ∧ ∀ (m2 : Mv) (i : Nat), i ≤ 15 → M_told m2 (3 * i) = nI ([115, 112, 101, 109, 114, 119, 99].getD k 0) → (k ≠ 6 → M_told m2 (3 * i + 1) = p) → ((k = 1 ∨ k = 3) → M_told m2 (3 * i + 2) = q) → F_X5_carries m2 (nI (3 * i)) = M m2 := by
  have hcar : ∀ (m2 : Mv) (i : Nat), i ≤ 15 → ∀ r, (if (M_told m2 (3 * i)) = 101 then (F_X5_enter m2 (M_told m2 (3 * i + 1))).bind (fun z1 => some (z1.1, z1.2)) else if (M_told m2 (3 * i)) = 109 then (F_X5_mend m2 (M_told m2 (3 * i + 1)) (M_told m2 (3 * i + 2))).bind (fun z2 => some (z2.1, z2.2)) else if (M_told m2 (3 * i)) = 112 then (F_X5_pour m2 (M_told m2 (3 * i + 1)) (M_told m2 (3 * i + 2))).bind (fun z3 => some (z3.1, z3.2)) else if (M_told m2 (3 * i)) = 114 then (F_X5_setRate m2 (M_told m2 (3 * i + 1))).bind (fun z4 => some (z4.1, z4.2)) else if (M_told m2 (3 * i)) = 115 then (F_X5_addSpan m2 (M_told m2 (3 * i + 1))).bind (fun z5 => some (z5.1, z5.2)) else if (M_told m2 (3 * i)) = 119 then (F_X5_pass m2 (M_told m2 (3 * i + 1))).bind (fun z6 => some (z6.1, z6.2)) else (F_X5_removeLastSpan m2).bind (fun z7 => some (z7.1, z7.2))) = r → F_X5_carries m2 (nI (3 * i)) = r := by
    intro m2 i hi r hr
    unfold F_X5_carries
    rw [show nI (3 * i) + 1 = nI (3 * i + 1) from add1 _, show nI (3 * i) + 2 = nI (3 * i + 2) from nI_add _ 2]
    refine gk (inb_nI (by omega) (by omega)) (gk (inb_nI (by omega) (by omega)) (gk (inb_nI (by omega) (by omega)) ?_))
    rw [nI_clamp (by omega), nI_clamp (by omega), nI_clamp (by omega)]
    exact hr
  match k, hk with
  | 0, _ =>
    refine ⟨_, _, _, _, _, CH_add hI hH p q, fun b => rfl, fun e he h0 => ?_, fun m2 i hi h1 h2 h3 => hcar m2 i hi _ ?_⟩
    · rcases he with rfl | rfl | rfl <;> first | exact absurd rfl h0 | decide
    · rw [h1, h2 (by decide)]
      exact gn (by decide) (gn (by decide) (gn (by decide) (gn (by decide) (gp rfl (bind_pr _)))))
  | 1, _ =>
    refine ⟨_, _, _, _, _, CH_pou hI hH p q, fun b => rfl, fun e he h0 => ?_, fun m2 i hi h1 h2 h3 => hcar m2 i hi _ ?_⟩
    · rcases he with rfl | rfl | rfl <;> first | exact absurd rfl h0 | decide
    · rw [h1, h2 (by decide), h3 (by decide)]
      exact gn (by decide) (gn (by decide) (gp rfl (bind_pr _)))
  | 2, _ =>
    refine ⟨_, _, _, _, _, CH_ent hI hH p q, fun b => rfl, fun e he h0 => ?_, fun m2 i hi h1 h2 h3 => hcar m2 i hi _ ?_⟩
    · rcases he with rfl | rfl | rfl <;> first | exact absurd rfl h0 | decide
    · rw [h1, h2 (by decide)]
      exact gp rfl (bind_pr _)
  | 3, _ =>
    refine ⟨_, _, _, _, _, CH_men hI hH p q, fun b => rfl, fun e he h0 => ?_, fun m2 i hi h1 h2 h3 => hcar m2 i hi _ ?_⟩
    · rcases he with rfl | rfl | rfl <;> first | exact absurd rfl h0 | decide
    · rw [h1, h2 (by decide), h3 (by decide)]
      exact gn (by decide) (gp rfl (bind_pr _))
  | 4, _ =>
    refine ⟨_, _, _, _, _, CH_rate hI hH p q, fun b => rfl, fun e he h0 => ?_, fun m2 i hi h1 h2 h3 => hcar m2 i hi _ ?_⟩
    · rcases he with rfl | rfl | rfl <;> first | exact absurd rfl h0 | decide
    · rw [h1, h2 (by decide)]
      exact gn (by decide) (gn (by decide) (gn (by decide) (gp rfl (bind_pr _))))
  | 5, _ =>
    refine ⟨_, _, _, _, _, CH_pas hI hH p q, fun b => rfl, fun e he h0 => ?_, fun m2 i hi h1 h2 h3 => hcar m2 i hi _ ?_⟩
    · rcases he with rfl | rfl | rfl <;> first | exact absurd rfl h0 | decide
    · rw [h1, h2 (by decide)]
      exact gn (by decide) (gn (by decide) (gn (by decide) (gn (by decide) (gn (by decide) (gp rfl (bind_pr _))))))
  | 6, _ =>
    refine ⟨_, _, _, _, _, CH_rem hI hH p q, fun b => rfl, fun e he h0 => ?_, fun m2 i hi h1 h2 h3 => hcar m2 i hi _ ?_⟩
    · rcases he with rfl | rfl | rfl <;> first | exact absurd rfl h0 | decide
    · rw [h1]
      exact gn (by decide) (gn (by decide) (gn (by decide) (gn (by decide) (gn (by decide) (gn (by decide) (bind_pr _))))))
  | j + 7, h => exact absurd h (by omega)
def mE (x : Mv) (g : Nat → Int32) (lo : Int32) (ct : Nat → Int32) (d : Int32) : Mv := mkM (g) (M_kept x) (M_saved x) (M_before x) (M_trial x) (ct) (M_isSaved x) (M_changes x) (M_isWithin x) (d) (0) (M_why x) (M_detail x) (M_cause x) (M_input x) (M_length x) (M_fault x) (M_signs x) (M_signMany x) (lo) (M_at x) (M_told x) (M_toldMany x)
theorem w_mE_g (x : Mv) (g : Nat → Int32) (lo : Int32) (ct : Nat → Int32) (d : Int32) : M_g (mE x g lo ct d) = g := rfl
theorem w_mE_kept (x : Mv) (g : Nat → Int32) (lo : Int32) (ct : Nat → Int32) (d : Int32) : M_kept (mE x g lo ct d) = M_kept x := rfl
theorem w_mE_saved (x : Mv) (g : Nat → Int32) (lo : Int32) (ct : Nat → Int32) (d : Int32) : M_saved (mE x g lo ct d) = M_saved x := rfl
theorem w_mE_before (x : Mv) (g : Nat → Int32) (lo : Int32) (ct : Nat → Int32) (d : Int32) : M_before (mE x g lo ct d) = M_before x := rfl
theorem w_mE_trial (x : Mv) (g : Nat → Int32) (lo : Int32) (ct : Nat → Int32) (d : Int32) : M_trial (mE x g lo ct d) = M_trial x := rfl
theorem w_mE_counted (x : Mv) (g : Nat → Int32) (lo : Int32) (ct : Nat → Int32) (d : Int32) : M_counted (mE x g lo ct d) = ct := rfl
theorem w_mE_isSaved (x : Mv) (g : Nat → Int32) (lo : Int32) (ct : Nat → Int32) (d : Int32) : M_isSaved (mE x g lo ct d) = M_isSaved x := rfl
theorem w_mE_changes (x : Mv) (g : Nat → Int32) (lo : Int32) (ct : Nat → Int32) (d : Int32) : M_changes (mE x g lo ct d) = M_changes x := rfl
theorem w_mE_isWithin (x : Mv) (g : Nat → Int32) (lo : Int32) (ct : Nat → Int32) (d : Int32) : M_isWithin (mE x g lo ct d) = M_isWithin x := rfl
theorem w_mE_isDenied (x : Mv) (g : Nat → Int32) (lo : Int32) (ct : Nat → Int32) (d : Int32) : M_isDenied (mE x g lo ct d) = d := rfl
theorem w_mE_code (x : Mv) (g : Nat → Int32) (lo : Int32) (ct : Nat → Int32) (d : Int32) : M_code (mE x g lo ct d) = 0 := rfl
theorem w_mE_why (x : Mv) (g : Nat → Int32) (lo : Int32) (ct : Nat → Int32) (d : Int32) : M_why (mE x g lo ct d) = M_why x := rfl
theorem w_mE_detail (x : Mv) (g : Nat → Int32) (lo : Int32) (ct : Nat → Int32) (d : Int32) : M_detail (mE x g lo ct d) = M_detail x := rfl
theorem w_mE_cause (x : Mv) (g : Nat → Int32) (lo : Int32) (ct : Nat → Int32) (d : Int32) : M_cause (mE x g lo ct d) = M_cause x := rfl
theorem w_mE_input (x : Mv) (g : Nat → Int32) (lo : Int32) (ct : Nat → Int32) (d : Int32) : M_input (mE x g lo ct d) = M_input x := rfl
theorem w_mE_length (x : Mv) (g : Nat → Int32) (lo : Int32) (ct : Nat → Int32) (d : Int32) : M_length (mE x g lo ct d) = M_length x := rfl
theorem w_mE_fault (x : Mv) (g : Nat → Int32) (lo : Int32) (ct : Nat → Int32) (d : Int32) : M_fault (mE x g lo ct d) = M_fault x := rfl
theorem w_mE_signs (x : Mv) (g : Nat → Int32) (lo : Int32) (ct : Nat → Int32) (d : Int32) : M_signs (mE x g lo ct d) = M_signs x := rfl
theorem w_mE_signMany (x : Mv) (g : Nat → Int32) (lo : Int32) (ct : Nat → Int32) (d : Int32) : M_signMany (mE x g lo ct d) = M_signMany x := rfl
theorem w_mE_lastOver (x : Mv) (g : Nat → Int32) (lo : Int32) (ct : Nat → Int32) (d : Int32) : M_lastOver (mE x g lo ct d) = lo := rfl
theorem w_mE_at (x : Mv) (g : Nat → Int32) (lo : Int32) (ct : Nat → Int32) (d : Int32) : M_at (mE x g lo ct d) = M_at x := rfl
theorem w_mE_told (x : Mv) (g : Nat → Int32) (lo : Int32) (ct : Nat → Int32) (d : Int32) : M_told (mE x g lo ct d) = M_told x := rfl
theorem w_mE_toldMany (x : Mv) (g : Nat → Int32) (lo : Int32) (ct : Nat → Int32) (d : Int32) : M_toldMany (mE x g lo ct d) = M_toldMany x := rfl
theorem mE_K (E : Mv) (g g2 : Nat → Int32) (lo lo2 : Int32) (ct ct2 : Nat → Int32) (d d2 : Int32) : mK (mE E g lo ct d) (M_kept (mE E g lo ct d)) (M_changes (mE E g lo ct d)) d2 g2 lo2 ct2 = mE E g2 lo2 ct2 d2 := by
  unfold mK
  simp only [w_mE_g, w_mE_kept, w_mE_saved, w_mE_before, w_mE_trial, w_mE_counted, w_mE_isSaved, w_mE_changes, w_mE_isWithin, w_mE_isDenied, w_mE_code, w_mE_why, w_mE_detail, w_mE_cause, w_mE_input, w_mE_length, w_mE_fault, w_mE_signs, w_mE_signMany, w_mE_lastOver, w_mE_at, w_mE_told, w_mE_toldMany]
  rfl
theorem exe_L {E : Mv} {m : Nat} {td : Nat → Int32} {x : Xv} {b : Bv} {h : Hv} {p' : Nat} {kd ft sd : Nat → Int32} (hW : ¬ M_isWithin E = 0) (hTd : M_told E = td) (hTm : M_toldMany E = nI m) (hm : m ≤ 15) (hK : ∀ i, i < m → KR kd ft sd td i) (Kc : Xv → Bv → Bv → Hv → Jv → Tv → Int32 → Option ((Int32 × Xv × Bv × Bv × Hv × Jv × Tv) ⊕ (String × Xv × Bv × Bv × Hv × Jv × Tv))) (Km : Mv → Int32 → Int32 → Option (Int32 × Mv)) :
    ∀ (r fu fu2 i H : Nat) (S : Br) (g ct : Nat → Int32) (lo d x3 : Int32) (j : Jv), Iv H S → H + 48 * r ≤ 900000 → RG g S → i + r = m → r < fu → r + 1 < fu2 →
    (∃ S' g' lo' ct' d' j' v, F_X4_execute_L54 Kc fu x b (toB S) h j (tT sg 0 p' kd ft sd m) (nI i) = Kc x b (toB S') h j' (tT sg 0 p' kd ft sd m) (nI m) ∧ F_X5_execute_L62 Km fu2 (mE E g lo ct d) (nI i) x3 = Km (mE E g' lo' ct' d') (nI m) v ∧ Iv (H + 48 * r) S' ∧ RG g' S') ∨
    (∃ i' S' j' u g' lo' ct' d', i' < m ∧ F_X4_execute_L54 Kc fu x b (toB S) h j (tT sg 0 p' kd ft sd m) (nI i) = some (.inr ("java/lang/UnsupportedOperationException", mkX (X_snapshotSaved x) (X_faultKept x) 8 (nI i') u, b, toB S', h, j', tT sg 0 p' kd ft sd m)) ∧
      ((∃ e, ¬ e ≤ 0 ∧ u = 9 ∧ F_X5_execute_L62 Km fu2 (mE E g lo ct d) (nI i) x3 = Km (mF (mE E g' lo' ct' d') e) (nI i') 0) ∨ (∃ e dt, ¬ e ≤ 0 ∧ F_X5_execute_L62 Km fu2 (mE E g lo ct d) (nI i) x3 = Km (mDn (mE E g' lo' ct' d') e u dt) (nI i') 0))) := by
  intro r
  induction r with
  | zero =>
    intro fu fu2 i H S g ct lo d x3 j hI hH hg hi hf1 hf2
    obtain ⟨fu, rfl⟩ : ∃ f2, fu = f2 + 1 := ⟨fu - 1, by omega⟩
    obtain ⟨fu2, rfl⟩ : ∃ f2, fu2 = f2 + 1 := ⟨fu2 - 1, by omega⟩
    have : i = m := by omega
    subst this
    refine Or.inl ⟨S, g, lo, ct, d, j, x3, ?_, ?_, hI, hg⟩
    · unfold F_X4_execute_L54
      exact gp (nI_le (Nat.le_refl _) (by omega)) rfl
    · unfold F_X5_execute_L62
      exact gp (by rw [w_mE_toldMany, hTm]; exact nI_le (Nat.le_refl _) (by omega)) rfl
  | succ r ih =>
    intro fu fu2 i H S g ct lo d x3 j hI hH hg hi hf1 hf2
    obtain ⟨fu, rfl⟩ : ∃ f2, fu = f2 + 1 := ⟨fu - 1, by omega⟩
    obtain ⟨fu2, rfl⟩ : ∃ f2, fu2 = f2 + 1 := ⟨fu2 - 1, by omega⟩
    obtain ⟨k, hk, kk1, kk2, kk3, kk4⟩ := hK i (by omega)
    obtain ⟨C, M, cI, cA, cU, hC, hcar, hpos, hmod⟩ := kinds_all hI (by omega) hk (ft i) (sd i)
    have hM : F_X5_carries (mE E g lo ct d) (nI (3 * i)) = M (mE E g lo ct d) := hmod _ i (by omega) (by rw [w_mE_told, hTd]; exact kk2) (fun z => by rw [w_mE_told, hTd]; exact kk3 z) (fun z => by rw [w_mE_told, hTd]; exact kk4 z)
    have hgE : RG (M_g (mE E g lo ct d)) S := by rw [w_mE_g]; exact hg
    have eC : F_X4_execute_L54 Kc (fu + 1) x b (toB S) h j (tT sg 0 p' kd ft sd m) (nI i) = (F_X2_allows j (toB S) (nI k) (ft i) (sd i)).bind (fun z3 => if ¬ (bi z3.1) = 0 then ck (inb (nI i) 60) (ck (inb (nI i) 60) ((F_X0_carryOut (toB S) (nI k) (ft i) (sd i)).bind (fun z4 => F_X4_execute_L54 Kc fu x b z4 h z3.2 (tT sg 0 p' kd ft sd m) (nI (i + 1))))) else (F_X4_keepDenial x 8 (nI i) (imin (J_reason z3.2) 9)).bind (fun z5 => some (.inr ("java/lang/UnsupportedOperationException", z5, b, toB S, h, z3.2, tT sg 0 p' kd ft sd m)))) := by
      conv => lhs; unfold F_X4_execute_L54
      refine gn (show ¬ T_commands (tT sg 0 p' kd ft sd m) ≤ nI i from nI_ge (by omega) (by omega)) (gk (inb_nI (by omega) (by omega)) (gk (inb_nI (by omega) (by omega)) (gk (inb_nI (by omega) (by omega)) ?_)))
      unfold tT
      (try rw [T_kinds_mk]); (try rw [T_firsts_mk]); (try rw [T_seconds_mk])
      rw [nI_clamp (by omega), kk1, add1]
    have eM : F_X5_execute_L62 Km (fu2 + 1) (mE E g lo ct d) (nI i) x3 = (M (mE E g lo ct d)).bind (fun z4 => if ¬ (M_code z4.2) = 0 then F_X5_execute_L62 Km fu2 z4.2 (nI i) z4.1 else F_X5_execute_L62 Km fu2 z4.2 (nI (i + 1)) z4.1) := by
      conv => lhs; unfold F_X5_execute_L62
      refine gn (by rw [w_mE_toldMany, hTm]; exact nI_ge (by omega) (by omega)) (gn (by rw [w_mE_code]; exact fun z => z rfl) ?_)
      rw [show (3 : Int32) * nI i = nI (3 * i) from pk_mul 3 i, hM, add1]
    have stop : ∀ (m9 : Mv), M_toldMany m9 = nI m → ¬ M_code m9 = 0 → F_X5_execute_L62 Km fu2 m9 (nI i) 0 = Km m9 (nI i) 0 := by
      intro m9 h1 h2
      obtain ⟨fu3, rfl⟩ : ∃ f2, fu2 = f2 + 1 := ⟨fu2 - 1, by omega⟩
      unfold F_X5_execute_L62
      exact gn (by rw [h1]; exact nI_ge (by omega) (by omega)) (gp h2 rfl)
    rw [eC, eM]
    rcases hC with ⟨v, S', h1, h2, h3, h4⟩ | ⟨q, e, h1, h0, h2, h3⟩ | ⟨u, dt, h1, h2, h0, h3, h4⟩
    · obtain ⟨d2, g', lo', ct', hg', hMM⟩ := h4 (mE E g lo ct d) _ _ hgE (KP_within (by rw [w_mE_isWithin]; exact hW))
      rw [mE_K] at hMM
      have hca : F_X0_carryOut (toB S) (nI k) (ft i) (sd i) = some (toB S') := by
        rw [hcar, h2]; rfl
      rw [h1 j, hMM, Option.bind_some, Option.bind_some]
      have eC2 : (if ¬ (bi true) = 0 then ck (inb (nI i) 60) (ck (inb (nI i) 60) ((F_X0_carryOut (toB S) (nI k) (ft i) (sd i)).bind (fun z4 => F_X4_execute_L54 Kc fu x b z4 h (mkJ 0 0) (tT sg 0 p' kd ft sd m) (nI (i + 1))))) else (F_X4_keepDenial x 8 (nI i) (imin (J_reason (mkJ 0 0)) 9)).bind (fun z5 => some (.inr ("java/lang/UnsupportedOperationException", z5, b, toB S, h, mkJ 0 0, tT sg 0 p' kd ft sd m)))) = F_X4_execute_L54 Kc fu x b (toB S') h (mkJ 0 0) (tT sg 0 p' kd ft sd m) (nI (i + 1)) := gp bt1 (gk (inb_nI (by omega) (by omega)) (gk (inb_nI (by omega) (by omega)) (gb hca rfl)))
      have eM2 : (if ¬ (M_code (mE E g' lo' ct' d2)) = 0 then F_X5_execute_L62 Km fu2 (mE E g' lo' ct' d2) (nI i) v else F_X5_execute_L62 Km fu2 (mE E g' lo' ct' d2) (nI (i + 1)) v) = F_X5_execute_L62 Km fu2 (mE E g' lo' ct' d2) (nI (i + 1)) v := if_neg (by rw [w_mE_code]; exact fun z => z rfl)
      have h9 := ih fu fu2 (i + 1) (H + 48) S' g' ct' lo' d2 v (mkJ 0 0) h3 (by omega) hg' (by omega) (by omega) (by omega)
      rw [show H + 48 + 48 * r = H + 48 * (r + 1) by omega] at h9
      rcases h9 with ⟨S2, g2, lo2, ct2, d3, j2, v2, w1, w2, w3, w4⟩ | ⟨i2, S2, j2, u2, g2, lo2, ct2, d3, w0, w1, w2⟩
      · exact Or.inl ⟨S2, g2, lo2, ct2, d3, j2, v2, eC2.trans w1, eM2.trans w2, w3, w4⟩
      · refine Or.inr ⟨i2, S2, j2, u2, g2, lo2, ct2, d3, w0, eC2.trans w1, ?_⟩
        rcases w2 with ⟨e, y1, y2, y3⟩ | ⟨e, dt, y1, y3⟩
        · exact Or.inl ⟨e, y1, y2, eM2.trans y3⟩
        · exact Or.inr ⟨e, dt, y1, eM2.trans y3⟩
    · have he : ¬ e ≤ 0 := hpos e (by rcases h1 with z | z <;> simp [z.2]) h0
      have hMM := h3 (mE E g lo ct d) hgE
      rw [h2 j, hMM, Option.bind_some, Option.bind_some]
      refine Or.inr ⟨i, S, mkJ q 0, 9, g, lo, ct, d, by omega, ?_, Or.inl ⟨e, he, rfl, ?_⟩⟩
      · refine gn (fun z => z rfl) ?_
        have hmin : imin (J_reason (mkJ q 0)) 9 = 9 := by
          rw [J_reason_mk]
          rcases h1 with ⟨z, -⟩ | ⟨z, -⟩ <;> rw [z] <;> decide
        show (F_X4_keepDenial x 8 (nI i) (imin (J_reason (mkJ q 0)) 9)).bind _ = _
        rw [hmin]; rfl
      · have hc0 : ¬ M_code (mF (mE E g lo ct d) e) = 0 := by rw [w_mF_code]; exact h0
        refine gp hc0 ?_
        exact stop _ (by rw [w_mF_toldMany, w_mE_toldMany]; exact hTm) hc0
    · have he : ¬ cU ≤ 0 := hpos cU (Or.inr (Or.inr rfl)) h0
      have hMM := h4 (mE E g lo ct d) hgE
      rw [h3 j, hMM, Option.bind_some, Option.bind_some]
      refine Or.inr ⟨i, S, mkJ (nI u) dt, nI u, g, lo, ct, d, by omega, ?_, Or.inr ⟨cU, dt, he, ?_⟩⟩
      · refine gn (fun z => z rfl) ?_
        have hmin : imin (J_reason (mkJ (nI u) dt)) 9 = nI u := by
          rw [J_reason_mk, l_9, imin_nI (by omega) (by omega), Nat.min_eq_left (by omega)]
        show (F_X4_keepDenial x 8 (nI i) (imin (J_reason (mkJ (nI u) dt)) 9)).bind _ = _
        rw [hmin]; rfl
      · have hc0 : ¬ M_code (mDn (mE E g lo ct d) cU (nI u) dt) = 0 := by rw [w_mDn_code]; exact h0
        refine gp hc0 ?_
        exact stop _ (by rw [w_mDn_toldMany, w_mE_toldMany]; exact hTm) hc0
end EXEC
