section OPS3
variable {H : Nat} {x : Xv} {b t sn : Bv} {h : Hv} {tx : Tv} {ln : Nv} {mo : Mv}
/-! ranks -/
def ahd (S : Br) (o k : Nat) : Bool := decide (str S o < str S k ∨ str S o = str S k ∧ (s_K S k < s_K S o ∨ s_K S k = s_K S o ∧ o < k))
theorem c_before {S : Br} (hI : Iv H S) {o k : Nat} (ho : o < s_n S) (hk : k < s_n S) : F_X0_comesBefore (toB S) (nI o) (nI k) = some (ahd S o k) := by
  have hn := hI.1.1
  have s1 := hI.strb ho
  have s2 := hI.strb hk
  have k1 := (hI.2.1 o ho).2.2.2.2.1
  have k2 := (hI.2.1 k hk).2.2.2.2.1
  unfold F_X0_comesBefore ahd
  rw [hs_t ho hn, Option.bind_some, if_neg bt1, hs_t hk hn, Option.bind_some, if_pos bt1, c_str hI ho, Option.bind_some, c_str hI hk, Option.bind_some, inb_nI (by omega) (by omega), inb_nI (by omega) (by omega), ck_tt, ck_tt, ck_tt, ck_tt, B_cracks_to, nI_clamp (by omega), nI_clamp (by omega), fI_a, fI_a]
  by_cases c : str S o = str S k
  · rw [if_pos (congrArg nI c)]
    by_cases c2 : s_K S o = s_K S k
    · rw [if_pos (congrArg nI c2)]
      by_cases c3 : k ≤ o
      · rw [if_pos (nI_le c3 (by omega)), decide_eq_false (by omega)]
      · rw [if_neg (nI_ge (by omega) (by omega)), decide_eq_true (by omega)]
    · rw [if_neg (fun z => c2 ((nI_eq (by omega) (by omega)).mp z))]
      by_cases c3 : s_K S o ≤ s_K S k
      · rw [if_pos (nI_le c3 (by omega)), decide_eq_false (by omega)]
      · rw [if_neg (nI_ge (by omega) (by omega)), decide_eq_true (by omega)]
  · rw [if_neg (fun z => c ((nI_eq (by omega) (by omega)).mp z))]
    by_cases c3 : str S k ≤ str S o
    · rw [if_pos (nI_le c3 (by omega)), decide_eq_false (by omega)]
    · rw [if_neg (nI_ge (by omega) (by omega)), decide_eq_true (by omega)]
theorem m_ahead {S : Br} (hI : Iv H S) (hg : RG (M_g mo) S) {o k : Nat} (ho : o < s_n S) (hk : k < s_n S) : F_X5_isAhead mo (nI o) (nI k) = some (ahd S o k) := by
  have hn := hI.1.1
  have s1 := hI.strb ho
  have s2 := hI.strb hk
  have k1 := (hI.2.1 o ho).2.2.2.2.1
  have k2 := (hI.2.1 k hk).2.2.2.2.1
  unfold F_X5_isAhead ahd
  rw [m_strong hI hg ho, Option.bind_some, m_strong hI hg hk, Option.bind_some, of_K hg hn ho, Option.bind_some, of_K hg hn hk, Option.bind_some, Option.bind_some, Option.bind_some, Option.bind_some, Option.bind_some]
  by_cases c : str S o = str S k
  · rw [if_pos (congrArg nI c)]
    by_cases c2 : s_K S k < s_K S o
    · rw [if_pos (nI_lt c2 (by omega)), decide_eq_true (by omega)]
    · rw [if_neg (nI_nlt (by omega) (by omega))]
      by_cases c3 : s_K S o = s_K S k
      · rw [if_neg (fun z => z (congrArg nI c3))]
        by_cases c4 : k ≤ o
        · rw [if_pos (nI_le c4 (by omega)), decide_eq_false (by omega)]
        · rw [if_neg (nI_ge (by omega) (by omega)), decide_eq_true (by omega)]
      · rw [if_pos (fun z => c3 ((nI_eq (by omega) (by omega)).mp z)), decide_eq_false (by omega)]
  · rw [if_neg (fun z => c ((nI_eq (by omega) (by omega)).mp z))]
    by_cases c3 : str S k ≤ str S o
    · rw [if_pos (nI_le c3 (by omega)), decide_eq_false (by omega)]
    · rw [if_neg (nI_ge (by omega) (by omega)), decide_eq_true (by omega)]
def rkU (S : Br) (k i : Nat) : Nat := sg (fun o => if ahd S o k = true then 1 else 0) i
theorem rkU_s (S : Br) (k i : Nat) : rkU S k (i + 1) = rkU S k i + (if ahd S i k = true then 1 else 0) := rfl
theorem ahd_self (S : Br) (k : Nat) : ahd S k k = false := decide_eq_false (by omega)
theorem c_rank {S : Br} (hI : Iv H S) {k : Nat} (hk : k < s_n S) : F_X0_rankOf (toB S) (nI k) = some (nI (rkU S k (s_n S))) := by
  have hn := hI.1.1
  have key : ∀ (r fu i : Nat), i + r = s_n S → r < fu → F_X0_rankOf_L4 (toB S) (nI k) (fun x2 x3 => some x2) fu (nI (rkU S k i)) (nI i) = some (nI (rkU S k (s_n S))) := by
    intro r
    induction r with
    | zero =>
      intro fu i hi hr
      obtain ⟨fu, rfl⟩ : ∃ f2, fu = f2 + 1 := ⟨fu - 1, by omega⟩
      have : i = s_n S := by omega
      subst this
      unfold F_X0_rankOf_L4
      rw [B_spans_to, if_pos (nI_le (Nat.le_refl _) (by omega))]
    | succ r ih =>
      intro fu i hi hr
      obtain ⟨fu, rfl⟩ : ∃ f2, fu = f2 + 1 := ⟨fu - 1, by omega⟩
      have h9 := ih fu (i + 1) (by omega) (by omega)
      rw [rkU_s] at h9
      unfold F_X0_rankOf_L4
      rw [B_spans_to, if_neg (nI_ge (by omega) (by omega)), add1]
      by_cases e : i = k
      · rw [if_pos (congrArg nI e)]
        subst e
        rw [ahd_self, if_neg (by decide)] at h9
        exact h9
      · rw [if_neg (fun z => e ((nI_eq (by omega) (by omega)).mp z)), c_before hI (by omega) hk, Option.bind_some]
        by_cases c : ahd S i k = true
        · rw [if_pos c] at h9
          rw [c, if_neg bt1, add1]
          exact h9
        · rw [if_neg c] at h9
          rw [show ahd S i k = false by simpa using c, if_pos (show bi false = 0 by decide)]
          exact h9
  exact key (s_n S) 1000 0 (by omega) (by omega)
theorem m_rank_L {S : Br} (hI : Iv H S) (hg : RG (M_g mo) S) {k : Nat} (hk : k < s_n S) (y1 : Int32) (K : Mv → Int32 → Option (Int32 × Mv)) : ∀ (r fu i : Nat), i + r = s_n S → r < fu → F_X5_spanByStrength_L17 y1 (nI k) (fun b z _ => K b z) fu mo (nI (rkU S k i)) (nI i) = K mo (nI (rkU S k (s_n S))) := by
  have hn := hI.1.1
  intro r
  induction r with
  | zero =>
    intro fu i hi hr
    obtain ⟨fu, rfl⟩ : ∃ f2, fu = f2 + 1 := ⟨fu - 1, by omega⟩
    have : i = s_n S := by omega
    subst this
    unfold F_X5_spanByStrength_L17
    rw [ub_0, ck_tt, zc_0, hg.1.1, if_pos (nI_le (Nat.le_refl _) (by omega))]
  | succ r ih =>
    intro fu i hi hr
    obtain ⟨fu, rfl⟩ : ∃ f2, fu = f2 + 1 := ⟨fu - 1, by omega⟩
    have h9 := ih fu (i + 1) (by omega) (by omega)
    rw [rkU_s] at h9
    unfold F_X5_spanByStrength_L17
    rw [ub_0, ck_tt, zc_0, hg.1.1, if_neg (nI_ge (by omega) (by omega)), m_ahead hI hg (by omega) hk, Option.bind_some, add1]
    by_cases c : ahd S i k = true
    · rw [if_pos c] at h9
      rw [c, if_neg bt1, add1]
      exact h9
    · rw [if_neg c] at h9
      rw [show ahd S i k = false by simpa using c, if_pos (show bi false = 0 by decide), show nI (rkU S k i) + 0 = nI (rkU S k i + 0) from nI_add _ 0]
      exact h9
theorem op_spanByStrength (hR : Rel H x b t sn h tx ln mo) (hH : H + 800 ≤ 900000) (p : Int32) : ∃ z zm, F_X4_spanByStrength x b p = some z ∧ F_X5_spanByStrength mo p = some zm ∧ R1 ["java/util/NoSuchElementException"] z zm ∧ Rel (H + 800) x b t sn h tx ln zm.2 := by
  obtain ⟨⟨S, rfl, hI, hg⟩, -⟩ := id hR
  have hn := hI.1.1
  have key : ∀ (r fu i : Nat), i + r = s_n S → r < fu → (∃ k, F_X4_spanByStrength_L2 x (toB S) p (fun x2 => some (.inr ("java/util/NoSuchElementException"))) fu (nI i) = some (.inl (nI k)) ∧ F_X5_spanByStrength_L2 p (fun b5 x6 => some (0, m_code b5 1)) fu mo (nI i) = some (nI k, m_code mo 0)) ∨ (F_X4_spanByStrength_L2 x (toB S) p (fun x2 => some (.inr ("java/util/NoSuchElementException"))) fu (nI i) = some (.inr ("java/util/NoSuchElementException")) ∧ F_X5_spanByStrength_L2 p (fun b5 x6 => some (0, m_code b5 1)) fu mo (nI i) = some (0, m_code mo 1)) := by
    intro r
    induction r with
    | zero =>
      intro fu i hi hr
      obtain ⟨fu, rfl⟩ : ∃ f2, fu = f2 + 1 := ⟨fu - 1, by omega⟩
      refine Or.inr ⟨?_, ?_⟩
      · unfold F_X4_spanByStrength_L2
        rw [B_spans_to, if_pos (nI_le (by omega) (by omega))]
      · unfold F_X5_spanByStrength_L2
        rw [ub_0, ck_tt, zc_0, hg.1.1, if_pos (nI_le (by omega) (by omega))]
    | succ r ih =>
      intro fu i hi hr
      obtain ⟨fu, rfl⟩ : ∃ f2, fu = f2 + 1 := ⟨fu - 1, by omega⟩
      have e1 : F_X4_spanByStrength_L2 x (toB S) p (fun x2 => some (.inr ("java/util/NoSuchElementException"))) (fu + 1) (nI i) = if ¬ nI (rkU S i (s_n S)) = p then F_X4_spanByStrength_L2 x (toB S) p (fun x2 => some (.inr ("java/util/NoSuchElementException"))) fu (nI (i + 1)) else some (.inl (nI i)) := by
        conv => lhs; unfold F_X4_spanByStrength_L2
        rw [B_spans_to, if_neg (nI_ge (by omega) (by omega)), c_rank hI (by omega), Option.bind_some, add1]
      have e2 : F_X5_spanByStrength_L2 p (fun b5 x6 => some (0, m_code b5 1)) (fu + 1) mo (nI i) = if nI (rkU S i (s_n S)) = p then some (nI i, m_code mo 0) else F_X5_spanByStrength_L2 p (fun b5 x6 => some (0, m_code b5 1)) fu mo (nI (i + 1)) := by
        conv => lhs; unfold F_X5_spanByStrength_L2
        rw [ub_0, ck_tt, zc_0, hg.1.1, if_neg (nI_ge (by omega) (by omega))]
        refine (m_rank_L hI hg (k := i) (by omega) p (fun b2 x3 => if x3 = p then some (nI i, m_code b2 0) else F_X5_spanByStrength_L2 p (fun b5 x6 => some (0, m_code b5 1)) fu b2 (nI i + 1)) (s_n S) 1000 0 (by omega) (by omega)).trans ?_
        rw [add1]
      rw [e1, e2]
      by_cases c : nI (rkU S i (s_n S)) = p
      · rw [if_neg (fun z => z c), if_pos c]
        exact Or.inl ⟨i, rfl, rfl⟩
      · rw [if_pos c, if_neg c]
        exact ih fu (i + 1) (by omega) (by omega)
  rcases key (s_n S) 1000 0 (by omega) (by omega) with ⟨k, k1, k2⟩ | ⟨k1, k2⟩
  · exact ⟨_, _, k1, k2, ⟨r_code_code _ _, rfl⟩, hR.code hH 0⟩
  · refine ⟨_, _, k1, k2, ⟨?_, ?_⟩, hR.code hH 1⟩
    · rw [r_code_code]; decide
    · rw [r_code_code]; decide
/-! the hours till a span bears a weight -/
def fnd (f : Nat → Bool) : Nat → Nat → Option Nat
  | 0, _ => none
  | r + 1, i => if f i = true then some i else fnd f r (i + 1)
def brs (S : Br) (k w : Nat) (i : Nat) : Bool := decide (w ≤ stN (s_J S k) (s_A S k + i) (s_L S k) (s_K S k))
theorem fnd_1 {f : Nat → Bool} {r i : Nat} (h : f i = true) : fnd f (r + 1) i = some i := if_pos h
theorem fnd_2 {f : Nat → Bool} {r i : Nat} (h : ¬ f i = true) : fnd f (r + 1) i = fnd f r (i + 1) := if_neg h
theorem fnd_none {f : Nat → Bool} : ∀ (r i : Nat), (∀ j, i ≤ j → j < i + r → f j = false) → fnd f r i = none := by
  intro r
  induction r with
  | zero => intro i _; rfl
  | succ r ih =>
    intro i hf
    unfold fnd
    rw [hf i (Nat.le_refl _) (by omega), if_neg (by decide)]
    exact ih (i + 1) (fun j h1 h2 => hf j (by omega) (by omega))
theorem fnd_some {f : Nat → Bool} {q : Nat} (hq : f q = true) : ∀ (r i : Nat), i ≤ q → q < i + r → (∀ j, i ≤ j → j < q → f j = false) → fnd f r i = some q := by
  intro r
  induction r with
  | zero => intro i h1 h2; omega
  | succ r ih =>
    intro i h1 h2 hf
    unfold fnd
    by_cases e : i = q
    · subst e; rw [if_pos hq]
    · rw [hf i (Nat.le_refl _) (by omega), if_neg (by decide)]
      exact ih (i + 1) (by omega) (by omega) (fun j k1 k2 => hf j (by omega) k2)
def agd (S : Br) (k i : Nat) : Br := st_A S (uN (s_A S) k (s_A S k + i))
theorem c_bears_L {S : Br} (hI : Iv H S) {k w : Nat} (hk : k < s_n S) (hw : w ≤ 99) : ∀ (r fu i : Nat), i + r = 25 → r < fu → ∃ T, F_X4_hoursUntilBears_L23 x b (nI k) (nI w) (fun b5 x6 => some (.inr ("java/util/NoSuchElementException", b5))) fu (toB (agd S k i)) (nI i) = some ((fnd (brs S k w) r i).elim (.inr ("java/util/NoSuchElementException", toB T)) (fun q => .inl (nI q, toB T))) := by
  have hn := hI.1.1
  obtain ⟨b1, b2, b3, b4, b5, b6⟩ := hI.2.1 k hk
  have hH := hI.1.2.2.2.1
  have hH2 := hI.1.2.2.2.2.2.2.2.2
  intro r
  induction r with
  | zero =>
    intro fu i hi hr
    obtain ⟨fu, rfl⟩ : ∃ f2, fu = f2 + 1 := ⟨fu - 1, by omega⟩
    have : i = 25 := by omega
    subst this
    refine ⟨agd S k 25, ?_⟩
    unfold F_X4_hoursUntilBears_L23
    rw [if_pos (by decide)]; rfl
  | succ r ih =>
    intro fu i hi hr
    obtain ⟨fu, rfl⟩ : ∃ f2, fu = f2 + 1 := ⟨fu - 1, by omega⟩
    obtain ⟨T, hT⟩ := ih fu (i + 1) (by omega) (by omega)
    obtain ⟨g1, g2, g3, g4⟩ := stN_le (A := s_A S k + i) (L := s_L S k) (K := s_K S k) b3
    have eS : F_X0_strengthOf (toB (agd S k i)) (nI k) = some (nI (stN (s_J S k) (s_A S k + i) (s_L S k) (s_K S k))) := by
      unfold F_X0_strengthOf agd
      rw [hs_t (S := st_A S _) (by rw [q_n_A]; exact hk) (by rw [q_n_A]; exact hn)]
      simp (disch := omega) only [B_spans_to, B_lengths_to, B_jars_to, B_ages_to, B_cracks_to, B_stresses_to, B_vehicles_to, B_numbers_to, B_weights_to, B_places_to, B_nextNumber_to, B_hour_to, B_rate_to, B_till_to, B_paid_to, B_crossed_to, B_sunk_to, q_n_A, q_L_A, q_J_A, q_A_A, q_K_A, q_T_A, q_v_A, q_N_A, q_W_A, q_P_A, q_nx_A, q_hr_A, q_rt_A, q_tl_A, q_pd_A, q_cr_A, q_sk_A, uN_s, Option.bind_some, ck_tt, inb_nI, nz_nI, fI_a, fI_u, nI_clamp, nI_add, pk_mul, pk_sub, pk_div, nI_ltI, nI_leI, nI_eq, imin_nI, imax_nI, bi_t, bi_f, if_pos, if_neg, l_0, l_1, l_2, l_3, l_4, l_5, l_6, l_7, l_8, l_9, l_10, l_20, l_24, l_47, l_48, l_50, l_57, l_58, l_59, l_60, l_61, l_83, l_93, l_99, l_200, l_581, l_664]
      rfl
    unfold F_X4_hoursUntilBears_L23
    rw [if_neg (show ¬ (24 : Int32) < nI i from (show ¬ nI 24 < nI i from nI_nlt (by omega) (by omega))), eS, Option.bind_some]
    by_cases c : w ≤ stN (s_J S k) (s_A S k + i) (s_L S k) (s_K S k)
    · refine ⟨agd S k i, ?_⟩
      rw [if_neg (nI_nlt c (by omega))]
      rw [fnd_1 (show brs S k w i = true from decide_eq_true c)]; rfl
    · refine ⟨T, ?_⟩
      rw [if_pos (nI_lt (by omega) (by omega)), inb_nI (by omega) (by omega), ck_tt, ck_tt, add1]
      have ef : fnd (brs S k w) (r + 1) i = fnd (brs S k w) r (i + 1) := fnd_2 (fun z => c (of_decide_eq_true z))
      unfold agd at hT ⊢
      rw [← toB_A, show s_A S k + (i + 1) = s_A S k + i + 1 by omega] at hT
      rw [ef]
      simp (disch := omega) only [B_spans_to, B_lengths_to, B_jars_to, B_ages_to, B_cracks_to, B_stresses_to, B_vehicles_to, B_numbers_to, B_weights_to, B_places_to, B_nextNumber_to, B_hour_to, B_rate_to, B_till_to, B_paid_to, B_crossed_to, B_sunk_to, q_n_A, q_L_A, q_J_A, q_A_A, q_K_A, q_T_A, q_v_A, q_N_A, q_W_A, q_P_A, q_nx_A, q_hr_A, q_rt_A, q_tl_A, q_pd_A, q_cr_A, q_sk_A, uN_s, nI_clamp, fI_a, add1, fI_u, uN_uN]
      exact hT
theorem m_hoursTo {S : Br} (hI : Iv H S) (hg : RG (M_g mo) S) {k w : Nat} (hk : k < s_n S) (hw1 : 1 ≤ w) (hw : w ≤ 99) : F_X5_hoursTo mo (nI k) (nI w) = some ((fnd (brs S k w) 25 0).elim (-1) nI) := by
  have hn := hI.1.1
  obtain ⟨b1, b2, b3, b4, b5, b6⟩ := hI.2.1 k hk
  have hH := hI.1.2.2.2.1
  have hH2 := hI.1.2.2.2.2.2.2.2.2
  have key : ∀ (m r fu i : Nat), i + r = m + 1 → m ≤ 24 → r < fu → F_X5_hoursTo_L36 mo (nI k) (nI w) (nI (s_A S k + m)) (fun x6 => some (-1)) fu (nI (s_A S k + i)) = some ((fnd (brs S k w) r i).elim (-1) nI) := by
    intro m r
    induction r with
    | zero =>
      intro fu i hi hm hr
      obtain ⟨fu, rfl⟩ : ∃ f2, fu = f2 + 1 := ⟨fu - 1, by omega⟩
      unfold F_X5_hoursTo_L36
      rw [if_pos (nI_lt (by omega) (by omega))]; rfl
    | succ r ih =>
      intro fu i hi hm hr
      obtain ⟨fu, rfl⟩ : ∃ f2, fu = f2 + 1 := ⟨fu - 1, by omega⟩
      obtain ⟨g1, g2, g3, g4⟩ := stN_le (A := s_A S k + i) (L := s_L S k) (K := s_K S k) b3
      have h9 := ih fu (i + 1) (by omega) hm (by omega)
      unfold F_X5_hoursTo_L36
      rw [if_neg (nI_nlt (by omega) (by omega)), m_bears hI hg hk (by omega), Option.bind_some]
      by_cases c : w ≤ stN (s_J S k) (s_A S k + i) (s_L S k) (s_K S k)
      · rw [if_neg (nI_nlt c (by omega)), of_A hg hn hk, Option.bind_some, pk_sub (by omega)]
        rw [fnd_1 (show brs S k w i = true from decide_eq_true c)]
        show some (nI (s_A S k + i - s_A S k)) = some (nI i)
        rw [show s_A S k + i - s_A S k = i by omega]
      · rw [if_pos (nI_lt (by omega) (by omega)), add1]
        have ef : fnd (brs S k w) (r + 1) i = fnd (brs S k w) r (i + 1) := fnd_2 (fun z => c (of_decide_eq_true z))
        rw [ef]
        exact h9
  unfold F_X5_hoursTo
  rw [of_J hg hn hk, Option.bind_some, of_A hg hn hk, Option.bind_some, Option.bind_some, Option.bind_some, Option.bind_some]
  by_cases c : s_J S k = 0
  · rw [if_neg (fun z => z (by rw [c]; rfl))]
    refine (key 0 1 1000 0 (by omega) (by omega) (by omega)).trans ?_
    have hf : ∀ j, brs S k w j = false := by
      intro j
      unfold brs stN
      rw [c]
      refine decide_eq_false ?_
      rw [Nat.zero_mul, Nat.zero_div, Nat.zero_mul, Nat.zero_div]
      omega
    rw [fnd_none 1 0 (fun j _ _ => hf j), fnd_none 25 0 (fun j _ _ => hf j)]
  · rw [if_pos (nI_ne0 (by omega) (by omega)), show nI (s_A S k) + 24 = nI (s_A S k + 24) from nI_add _ 24]
    exact key 24 25 1000 0 (by omega) (by omega) (by omega)
theorem asked_c {S : Br} (hI : Iv H S) (hg : RG (M_g mo) S) (p q : Int32) : (∃ k w, k < s_n S ∧ 1 ≤ w ∧ w ≤ 99 ∧ p = nI k ∧ q = nI w ∧ F_X4_requireSpan x (toB S) p = some (.inl ()) ∧ F_X4_requireWeight x q = some (.inl ()) ∧ F_X5_hoursAsked mo p q = some ((fnd (brs S k w) 25 0).elim (0, mF mo 3) (fun i => (nI i, mF mo 0)))) ∨ (F_X4_requireSpan x (toB S) p = some (.inr "java/lang/IndexOutOfBoundsException") ∧ F_X5_hoursAsked mo p q = some (0, mF mo 1)) ∨ (F_X4_requireSpan x (toB S) p = some (.inl ()) ∧ F_X4_requireWeight x q = some (.inr "java/lang/IllegalArgumentException") ∧ F_X5_hoursAsked mo p q = some (0, mF mo 2)) := by
  have hn := hI.1.1
  have ef : ∀ a c : Int32, mF (mF mo a) c = mF mo c := by
    intro a c
    unfold mF
    simp only [M_g_mk, M_kept_mk, M_saved_mk, M_before_mk, M_trial_mk, M_counted_mk, M_isSaved_mk, M_changes_mk, M_isWithin_mk, M_isDenied_mk, M_code_mk, M_why_mk, M_detail_mk, M_cause_mk, M_input_mk, M_length_mk, M_fault_mk, M_signs_mk, M_signMany_mk, M_lastOver_mk, M_at_mk, M_told_mk, M_toldMany_mk]
  have key : ∀ p : Int32, p < 0 ∨ nI (s_n S) ≤ p → F_X4_requireSpan x (toB S) p = some (.inr "java/lang/IndexOutOfBoundsException") ∧ F_X5_hoursAsked mo p q = some (0, mF mo 1) := by
    intro p hp
    refine ⟨?_, ?_⟩
    · unfold F_X4_requireSpan
      rw [hs_f hp, Option.bind_some, if_neg (show ¬ ¬ bi false = 0 by decide)]
    · unfold F_X5_hoursAsked
      exact gb (m_isSpan_f hg hn hp) (gn (fun z => z rfl) (gb (fails_1 mo) (gn bt1 rfl)))
  rcases pk_ix p (n := s_n S) (by omega) with hp | hp | ⟨k, hk, rfl⟩
  · exact Or.inr (Or.inl (key p (Or.inl hp)))
  · exact Or.inr (Or.inl (key p (Or.inr hp)))
  have e1 : F_X4_requireSpan x (toB S) (nI k) = some (.inl ()) := by
    unfold F_X4_requireSpan
    rw [hs_t hk hn, Option.bind_some, if_pos bt1]
  rcases rng q 1 99 (by omega) (by omega) with hq | ⟨w, hw1, hw2, rfl⟩
  · refine Or.inr (Or.inr ⟨e1, ?_, ?_⟩)
    · unfold F_X4_requireWeight
      by_cases c : q < 1
      · rw [if_pos c]
      · rw [if_neg c, if_neg (nle_lt (show (99 : Int32) < q from hq.resolve_left c))]
    · unfold F_X5_hoursAsked
      exact gb (m_isSpan_t hg hn hk) (gp bt1 (gb (in_f (show q < 1 ∨ 99 < q from hq)) (gp rfl (gb (fails_2 mo) (gn bt1 rfl)))))
  · refine Or.inl ⟨k, w, hk, hw1, hw2, rfl, rfl, e1, ?_, ?_⟩
    · unfold F_X4_requireWeight
      rw [if_neg (show ¬ nI w < (1 : Int32) from (show ¬ nI w < nI 1 from nI_nlt hw1 (by omega))), if_pos (show nI w ≤ (99 : Int32) from (show nI w ≤ nI 99 from nI_le hw2 (by omega)))]
    · have hin : F_X5_in (nI w) 1 99 = some true := (show F_X5_in (nI w) (nI 1) (nI 99) = some true from in_t hw1 hw2 (by omega))
      have hT := m_hoursTo (mo := mF mo 0) hI (by rw [w_mF_g]; exact hg) hk hw1 hw2
      unfold F_X5_hoursAsked
      refine gb (m_isSpan_t hg hn hk) (gp bt1 (gb hin (gn bt1 (gb (fails_0 mo) (gp rfl (gb hT ?_))))))
      have hb : ∀ i, fnd (brs S k w) 25 0 = some i → i < 2 ^ 31 := by
        intro i hi
        refine Classical.byContradiction fun z => ?_
        have hm : ∀ (r j : Nat), fnd (brs S k w) r j = some i → i < j + r := by
          intro r
          induction r with
          | zero => intro j hj; cases hj
          | succ r ih =>
            intro j hj
            by_cases c : brs S k w j = true
            · rw [fnd_1 c] at hj
              have := Option.some.inj hj
              omega
            · rw [fnd_2 c] at hj
              have := ih (j + 1) hj
              omega
        have := hm 25 0 hi
        omega
      cases hc : fnd (brs S k w) 25 0 with
      | none =>
        show (if (0 : Int32) ≤ -1 then _ else _) = _
        refine gn (by decide) (gb (fails_3 _) (gn bt1 ?_))
        rw [ef]; rfl
      | some i =>
        have hi := hb i hc
        show (if (0 : Int32) ≤ nI i then _ else _) = _
        refine gp (nI_pos' hi) (gb (fails_0 _) (gp rfl ?_))
        rw [ef]
        refine gb hT ?_
        rw [hc]; rfl
def R1t (exs : List String) (z : (Int32 × Bv) ⊕ (String × Bv)) (zm : Int32 × Mv) : Prop := Sum.elim (fun y => M_code zm.2 = 0 ∧ y.1 = zm.1) (fun y => cd exs 1 y.1 = some (M_code zm.2) ∧ ¬ M_code zm.2 = 0) z
theorem Rel.tr {S : Br} (hR : Rel H x b t sn h tx ln mo) : Rel H x b (toB S) sn h tx ln mo := by
  obtain ⟨a1, a2, a3⟩ := hR
  exact ⟨a1, ⟨S, rfl⟩, a3⟩
theorem op_hoursUntilBears (hR : Rel H x b t sn h tx ln mo) (hH : H + 800 ≤ 900000) (p q : Int32) : ∃ z zm, F_X4_hoursUntilBears x b t p q = some z ∧ F_X5_hoursUntilBears mo p q = some zm ∧ R1t ["java/lang/IndexOutOfBoundsException", "java/lang/IllegalArgumentException", "java/util/NoSuchElementException"] z zm ∧ Rel (H + 800) x b (Sum.elim (fun y => y.2) (fun y => y.2) z) sn h tx ln zm.2 := by
  obtain ⟨⟨S, rfl, hI, hg⟩, ⟨T0, rfl⟩, -⟩ := id hR
  rcases asked_c (x := x) hI hg p q with ⟨k, w, hk, hw1, hw2, rfl, rfl, e1, e2, e3⟩ | ⟨e1, e3⟩ | ⟨e1, e2, e3⟩
  · have hIc := Iv_cp T0 hI
    obtain ⟨T, hT⟩ := c_bears_L (x := x) (b := toB S) hIc (k := k) (w := w) (by rw [p_cpS_n]; exact hk) hw2 25 1000 0 (by omega) (by omega)
    have e0 : agd (cpS T0 S) k 0 = cpS T0 S := by
      unfold agd st_A
      rw [show uN (s_A (cpS T0 S)) k (s_A (cpS T0 S) k + 0) = s_A (cpS T0 S) by
        funext j; unfold uN
        by_cases e : j = k
        · subst e; rw [if_pos rfl]; rfl
        · rw [if_neg e]]
      exact mkS_eta _
    have eb : brs (cpS T0 S) k w = brs S k w := by
      funext j
      unfold brs
      have := hI.1.1
      rw [p_cpS_J, p_cpS_A, p_cpS_L, p_cpS_K, cpN_i _ _ (by omega), cpN_i _ _ (by omega), cpN_i _ _ (by omega), cpN_i _ _ (by omega)]
    rw [e0, eb] at hT
    have hF : F_X4_hoursUntilBears x (toB S) (toB T0) (nI k) (nI w) = some ((fnd (brs S k w) 25 0).elim (.inr ("java/util/NoSuchElementException", toB T)) (fun q => .inl (nI q, toB T))) := by
      unfold F_X4_hoursUntilBears obx
      rw [e1, Option.bind_some, Sum.elim_inl, e2, Option.bind_some, Sum.elim_inl, c_copy, Option.bind_some]
      exact hT
    have hM : F_X5_hoursUntilBears mo (nI k) (nI w) = some ((fnd (brs S k w) 25 0).elim (0, mF mo 3) (fun i => (nI i, mF mo 0))) := by
      unfold F_X5_hoursUntilBears
      rw [e3]; rfl
    refine ⟨_, _, hF, hM, ?_⟩
    cases fnd (brs S k w) 25 0 with
    | none => exact ⟨⟨by show cd _ 1 _ = some (M_code (mF mo 3)); rw [w_mF_code]; exact (show cd ["java/lang/IndexOutOfBoundsException", "java/lang/IllegalArgumentException", "java/util/NoSuchElementException"] 1 "java/util/NoSuchElementException" = some 3 by decide), by show ¬ M_code (mF mo 3) = 0; rw [w_mF_code]; decide⟩, (hR.F hH 3).tr⟩
    | some i => exact ⟨⟨w_mF_code mo 0, rfl⟩, (hR.F hH 0).tr⟩
  · refine ⟨.inr ("java/lang/IndexOutOfBoundsException", toB T0), (0, mF mo 1), ?_, ?_, ⟨?_, ?_⟩, hR.F hH 1⟩
    · unfold F_X4_hoursUntilBears obx
      rw [e1]; rfl
    · unfold F_X5_hoursUntilBears
      rw [e3]; rfl
    · rw [w_mF_code]; exact (show cd ["java/lang/IndexOutOfBoundsException", "java/lang/IllegalArgumentException", "java/util/NoSuchElementException"] 1 "java/lang/IndexOutOfBoundsException" = some 1 by decide)
    · rw [w_mF_code]; decide
  · refine ⟨.inr ("java/lang/IllegalArgumentException", toB T0), (0, mF mo 2), ?_, ?_, ⟨?_, ?_⟩, hR.F hH 2⟩
    · unfold F_X4_hoursUntilBears obx
      rw [e1, Option.bind_some, Sum.elim_inl, e2]; rfl
    · unfold F_X5_hoursUntilBears
      rw [e3]; rfl
    · rw [w_mF_code]; exact (show cd ["java/lang/IndexOutOfBoundsException", "java/lang/IllegalArgumentException", "java/util/NoSuchElementException"] 1 "java/lang/IllegalArgumentException" = some 2 by decide)
    · rw [w_mF_code]; decide
/-- the same by division -/
theorem ceil_le {a d y : Nat} (hd : 1 ≤ d) : (a + d - 1) / d ≤ y ↔ a ≤ y * d := by
  rw [← Nat.lt_succ_iff, Nat.div_lt_iff_lt_mul (by omega), Nat.succ_mul]
  omega
theorem ceil_gt {a d y : Nat} (hd : 1 ≤ d) : y ≤ a / d ↔ y * d ≤ a := Nat.le_div_iff_mul_le (by omega)
def dvS (J L K w : Nat) : Nat := ((w * 10 + (10 - K) - 1) / (10 - K) * L + J - 1) / J
theorem brs_dv {J A L K w : Nat} (hJ : 1 ≤ J) (hL : 1 ≤ L) (hK : K ≤ 9) : w ≤ stN J A L K ↔ dvS J L K w ≤ min A 24 := by
  unfold stN dvS
  rw [ceil_le hJ, ceil_gt (by omega), ← ceil_le (y := J * min A 24 / L) (d := 10 - K) (by omega), ceil_gt hL, Nat.mul_comm (min A 24) J]
theorem fnd_dv {S : Br} {k w : Nat} (hJ : 1 ≤ s_J S k) (hL : 1 ≤ s_L S k) (hK : s_K S k ≤ 9) : fnd (brs S k w) 25 0 = if dvS (s_J S k) (s_L S k) (s_K S k) w ≤ 24 then some (dvS (s_J S k) (s_L S k) (s_K S k) w - s_A S k) else none := by
  have hb : ∀ j, brs S k w j = decide (dvS (s_J S k) (s_L S k) (s_K S k) w ≤ min (s_A S k + j) 24) := by
    intro j
    unfold brs
    exact decide_eq_decide.mpr (brs_dv hJ hL hK)
  by_cases c : dvS (s_J S k) (s_L S k) (s_K S k) w ≤ 24
  · rw [if_pos c]
    refine fnd_some ?_ 25 0 (by omega) (by omega) ?_
    · rw [hb]; exact decide_eq_true (by omega)
    · intro j _ h2
      rw [hb]; exact decide_eq_false (by omega)
  · rw [if_neg c]
    refine fnd_none 25 0 fun j _ _ => ?_
    rw [hb]; exact decide_eq_false (by omega)
theorem op_hoursUntilBearsByDivision (hR : Rel H x b t sn h tx ln mo) (hH : H + 800 ≤ 900000) (p q : Int32) : ∃ z zm, F_X4_hoursUntilBearsByDivision x b p q = some z ∧ F_X5_hoursUntilBearsByDivision mo p q = some zm ∧ R1 ["java/lang/IndexOutOfBoundsException", "java/lang/IllegalArgumentException", "java/util/NoSuchElementException"] z zm ∧ Rel (H + 800) x b t sn h tx ln zm.2 := by
  obtain ⟨⟨S, rfl, hI, hg⟩, -⟩ := id hR
  rcases asked_c (x := x) hI hg p q with ⟨k, w, hk, hw1, hw2, rfl, rfl, e1, e2, e3⟩ | ⟨e1, e3⟩ | ⟨e1, e2, e3⟩
  · obtain ⟨b1, b2, b3, b4, b5, b6⟩ := hI.2.1 k hk
    have hn := hI.1.1
    have hh := hI.1.2.2.2.1
    have hH2 := hI.1.2.2.2.2.2.2.2.2
    have hM : F_X5_hoursUntilBearsByDivision mo (nI k) (nI w) = some ((fnd (brs S k w) 25 0).elim (0, mF mo 3) (fun i => (nI i, mF mo 0))) := by
      unfold F_X5_hoursUntilBearsByDivision
      rw [e3]; rfl
    have hF : F_X4_hoursUntilBearsByDivision x (toB S) (nI k) (nI w) = some ((fnd (brs S k w) 25 0).elim (.inr "java/util/NoSuchElementException") (fun i => .inl (nI i))) := by
      unfold F_X4_hoursUntilBearsByDivision obx
      rw [e1, Option.bind_some, Sum.elim_inl, e2, Option.bind_some, Sum.elim_inl, inb_nI (by omega) (by omega), ck_tt, ck_tt, ck_tt, ck_tt, B_jars_to, B_cracks_to, B_lengths_to, B_ages_to, nI_clamp (by omega), fI_a, fI_a, fI_a, fI_a]
      by_cases c0 : s_J S k = 0
      · rw [if_pos (show nI (s_J S k) < (1 : Int32) from (show nI (s_J S k) < nI 1 from nI_lt (by omega) (by omega)))]
        have hf : ∀ j, brs S k w j = false := by
          intro j
          unfold brs stN
          rw [c0]
          refine decide_eq_false ?_
          rw [Nat.zero_mul, Nat.zero_div, Nat.zero_mul, Nat.zero_div]
          omega
        rw [fnd_none 25 0 (fun j _ _ => hf j)]; rfl
      · have hd1 : (w * 10 + (10 - s_K S k) - 1) / (10 - s_K S k) ≤ 1000 := Nat.le_trans (Nat.div_le_self _ _) (by omega)
        have hd2 : (w * 10 + (10 - s_K S k) - 1) / (10 - s_K S k) * s_L S k ≤ 1000 * 20 := Nat.mul_le_mul hd1 b2
        have hd3 : dvS (s_J S k) (s_L S k) (s_K S k) w ≤ 30000 := Nat.le_trans (Nat.div_le_self _ _) (by omega)
        have e10 : (10 : Int32) - nI (s_K S k) = nI (10 - s_K S k) := pk_sub (a := 10) (by omega)
        have ew : nI w * 10 = nI (w * 10) := pk_mul w 10
        have eD : (((nI w * 10 + nI (10 - s_K S k) - 1) / nI (10 - s_K S k) * nI (s_L S k) + nI (s_J S k) - 1) / nI (s_J S k)) = nI (dvS (s_J S k) (s_L S k) (s_K S k) w) := by
          rw [ew, nI_add, sub1 (by omega), pk_div (by omega) (by omega) (by omega), pk_mul, nI_add, sub1 (by omega), pk_div (by omega) (by omega) (by omega)]; rfl
        rw [if_neg (show ¬ nI (s_J S k) < (1 : Int32) from (show ¬ nI (s_J S k) < nI 1 from nI_nlt (by omega) (by omega))), e10, if_pos (show (1 : Int32) ≤ nI (10 - s_K S k) from (show nI 1 ≤ nI (10 - s_K S k) from nI_le (by omega) (by omega))), nz_nI (by omega) (by omega), ck_tt, nz_nI (by omega) (by omega), ck_tt, eD, fnd_dv (by omega) b1 b5]
        by_cases c : dvS (s_J S k) (s_L S k) (s_K S k) w ≤ 24
        · rw [if_pos c, if_pos (show nI (dvS (s_J S k) (s_L S k) (s_K S k) w) ≤ (24 : Int32) from (show nI (dvS (s_J S k) (s_L S k) (s_K S k) w) ≤ nI 24 from nI_le c (by omega)))]
          refine congrArg (fun v : Int32 => (some (Sum.inl v) : Option (Int32 ⊕ String))) (?_ : imax 0 (nI (dvS (s_J S k) (s_L S k) (s_K S k) w) - nI (s_A S k)) = nI (dvS (s_J S k) (s_L S k) (s_K S k) w - s_A S k))
          by_cases c2 : s_A S k ≤ dvS (s_J S k) (s_L S k) (s_K S k) w
          · rw [pk_sub c2, l_0, imax_nI (by omega) (by omega), Nat.max_eq_right (by omega)]
          · unfold imax
            rw [if_neg (fun z => absurd (pk_sneg (a := dvS (s_J S k) (s_L S k) (s_K S k) w) (b := s_A S k) (by omega) (by omega)) (fun y => Int32.lt_irrefl (Int32.lt_trans y z))), show dvS (s_J S k) (s_L S k) (s_K S k) w - s_A S k = 0 by omega]
            rfl
        · rw [if_neg c, if_neg (show ¬ nI (dvS (s_J S k) (s_L S k) (s_K S k) w) ≤ (24 : Int32) from (show ¬ nI (dvS (s_J S k) (s_L S k) (s_K S k) w) ≤ nI 24 from nI_ge (by omega) (by omega)))]
          rfl
    refine ⟨_, _, hF, hM, ?_⟩
    cases fnd (brs S k w) 25 0 with
    | none => exact ⟨⟨by show cd _ 1 _ = some (M_code (mF mo 3)); rw [w_mF_code]; exact (show cd ["java/lang/IndexOutOfBoundsException", "java/lang/IllegalArgumentException", "java/util/NoSuchElementException"] 1 "java/util/NoSuchElementException" = some 3 by decide), by show ¬ M_code (mF mo 3) = 0; rw [w_mF_code]; decide⟩, hR.F hH 3⟩
    | some i => exact ⟨⟨w_mF_code mo 0, rfl⟩, hR.F hH 0⟩
  · refine ⟨.inr "java/lang/IndexOutOfBoundsException", (0, mF mo 1), ?_, ?_, ⟨?_, ?_⟩, hR.F hH 1⟩
    · unfold F_X4_hoursUntilBearsByDivision obx
      rw [e1]; rfl
    · unfold F_X5_hoursUntilBearsByDivision
      rw [e3]; rfl
    · rw [w_mF_code]; decide
    · rw [w_mF_code]; decide
  · refine ⟨.inr "java/lang/IllegalArgumentException", (0, mF mo 2), ?_, ?_, ⟨?_, ?_⟩, hR.F hH 2⟩
    · unfold F_X4_hoursUntilBearsByDivision obx
      rw [e1, Option.bind_some, Sum.elim_inl, e2]; rfl
    · unfold F_X5_hoursUntilBearsByDivision
      rw [e3]; rfl
    · rw [w_mF_code]; decide
    · rw [w_mF_code]; decide
end OPS3
