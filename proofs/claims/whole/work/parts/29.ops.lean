section OPS2
variable {H : Nat} {x : Xv} {b t sn : Bv} {h : Hv} {tx : Tv} {ln : Nv} {mo : Mv}
def R1b (exs : List String) (z : Bool ⊕ String) (zm : Bool × Mv) : Prop := Sum.elim (fun y => M_code zm.2 = 0 ∧ y = zm.1) (fun y => cd exs 1 y = some (M_code zm.2) ∧ ¬ M_code zm.2 = 0) z
theorem op_isStrained (hR : Rel H x b t sn h tx ln mo) (hH : H + 800 ≤ 900000) (p : Int32) : ∃ z zm, F_X4_isStrained x b p = some z ∧ F_X5_isStrained mo p = some zm ∧ R1b ["java/lang/IndexOutOfBoundsException"] z zm ∧ Rel (H + 800) x b t sn h tx ln zm.2 := by
  obtain ⟨⟨S, rfl, hI, hg⟩, -⟩ := id hR
  rcases span_c (x := x) hI hg p with ⟨k, hk, rfl, e1, e2⟩ | ⟨e1, e2⟩
  · refine ⟨.inl (stn S k), (stn S k, mF mo 0), ?_, ?_, ⟨w_mF_code mo 0, rfl⟩, hR.F hH 0⟩
    · unfold F_X4_isStrained obx
      rw [e1, Option.bind_some, Sum.elim_inl, c_strains hI hk, Option.bind_some]
    · unfold F_X5_isStrained
      refine gb e2 (gn (fun z => z rfl) (gb (m_strains (S := S) hI (by rw [w_mF_g]; exact hg) hk) ?_))
      cases stn S k
      · exact gp rfl rfl
      · exact gn bt1 rfl
  · refine ⟨.inr "java/lang/IndexOutOfBoundsException", (false, mF mo 1), ?_, ?_, ⟨?_, ?_⟩, hR.F hH 1⟩
    · unfold F_X4_isStrained obx
      rw [e1]; rfl
    · unfold F_X5_isStrained
      exact gb e2 (gp bt1 rfl)
    · rw [w_mF_code]; decide
    · rw [w_mF_code]; decide
theorem in_pos {v : Nat} (hv : v ≤ 8) (p : Int32) : (∃ j, j < v ∧ p = nI j ∧ F_X5_in p 0 (nI v - 1) = some true) ∨ ((p < 0 ∨ nI v ≤ p) ∧ F_X5_in p 0 (nI v - 1) = some false) := by
  have key : ∀ p : Int32, p < 0 ∨ nI v ≤ p → F_X5_in p 0 (nI v - 1) = some false := by
    intro q hq
    unfold F_X5_in
    by_cases c : q < 0
    · rw [if_pos c]
    · have h1 := hq.resolve_left c
      rw [if_neg c, if_pos]
      rw [Int32.le_iff_toInt_le, nI_toInt (by omega)] at h1
      rw [Int32.lt_iff_toInt_lt, l_1, pk_sub_toInt (by omega) (by omega)]
      omega
  rcases pk_ix p (n := v) (by omega) with hp | hp | ⟨j, hj, rfl⟩
  · exact Or.inr ⟨Or.inl hp, key p (Or.inl hp)⟩
  · exact Or.inr ⟨Or.inr hp, key p (Or.inr hp)⟩
  · refine Or.inl ⟨j, hj, rfl, ?_⟩
    rw [sub1 (by omega)]
    exact in_t (a := 0) (Nat.zero_le _) (by omega) (by omega)
theorem op_vehicleAt (hR : Rel H x b t sn h tx ln mo) (hH : H + 800 ≤ 900000) (p : Int32) : ∃ z zm, F_X4_vehicleAt x b p = some z ∧ F_X5_vehicleAt mo p = some zm ∧ R1 ["java/lang/IndexOutOfBoundsException"] z zm ∧ Rel (H + 800) x b t sn h tx ln zm.2 := by
  obtain ⟨⟨S, rfl, hI, hg⟩, -⟩ := id hR
  have hv := hI.1.2.1
  rcases in_pos hv p with ⟨j, hj, rfl, e2⟩ | ⟨hp, e2⟩
  · refine ⟨.inl (nI (s_N S j)), (nI (s_N S j), mF mo 0), ?_, ?_, ⟨w_mF_code mo 0, rfl⟩, hR.F hH 0⟩
    · unfold F_X4_vehicleAt
      rw [if_neg (nI_pos (by omega)), B_vehicles_to, if_pos (nI_lt hj (by omega)), inb_nI (by omega) (by omega), ck_tt, B_numbers_to, nI_clamp (by omega), fI_a]
    · unfold F_X5_vehicleAt
      rw [ub_1, ck_tt, zc_1, hg.1.2.1]
      exact gb e2 (gn bt1 (gb (fails_0 mo) (gp rfl (gb (on_N (S := S) (by rw [w_mF_g]; exact hg) hv hj) rfl))))
  · refine ⟨.inr "java/lang/IndexOutOfBoundsException", (0, mF mo 1), ?_, ?_, ⟨?_, ?_⟩, hR.F hH 1⟩
    · unfold F_X4_vehicleAt
      by_cases c : p < 0
      · rw [if_pos c]
      · rw [if_neg c, B_vehicles_to, if_neg (fun z => nle_lt z (hp.resolve_left c))]
    · unfold F_X5_vehicleAt
      rw [ub_1, ck_tt, zc_1, hg.1.2.1]
      exact gb e2 (gp rfl (gb (fails_1 mo) (gn bt1 rfl)))
    · rw [w_mF_code]; decide
    · rw [w_mF_code]; decide
theorem pos_L {S : Br} {p : Int32} {m2 : Mv} (hv : s_v S ≤ 8) (hg : RG (M_g m2) S) : ∀ (r fu i : Nat), i + r = s_v S → r < fu → (∃ j, i ≤ j ∧ j < s_v S ∧ nI (s_N S j) = p ∧ F_X0_positionOf_L2 (toB S) p (fun x1 => some (-1)) fu (nI i) = some (nI j) ∧ F_X5_placeOf_L2 m2 p (fun x2 => some (-1)) fu (nI i) = some (nI j)) ∨ ((∀ j, i ≤ j → j < s_v S → nI (s_N S j) ≠ p) ∧ F_X0_positionOf_L2 (toB S) p (fun x1 => some (-1)) fu (nI i) = some (-1) ∧ F_X5_placeOf_L2 m2 p (fun x2 => some (-1)) fu (nI i) = some (-1)) := by
  intro r
  induction r with
  | zero =>
    intro fu i hi hr
    obtain ⟨fu, rfl⟩ : ∃ f2, fu = f2 + 1 := ⟨fu - 1, by omega⟩
    refine Or.inr ⟨fun j h1 h2 => by omega, ?_, ?_⟩
    · unfold F_X0_positionOf_L2
      rw [B_vehicles_to, if_pos (nI_le (by omega) (by omega))]
    · unfold F_X5_placeOf_L2
      rw [ub_1, ck_tt, zc_1, hg.1.2.1, if_pos (nI_le (by omega) (by omega))]
  | succ r ih =>
    intro fu i hi hr
    obtain ⟨fu, rfl⟩ : ∃ f2, fu = f2 + 1 := ⟨fu - 1, by omega⟩
    have e1 : F_X0_positionOf_L2 (toB S) p (fun x1 => some (-1)) (fu + 1) (nI i) = if ¬ nI (s_N S i) = p then F_X0_positionOf_L2 (toB S) p (fun x1 => some (-1)) fu (nI (i + 1)) else some (nI i) := by
      conv => lhs; unfold F_X0_positionOf_L2
      rw [B_vehicles_to, if_neg (nI_ge (by omega) (by omega)), inb_nI (by omega) (by omega), ck_tt, B_numbers_to, nI_clamp (by omega), fI_a, add1]
    have e2 : F_X5_placeOf_L2 m2 p (fun x2 => some (-1)) (fu + 1) (nI i) = if ¬ nI (s_N S i) = p then F_X5_placeOf_L2 m2 p (fun x2 => some (-1)) fu (nI (i + 1)) else some (nI i) := by
      conv => lhs; unfold F_X5_placeOf_L2
      rw [ub_1, ck_tt, zc_1, hg.1.2.1, if_neg (nI_ge (by omega) (by omega)), on_N hg hv (by omega), Option.bind_some, add1]
    rw [e1, e2]
    by_cases c : nI (s_N S i) = p
    · rw [if_neg (fun z => z c), if_neg (fun z => z c)]
      exact Or.inl ⟨i, Nat.le_refl _, by omega, c, rfl, rfl⟩
    · rw [if_pos c, if_pos c]
      rcases ih fu (i + 1) (by omega) (by omega) with ⟨j, h1, h2, h3, h4, h5⟩ | ⟨h1, h2, h3⟩
      · exact Or.inl ⟨j, by omega, h2, h3, h4, h5⟩
      · refine Or.inr ⟨fun j k1 k2 => ?_, h2, h3⟩
        by_cases e : j = i
        · subst e; exact c
        · exact h1 j (by omega) k2
theorem pos_c {S : Br} (p : Int32) {m2 : Mv} (hv : s_v S ≤ 8) (hg : RG (M_g m2) S) : (∃ j, j < s_v S ∧ nI (s_N S j) = p ∧ F_X0_positionOf (toB S) p = some (nI j) ∧ F_X5_placeOf m2 p = some (nI j)) ∨ ((∀ j, j < s_v S → nI (s_N S j) ≠ p) ∧ F_X0_positionOf (toB S) p = some (-1) ∧ F_X5_placeOf m2 p = some (-1)) := by
  rcases pos_L (p := p) hv hg (s_v S) 1000 0 (by omega) (by omega) with ⟨j, h1, h2, h3, h4, h5⟩ | ⟨h1, h2, h3⟩
  · exact Or.inl ⟨j, h2, h3, h4, h5⟩
  · exact Or.inr ⟨fun j hj => h1 j (Nat.zero_le _) hj, h2, h3⟩
theorem gone_c {S : Br} (hI : Iv H S) (hg : RG (M_g mo) S) (p : Int32) : (∃ j, j < s_v S ∧ nI (s_N S j) = p ∧ F_X4_requirePosition x (toB S) p = some (.inl (nI j)) ∧ F_X5_isGone mo p = some (false, mF mo 0) ∧ ∀ m2, M_g m2 = M_g mo → F_X5_placeOf m2 p = some (nI j)) ∨ (F_X4_requirePosition x (toB S) p = some (.inr "java/util/NoSuchElementException") ∧ F_X5_isGone mo p = some (true, mF mo 1)) := by
  have hv := hI.1.2.1
  rcases pos_c p hv hg with ⟨j, h1, h2, h3, h4⟩ | ⟨h1, h2, h3⟩
  · refine Or.inl ⟨j, h1, h2, ?_, ?_, ?_⟩
    · unfold F_X4_requirePosition
      rw [h3, Option.bind_some, if_pos (fun z => by
        have := congrArg Int32.toInt z
        rw [nI_toInt (by omega), show (-1 : Int32).toInt = -1 by decide] at this
        omega)]
    · unfold F_X5_isGone
      rw [h4, Option.bind_some, if_pos (nI_pos' (by omega)), fails_0, Option.bind_some]
    · intro m2 hm
      rcases pos_c p (m2 := m2) hv (by rw [hm]; exact hg) with ⟨j2, k1, k2, k3, k4⟩ | ⟨k1, k2, k3⟩
      · rw [h3] at k3
        rw [k4, ← k3]
      · exact absurd h2 (k1 j h1)
  · refine Or.inr ⟨?_, ?_⟩
    · unfold F_X4_requirePosition
      rw [h2, Option.bind_some, if_neg (fun z => z rfl)]
    · unfold F_X5_isGone
      rw [h3, Option.bind_some, if_neg (by decide), fails_1, Option.bind_some]
theorem op_weightOf (hR : Rel H x b t sn h tx ln mo) (hH : H + 800 ≤ 900000) (p : Int32) : ∃ z zm, F_X4_weightOf x b p = some z ∧ F_X5_weightOf mo p = some zm ∧ R1 ["java/util/NoSuchElementException"] z zm ∧ Rel (H + 800) x b t sn h tx ln zm.2 := by
  obtain ⟨⟨S, rfl, hI, hg⟩, -⟩ := id hR
  have hv := hI.1.2.1
  rcases gone_c (x := x) hI hg p with ⟨j, hj, hp, e1, e2, e3⟩ | ⟨e1, e2⟩
  · refine ⟨.inl (nI (s_W S j)), (nI (s_W S j), mF mo 0), ?_, ?_, ⟨w_mF_code mo 0, rfl⟩, hR.F hH 0⟩
    · unfold F_X4_weightOf obx
      rw [e1, Option.bind_some, Sum.elim_inl, inb_nI (by omega) (by omega), ck_tt, B_weights_to, nI_clamp (by omega), fI_a]
    · unfold F_X5_weightOf
      exact gb e2 (gp rfl (gb (e3 (mF mo 0) (w_mF_g _ _)) (gb (on_W (S := S) (by rw [w_mF_g]; exact hg) hv hj) rfl)))
  · refine ⟨.inr "java/util/NoSuchElementException", (0, mF mo 1), ?_, ?_, ⟨?_, ?_⟩, hR.F hH 1⟩
    · unfold F_X4_weightOf obx
      rw [e1]; rfl
    · unfold F_X5_weightOf
      exact gb e2 (gn bt1 rfl)
    · rw [w_mF_code]; decide
    · rw [w_mF_code]; decide
theorem op_spanOf (hR : Rel H x b t sn h tx ln mo) (hH : H + 800 ≤ 900000) (p : Int32) : ∃ z zm, F_X4_spanOf x b p = some z ∧ F_X5_spanOf mo p = some zm ∧ R1 ["java/util/NoSuchElementException"] z zm ∧ Rel (H + 800) x b t sn h tx ln zm.2 := by
  obtain ⟨⟨S, rfl, hI, hg⟩, -⟩ := id hR
  have hv := hI.1.2.1
  rcases gone_c (x := x) hI hg p with ⟨j, hj, hp, e1, e2, e3⟩ | ⟨e1, e2⟩
  · refine ⟨.inl (nI (s_P S j)), (nI (s_P S j), mF mo 0), ?_, ?_, ⟨w_mF_code mo 0, rfl⟩, hR.F hH 0⟩
    · unfold F_X4_spanOf obx
      rw [e1, Option.bind_some, Sum.elim_inl, inb_nI (by omega) (by omega), ck_tt, B_places_to, nI_clamp (by omega), fI_a]
    · unfold F_X5_spanOf
      exact gb e2 (gp rfl (gb (e3 (mF mo 0) (w_mF_g _ _)) (gb (on_P (S := S) (by rw [w_mF_g]; exact hg) hv hj) rfl)))
  · refine ⟨.inr "java/util/NoSuchElementException", (0, mF mo 1), ?_, ?_, ⟨?_, ?_⟩, hR.F hH 1⟩
    · unfold F_X4_spanOf obx
      rw [e1]; rfl
    · unfold F_X5_spanOf
      exact gb e2 (gn bt1 rfl)
    · rw [w_mF_code]; decide
    · rw [w_mF_code]; decide
theorem op_tollOf (hR : Rel H x b t sn h tx ln mo) (hH : H + 800 ≤ 900000) (p : Int32) : ∃ z zm, F_X4_tollOf x b p = some z ∧ F_X5_tollOf mo p = some zm ∧ R1 ["java/util/NoSuchElementException"] z zm ∧ Rel (H + 800) x b t sn h tx ln zm.2 := by
  obtain ⟨⟨S, rfl, hI, hg⟩, -⟩ := id hR
  have hv := hI.1.2.1
  rcases gone_c (x := x) hI hg p with ⟨j, hj, hp, e1, e2, e3⟩ | ⟨e1, e2⟩
  · refine ⟨.inl (nI (tol S j)), (nI (tol S j), mF mo 0), ?_, ?_, ⟨w_mF_code mo 0, rfl⟩, hR.F hH 0⟩
    · unfold F_X4_tollOf obx
      rw [e1, Option.bind_some, Sum.elim_inl, c_toll hI hj, Option.bind_some]
    · unfold F_X5_tollOf
      exact gb e2 (gp rfl (gb (e3 (mF mo 0) (w_mF_g _ _)) (gb (on_W (S := S) (by rw [w_mF_g]; exact hg) hv hj) (gb (m_toll (S := S) hI (by rw [w_mF_g]; exact hg) hj) rfl))))
  · refine ⟨.inr "java/util/NoSuchElementException", (0, mF mo 1), ?_, ?_, ⟨?_, ?_⟩, hR.F hH 1⟩
    · unfold F_X4_tollOf obx
      rw [e1]; rfl
    · unfold F_X5_tollOf
      exact gb e2 (gn bt1 rfl)
    · rw [w_mF_code]; decide
    · rw [w_mF_code]; decide
/-! sums -/
def sg (f : Nat → Nat) : Nat → Nat
  | 0 => 0
  | n + 1 => sg f n + f n
theorem sg_upd {f g : Nat → Nat} {q w : Nat} (h1 : ∀ k, k ≠ q → g k = f k) (h2 : g q = f q + w) : ∀ n, sg g n = sg f n + (if q < n then w else 0) := by
  intro n
  induction n with
  | zero => rfl
  | succ n ih =>
    unfold sg
    rw [ih]
    by_cases e : n = q
    · subst e
      rw [h2, if_neg (by omega), if_pos (by omega)]; omega
    · rw [h1 n e]
      by_cases c : q < n
      · rw [if_pos c, if_pos (by omega)]; omega
      · rw [if_neg c, if_neg (by omega)]; omega
theorem sg_zero : ∀ n, sg (fun _ => 0) n = 0 := by
  intro n
  induction n with
  | zero => rfl
  | succ n ih => unfold sg; rw [ih]
theorem sg_ld {W P : Nat → Nat} {n v : Nat} (hP : ∀ j, j < v → P j < n) : ∀ i, i ≤ v → sg (fun k => ldU W P k i) n = sg W i := by
  intro i
  induction i with
  | zero => intro _; exact sg_zero n
  | succ i ih =>
    intro hi
    have h1 := ih (by omega)
    have h2 := sg_upd (f := fun k => ldU W P k i) (g := fun k => ldU W P k (i + 1)) (q := P i) (w := W i) (fun k hk => if_neg (fun z => hk z.symm)) (if_pos rfl) n
    rw [h2, h1, if_pos (hP i (by omega))]
    rfl
theorem sum_m {S : Br} (hI : Iv H S) (hg : RG (M_g mo) S) : F_X5_sum mo = some (nI (sg (s_W S) (s_v S)), m_code mo 0) := by
  have hv := hI.1.2.1
  have hg2 : RG (M_g (m_code mo 0)) S := by rw [r_g_code]; exact hg
  have key : ∀ (r fu i : Nat), i + r = s_v S → r < fu → F_X5_sum_L9 (fun b2 x3 x4 => some (x3, b2)) fu (m_code mo 0) (nI (sg (s_W S) i)) (nI i) = some (nI (sg (s_W S) (s_v S)), m_code mo 0) := by
    intro r
    induction r with
    | zero =>
      intro fu i hi hr
      obtain ⟨fu, rfl⟩ : ∃ f2, fu = f2 + 1 := ⟨fu - 1, by omega⟩
      have : i = s_v S := by omega
      subst this
      unfold F_X5_sum_L9
      rw [ub_1, ck_tt, zc_1, hg2.1.2.1, if_pos (nI_le (Nat.le_refl _) (by omega))]
    | succ r ih =>
      intro fu i hi hr
      obtain ⟨fu, rfl⟩ : ∃ f2, fu = f2 + 1 := ⟨fu - 1, by omega⟩
      unfold F_X5_sum_L9
      rw [ub_1, ck_tt, zc_1, hg2.1.2.1, if_neg (nI_ge (by omega) (by omega)), on_W hg2 hv (by omega), Option.bind_some, nI_add, add1]
      exact ih fu (i + 1) (by omega) (by omega)
  exact key (s_v S) 1000 0 (by omega) (by omega)
theorem op_totalLoad (hR : Rel H x b t sn h tx ln mo) (hH : H + 800 ≤ 900000) : ∃ v zm, F_X4_totalLoad x b = some v ∧ F_X5_totalLoad mo = some (v, zm) ∧ Rel (H + 800) x b t sn h tx ln zm := by
  obtain ⟨⟨S, rfl, hI, hg⟩, -⟩ := id hR
  refine ⟨nI (sg (s_W S) (s_v S)), _, ?_, ?_, hR.code hH 0⟩
  · have key : ∀ (r fu i : Nat), i + r = s_n S → r < fu → F_X4_totalLoad_L4 x (toB S) (fun x2 x3 => some x2) fu (nI (sg (fun k => ld S k) i)) (nI i) = some (nI (sg (fun k => ld S k) (s_n S))) := by
      have hn := hI.1.1
      intro r
      induction r with
      | zero =>
        intro fu i hi hr
        obtain ⟨fu, rfl⟩ : ∃ f2, fu = f2 + 1 := ⟨fu - 1, by omega⟩
        have : i = s_n S := by omega
        subst this
        unfold F_X4_totalLoad_L4
        rw [B_spans_to, if_pos (nI_le (Nat.le_refl _) (by omega))]
      | succ r ih =>
        intro fu i hi hr
        obtain ⟨fu, rfl⟩ : ∃ f2, fu = f2 + 1 := ⟨fu - 1, by omega⟩
        unfold F_X4_totalLoad_L4
        rw [B_spans_to, if_neg (nI_ge (by omega) (by omega)), c_ld hI (by omega), Option.bind_some, nI_add, add1]
        exact ih fu (i + 1) (by omega) (by omega)
    have h9 := key (s_n S) 1000 0 (by omega) (by have := hI.1.1; omega)
    rw [show sg (fun k => ld S k) (s_n S) = sg (s_W S) (s_v S) from sg_ld (fun j hj => (hI.2.2.1 j hj).2.2.1) (s_v S) (Nat.le_refl _)] at h9
    exact h9
  · have e := sum_m hI hg
    unfold F_X5_totalLoad
    rw [e]; rfl
theorem op_totalLoadByVehicles (hR : Rel H x b t sn h tx ln mo) (hH : H + 800 ≤ 900000) : ∃ v zm, F_X4_totalLoadByVehicles x b = some v ∧ F_X5_totalLoadByVehicles mo = some (v, zm) ∧ Rel (H + 800) x b t sn h tx ln zm := by
  obtain ⟨⟨S, rfl, hI, hg⟩, -⟩ := id hR
  refine ⟨nI (sg (s_W S) (s_v S)), _, ?_, ?_, hR.code hH 0⟩
  · have key : ∀ (r fu i : Nat), i + r = s_v S → r < fu → F_X4_totalLoadByVehicles_L4 x (toB S) (fun x1 x2 => some x1) fu (nI (sg (s_W S) i)) (nI i) = some (nI (sg (s_W S) (s_v S))) := by
      have hv := hI.1.2.1
      intro r
      induction r with
      | zero =>
        intro fu i hi hr
        obtain ⟨fu, rfl⟩ : ∃ f2, fu = f2 + 1 := ⟨fu - 1, by omega⟩
        have : i = s_v S := by omega
        subst this
        unfold F_X4_totalLoadByVehicles_L4
        rw [B_vehicles_to, if_pos (nI_le (Nat.le_refl _) (by omega))]
      | succ r ih =>
        intro fu i hi hr
        obtain ⟨fu, rfl⟩ : ∃ f2, fu = f2 + 1 := ⟨fu - 1, by omega⟩
        unfold F_X4_totalLoadByVehicles_L4
        rw [B_vehicles_to, if_neg (nI_ge (by omega) (by omega)), inb_nI (by omega) (by omega), ck_tt, B_weights_to, nI_clamp (by omega), fI_a, nI_add, add1]
        exact ih fu (i + 1) (by omega) (by omega)
    exact key (s_v S) 1000 0 (by omega) (by have := hI.1.2.1; omega)
  · have e := sum_m hI hg
    unfold F_X5_totalLoadByVehicles
    rw [e]; rfl
theorem op_greatestWeight (hR : Rel H x b t sn h tx ln mo) (hH : H + 800 ≤ 900000) : ∃ v zm, F_X4_greatestWeight x b = some v ∧ F_X5_greatestWeight mo = some (v, zm) ∧ Rel (H + 800) x b t sn h tx ln zm := by
  obtain ⟨⟨S, rfl, hI, hg⟩, -⟩ := id hR
  have hn := hI.1.1
  have hv := hI.1.2.1
  by_cases c0 : s_n S = 0
  · refine ⟨0, m_code mo 0, ?_, ?_, hR.code hH 0⟩
    · unfold F_X4_greatestWeight
      exact gp (by rw [B_spans_to, c0]; rfl) rfl
    · unfold F_X5_greatestWeight
      exact gk ub_0 (gp (by rw [zc_0, hg.1.1, c0]; rfl) rfl)
  · have e0 : ¬ nI (s_n S) = 0 := nI_ne0 (by omega) (by omega)
    by_cases c1 : s_v S < 8
    · have z1 : F_X0_strengthOf (toB S) 0 = some (nI (str S 0)) := c_str hI (k := 0) (by omega)
      have z2 : F_X0_loadOf (toB S) 0 = some (nI (ld S 0)) := c_ld hI (k := 0) (by omega)
      have z3 : F_X5_strong (m_code mo 0) 0 = some (nI (str S 0)) := m_strong (S := S) hI (by rw [r_g_code]; exact hg) (k := 0) (by omega)
      have z4 : F_X5_loaded (m_code mo 0) 0 = some (nI (ld S 0)) := m_loaded (S := S) hI (by rw [r_g_code]; exact hg) (k := 0) (by omega)
      have hl : F_X5_least 99 (nI (str S 0) - nI (ld S 0)) = some (imin 99 (nI (str S 0) - nI (ld S 0))) := by
        unfold F_X5_least imin
        by_cases q1 : nI (str S 0) - nI (ld S 0) < 99
        · rw [if_pos q1, if_pos (Int32.le_of_lt q1)]
        · rw [if_neg q1]
          by_cases q2 : nI (str S 0) - nI (ld S 0) ≤ 99
          · rw [if_pos q2, Int32.le_antisymm q2 (Int32.not_lt.mp q1)]
          · rw [if_neg q2]
      refine ⟨imax 0 (imin 99 (nI (str S 0) - nI (ld S 0))), m_code mo 0, ?_, ?_, hR.code hH 0⟩
      · unfold F_X4_greatestWeight
        exact gn (by rw [B_spans_to]; exact e0) (gp (by rw [B_vehicles_to]; exact (show nI (s_v S) < nI 8 from nI_lt c1 (by omega))) (gb z1 (gb z2 rfl)))
      · unfold F_X5_greatestWeight
        refine gk ub_0 (gn (by rw [zc_0, hg.1.1]; exact e0) (gk ub_1 (gp (by rw [zc_1, hg.1.2.1]; exact fun z => absurd ((nI_eq (by omega) (by omega)).mp (show nI (s_v S) = nI 8 from z)) (by omega)) (gb z3 (gb z4 (gb hl ?_))))))
        unfold imax
        by_cases q : 0 < imin 99 (nI (str S 0) - nI (ld S 0))
        · rw [if_pos q, if_neg (nle_lt q)]; rfl
        · rw [if_neg q, if_pos (Int32.not_lt.mp q)]; rfl
    · refine ⟨0, m_code mo 0, ?_, ?_, hR.code hH 0⟩
      · unfold F_X4_greatestWeight
        exact gn (by rw [B_spans_to]; exact e0) (gn (by rw [B_vehicles_to]; exact (show ¬ nI (s_v S) < nI 8 from nI_nlt (by omega) (by omega))) rfl)
      · unfold F_X5_greatestWeight
        exact gk ub_0 (gn (by rw [zc_0, hg.1.1]; exact e0) (gk ub_1 (gn (by rw [zc_1, hg.1.2.1]; exact fun z => z (congrArg nI (show s_v S = 8 by omega))) rfl)))
end OPS2
