def m_g (x : Mv) (y : Nat → Int32) : Mv := mkM y (M_kept x) (M_saved x) (M_before x) (M_trial x) (M_counted x) (M_isSaved x) (M_changes x) (M_isWithin x) (M_isDenied x) (M_code x) (M_why x) (M_detail x) (M_cause x) (M_input x) (M_length x) (M_fault x) (M_signs x) (M_signMany x) (M_lastOver x) (M_at x) (M_told x) (M_toldMany x)
def m_kept (x : Mv) (y : Nat → Int32) : Mv := mkM (M_g x) y (M_saved x) (M_before x) (M_trial x) (M_counted x) (M_isSaved x) (M_changes x) (M_isWithin x) (M_isDenied x) (M_code x) (M_why x) (M_detail x) (M_cause x) (M_input x) (M_length x) (M_fault x) (M_signs x) (M_signMany x) (M_lastOver x) (M_at x) (M_told x) (M_toldMany x)
def m_saved (x : Mv) (y : Nat → Int32) : Mv := mkM (M_g x) (M_kept x) y (M_before x) (M_trial x) (M_counted x) (M_isSaved x) (M_changes x) (M_isWithin x) (M_isDenied x) (M_code x) (M_why x) (M_detail x) (M_cause x) (M_input x) (M_length x) (M_fault x) (M_signs x) (M_signMany x) (M_lastOver x) (M_at x) (M_told x) (M_toldMany x)
def m_before (x : Mv) (y : Nat → Int32) : Mv := mkM (M_g x) (M_kept x) (M_saved x) y (M_trial x) (M_counted x) (M_isSaved x) (M_changes x) (M_isWithin x) (M_isDenied x) (M_code x) (M_why x) (M_detail x) (M_cause x) (M_input x) (M_length x) (M_fault x) (M_signs x) (M_signMany x) (M_lastOver x) (M_at x) (M_told x) (M_toldMany x)
def m_trial (x : Mv) (y : Nat → Int32) : Mv := mkM (M_g x) (M_kept x) (M_saved x) (M_before x) y (M_counted x) (M_isSaved x) (M_changes x) (M_isWithin x) (M_isDenied x) (M_code x) (M_why x) (M_detail x) (M_cause x) (M_input x) (M_length x) (M_fault x) (M_signs x) (M_signMany x) (M_lastOver x) (M_at x) (M_told x) (M_toldMany x)
def m_counted (x : Mv) (y : Nat → Int32) : Mv := mkM (M_g x) (M_kept x) (M_saved x) (M_before x) (M_trial x) y (M_isSaved x) (M_changes x) (M_isWithin x) (M_isDenied x) (M_code x) (M_why x) (M_detail x) (M_cause x) (M_input x) (M_length x) (M_fault x) (M_signs x) (M_signMany x) (M_lastOver x) (M_at x) (M_told x) (M_toldMany x)
def m_isSaved (x : Mv) (y : Int32) : Mv := mkM (M_g x) (M_kept x) (M_saved x) (M_before x) (M_trial x) (M_counted x) y (M_changes x) (M_isWithin x) (M_isDenied x) (M_code x) (M_why x) (M_detail x) (M_cause x) (M_input x) (M_length x) (M_fault x) (M_signs x) (M_signMany x) (M_lastOver x) (M_at x) (M_told x) (M_toldMany x)
def m_changes (x : Mv) (y : Int32) : Mv := mkM (M_g x) (M_kept x) (M_saved x) (M_before x) (M_trial x) (M_counted x) (M_isSaved x) y (M_isWithin x) (M_isDenied x) (M_code x) (M_why x) (M_detail x) (M_cause x) (M_input x) (M_length x) (M_fault x) (M_signs x) (M_signMany x) (M_lastOver x) (M_at x) (M_told x) (M_toldMany x)
def m_isWithin (x : Mv) (y : Int32) : Mv := mkM (M_g x) (M_kept x) (M_saved x) (M_before x) (M_trial x) (M_counted x) (M_isSaved x) (M_changes x) y (M_isDenied x) (M_code x) (M_why x) (M_detail x) (M_cause x) (M_input x) (M_length x) (M_fault x) (M_signs x) (M_signMany x) (M_lastOver x) (M_at x) (M_told x) (M_toldMany x)
def m_isDenied (x : Mv) (y : Int32) : Mv := mkM (M_g x) (M_kept x) (M_saved x) (M_before x) (M_trial x) (M_counted x) (M_isSaved x) (M_changes x) (M_isWithin x) y (M_code x) (M_why x) (M_detail x) (M_cause x) (M_input x) (M_length x) (M_fault x) (M_signs x) (M_signMany x) (M_lastOver x) (M_at x) (M_told x) (M_toldMany x)
def m_code (x : Mv) (y : Int32) : Mv := mkM (M_g x) (M_kept x) (M_saved x) (M_before x) (M_trial x) (M_counted x) (M_isSaved x) (M_changes x) (M_isWithin x) (M_isDenied x) y (M_why x) (M_detail x) (M_cause x) (M_input x) (M_length x) (M_fault x) (M_signs x) (M_signMany x) (M_lastOver x) (M_at x) (M_told x) (M_toldMany x)
def m_why (x : Mv) (y : Int32) : Mv := mkM (M_g x) (M_kept x) (M_saved x) (M_before x) (M_trial x) (M_counted x) (M_isSaved x) (M_changes x) (M_isWithin x) (M_isDenied x) (M_code x) y (M_detail x) (M_cause x) (M_input x) (M_length x) (M_fault x) (M_signs x) (M_signMany x) (M_lastOver x) (M_at x) (M_told x) (M_toldMany x)
def m_detail (x : Mv) (y : Int32) : Mv := mkM (M_g x) (M_kept x) (M_saved x) (M_before x) (M_trial x) (M_counted x) (M_isSaved x) (M_changes x) (M_isWithin x) (M_isDenied x) (M_code x) (M_why x) y (M_cause x) (M_input x) (M_length x) (M_fault x) (M_signs x) (M_signMany x) (M_lastOver x) (M_at x) (M_told x) (M_toldMany x)
def m_cause (x : Mv) (y : Int32) : Mv := mkM (M_g x) (M_kept x) (M_saved x) (M_before x) (M_trial x) (M_counted x) (M_isSaved x) (M_changes x) (M_isWithin x) (M_isDenied x) (M_code x) (M_why x) (M_detail x) y (M_input x) (M_length x) (M_fault x) (M_signs x) (M_signMany x) (M_lastOver x) (M_at x) (M_told x) (M_toldMany x)
def m_input (x : Mv) (y : Nat → Int32) : Mv := mkM (M_g x) (M_kept x) (M_saved x) (M_before x) (M_trial x) (M_counted x) (M_isSaved x) (M_changes x) (M_isWithin x) (M_isDenied x) (M_code x) (M_why x) (M_detail x) (M_cause x) y (M_length x) (M_fault x) (M_signs x) (M_signMany x) (M_lastOver x) (M_at x) (M_told x) (M_toldMany x)
def m_length (x : Mv) (y : Int32) : Mv := mkM (M_g x) (M_kept x) (M_saved x) (M_before x) (M_trial x) (M_counted x) (M_isSaved x) (M_changes x) (M_isWithin x) (M_isDenied x) (M_code x) (M_why x) (M_detail x) (M_cause x) (M_input x) y (M_fault x) (M_signs x) (M_signMany x) (M_lastOver x) (M_at x) (M_told x) (M_toldMany x)
def m_fault (x : Mv) (y : Int32) : Mv := mkM (M_g x) (M_kept x) (M_saved x) (M_before x) (M_trial x) (M_counted x) (M_isSaved x) (M_changes x) (M_isWithin x) (M_isDenied x) (M_code x) (M_why x) (M_detail x) (M_cause x) (M_input x) (M_length x) y (M_signs x) (M_signMany x) (M_lastOver x) (M_at x) (M_told x) (M_toldMany x)
def m_signs (x : Mv) (y : Nat → Int32) : Mv := mkM (M_g x) (M_kept x) (M_saved x) (M_before x) (M_trial x) (M_counted x) (M_isSaved x) (M_changes x) (M_isWithin x) (M_isDenied x) (M_code x) (M_why x) (M_detail x) (M_cause x) (M_input x) (M_length x) (M_fault x) y (M_signMany x) (M_lastOver x) (M_at x) (M_told x) (M_toldMany x)
def m_signMany (x : Mv) (y : Int32) : Mv := mkM (M_g x) (M_kept x) (M_saved x) (M_before x) (M_trial x) (M_counted x) (M_isSaved x) (M_changes x) (M_isWithin x) (M_isDenied x) (M_code x) (M_why x) (M_detail x) (M_cause x) (M_input x) (M_length x) (M_fault x) (M_signs x) y (M_lastOver x) (M_at x) (M_told x) (M_toldMany x)
def m_lastOver (x : Mv) (y : Int32) : Mv := mkM (M_g x) (M_kept x) (M_saved x) (M_before x) (M_trial x) (M_counted x) (M_isSaved x) (M_changes x) (M_isWithin x) (M_isDenied x) (M_code x) (M_why x) (M_detail x) (M_cause x) (M_input x) (M_length x) (M_fault x) (M_signs x) (M_signMany x) y (M_at x) (M_told x) (M_toldMany x)
def m_at (x : Mv) (y : Int32) : Mv := mkM (M_g x) (M_kept x) (M_saved x) (M_before x) (M_trial x) (M_counted x) (M_isSaved x) (M_changes x) (M_isWithin x) (M_isDenied x) (M_code x) (M_why x) (M_detail x) (M_cause x) (M_input x) (M_length x) (M_fault x) (M_signs x) (M_signMany x) (M_lastOver x) y (M_told x) (M_toldMany x)
def m_told (x : Mv) (y : Nat → Int32) : Mv := mkM (M_g x) (M_kept x) (M_saved x) (M_before x) (M_trial x) (M_counted x) (M_isSaved x) (M_changes x) (M_isWithin x) (M_isDenied x) (M_code x) (M_why x) (M_detail x) (M_cause x) (M_input x) (M_length x) (M_fault x) (M_signs x) (M_signMany x) (M_lastOver x) (M_at x) y (M_toldMany x)
def m_toldMany (x : Mv) (y : Int32) : Mv := mkM (M_g x) (M_kept x) (M_saved x) (M_before x) (M_trial x) (M_counted x) (M_isSaved x) (M_changes x) (M_isWithin x) (M_isDenied x) (M_code x) (M_why x) (M_detail x) (M_cause x) (M_input x) (M_length x) (M_fault x) (M_signs x) (M_signMany x) (M_lastOver x) (M_at x) (M_told x) y
theorem mkM_g (x : Mv) (y : Nat → Int32) : mkM y (M_kept x) (M_saved x) (M_before x) (M_trial x) (M_counted x) (M_isSaved x) (M_changes x) (M_isWithin x) (M_isDenied x) (M_code x) (M_why x) (M_detail x) (M_cause x) (M_input x) (M_length x) (M_fault x) (M_signs x) (M_signMany x) (M_lastOver x) (M_at x) (M_told x) (M_toldMany x) = m_g x y := rfl
theorem e_g (x : Mv) (z y : Nat → Int32) : mkM y (M_kept (m_g x z)) (M_saved (m_g x z)) (M_before (m_g x z)) (M_trial (m_g x z)) (M_counted (m_g x z)) (M_isSaved (m_g x z)) (M_changes (m_g x z)) (M_isWithin (m_g x z)) (M_isDenied (m_g x z)) (M_code (m_g x z)) (M_why (m_g x z)) (M_detail (m_g x z)) (M_cause (m_g x z)) (M_input (m_g x z)) (M_length (m_g x z)) (M_fault (m_g x z)) (M_signs (m_g x z)) (M_signMany (m_g x z)) (M_lastOver (m_g x z)) (M_at (m_g x z)) (M_told (m_g x z)) (M_toldMany (m_g x z)) = m_g x y := rfl
theorem mm_g (x : Mv) (z y : Nat → Int32) : m_g (m_g x z) y = m_g x y := rfl
theorem r_g_g (x : Mv) (y : Nat → Int32) : M_g (m_g x y) = y := rfl
theorem r_kept_g (x : Mv) (y : Nat → Int32) : M_kept (m_g x y) = M_kept x := rfl
theorem r_saved_g (x : Mv) (y : Nat → Int32) : M_saved (m_g x y) = M_saved x := rfl
theorem r_before_g (x : Mv) (y : Nat → Int32) : M_before (m_g x y) = M_before x := rfl
theorem r_trial_g (x : Mv) (y : Nat → Int32) : M_trial (m_g x y) = M_trial x := rfl
theorem r_counted_g (x : Mv) (y : Nat → Int32) : M_counted (m_g x y) = M_counted x := rfl
theorem r_isSaved_g (x : Mv) (y : Nat → Int32) : M_isSaved (m_g x y) = M_isSaved x := rfl
theorem r_changes_g (x : Mv) (y : Nat → Int32) : M_changes (m_g x y) = M_changes x := rfl
theorem r_isWithin_g (x : Mv) (y : Nat → Int32) : M_isWithin (m_g x y) = M_isWithin x := rfl
theorem r_isDenied_g (x : Mv) (y : Nat → Int32) : M_isDenied (m_g x y) = M_isDenied x := rfl
theorem r_code_g (x : Mv) (y : Nat → Int32) : M_code (m_g x y) = M_code x := rfl
theorem r_why_g (x : Mv) (y : Nat → Int32) : M_why (m_g x y) = M_why x := rfl
theorem r_detail_g (x : Mv) (y : Nat → Int32) : M_detail (m_g x y) = M_detail x := rfl
theorem r_cause_g (x : Mv) (y : Nat → Int32) : M_cause (m_g x y) = M_cause x := rfl
theorem r_input_g (x : Mv) (y : Nat → Int32) : M_input (m_g x y) = M_input x := rfl
theorem r_length_g (x : Mv) (y : Nat → Int32) : M_length (m_g x y) = M_length x := rfl
theorem r_fault_g (x : Mv) (y : Nat → Int32) : M_fault (m_g x y) = M_fault x := rfl
theorem r_signs_g (x : Mv) (y : Nat → Int32) : M_signs (m_g x y) = M_signs x := rfl
theorem r_signMany_g (x : Mv) (y : Nat → Int32) : M_signMany (m_g x y) = M_signMany x := rfl
theorem r_lastOver_g (x : Mv) (y : Nat → Int32) : M_lastOver (m_g x y) = M_lastOver x := rfl
theorem r_at_g (x : Mv) (y : Nat → Int32) : M_at (m_g x y) = M_at x := rfl
theorem r_told_g (x : Mv) (y : Nat → Int32) : M_told (m_g x y) = M_told x := rfl
theorem r_toldMany_g (x : Mv) (y : Nat → Int32) : M_toldMany (m_g x y) = M_toldMany x := rfl
theorem mkM_kept (x : Mv) (y : Nat → Int32) : mkM (M_g x) y (M_saved x) (M_before x) (M_trial x) (M_counted x) (M_isSaved x) (M_changes x) (M_isWithin x) (M_isDenied x) (M_code x) (M_why x) (M_detail x) (M_cause x) (M_input x) (M_length x) (M_fault x) (M_signs x) (M_signMany x) (M_lastOver x) (M_at x) (M_told x) (M_toldMany x) = m_kept x y := rfl
theorem e_kept (x : Mv) (z y : Nat → Int32) : mkM (M_g (m_kept x z)) y (M_saved (m_kept x z)) (M_before (m_kept x z)) (M_trial (m_kept x z)) (M_counted (m_kept x z)) (M_isSaved (m_kept x z)) (M_changes (m_kept x z)) (M_isWithin (m_kept x z)) (M_isDenied (m_kept x z)) (M_code (m_kept x z)) (M_why (m_kept x z)) (M_detail (m_kept x z)) (M_cause (m_kept x z)) (M_input (m_kept x z)) (M_length (m_kept x z)) (M_fault (m_kept x z)) (M_signs (m_kept x z)) (M_signMany (m_kept x z)) (M_lastOver (m_kept x z)) (M_at (m_kept x z)) (M_told (m_kept x z)) (M_toldMany (m_kept x z)) = m_kept x y := rfl
theorem mm_kept (x : Mv) (z y : Nat → Int32) : m_kept (m_kept x z) y = m_kept x y := rfl
theorem r_g_kept (x : Mv) (y : Nat → Int32) : M_g (m_kept x y) = M_g x := rfl
theorem r_kept_kept (x : Mv) (y : Nat → Int32) : M_kept (m_kept x y) = y := rfl
theorem r_saved_kept (x : Mv) (y : Nat → Int32) : M_saved (m_kept x y) = M_saved x := rfl
theorem r_before_kept (x : Mv) (y : Nat → Int32) : M_before (m_kept x y) = M_before x := rfl
theorem r_trial_kept (x : Mv) (y : Nat → Int32) : M_trial (m_kept x y) = M_trial x := rfl
theorem r_counted_kept (x : Mv) (y : Nat → Int32) : M_counted (m_kept x y) = M_counted x := rfl
theorem r_isSaved_kept (x : Mv) (y : Nat → Int32) : M_isSaved (m_kept x y) = M_isSaved x := rfl
theorem r_changes_kept (x : Mv) (y : Nat → Int32) : M_changes (m_kept x y) = M_changes x := rfl
theorem r_isWithin_kept (x : Mv) (y : Nat → Int32) : M_isWithin (m_kept x y) = M_isWithin x := rfl
theorem r_isDenied_kept (x : Mv) (y : Nat → Int32) : M_isDenied (m_kept x y) = M_isDenied x := rfl
theorem r_code_kept (x : Mv) (y : Nat → Int32) : M_code (m_kept x y) = M_code x := rfl
theorem r_why_kept (x : Mv) (y : Nat → Int32) : M_why (m_kept x y) = M_why x := rfl
theorem r_detail_kept (x : Mv) (y : Nat → Int32) : M_detail (m_kept x y) = M_detail x := rfl
theorem r_cause_kept (x : Mv) (y : Nat → Int32) : M_cause (m_kept x y) = M_cause x := rfl
theorem r_input_kept (x : Mv) (y : Nat → Int32) : M_input (m_kept x y) = M_input x := rfl
theorem r_length_kept (x : Mv) (y : Nat → Int32) : M_length (m_kept x y) = M_length x := rfl
theorem r_fault_kept (x : Mv) (y : Nat → Int32) : M_fault (m_kept x y) = M_fault x := rfl
theorem r_signs_kept (x : Mv) (y : Nat → Int32) : M_signs (m_kept x y) = M_signs x := rfl
theorem r_signMany_kept (x : Mv) (y : Nat → Int32) : M_signMany (m_kept x y) = M_signMany x := rfl
theorem r_lastOver_kept (x : Mv) (y : Nat → Int32) : M_lastOver (m_kept x y) = M_lastOver x := rfl
theorem r_at_kept (x : Mv) (y : Nat → Int32) : M_at (m_kept x y) = M_at x := rfl
theorem r_told_kept (x : Mv) (y : Nat → Int32) : M_told (m_kept x y) = M_told x := rfl
theorem r_toldMany_kept (x : Mv) (y : Nat → Int32) : M_toldMany (m_kept x y) = M_toldMany x := rfl
theorem mkM_saved (x : Mv) (y : Nat → Int32) : mkM (M_g x) (M_kept x) y (M_before x) (M_trial x) (M_counted x) (M_isSaved x) (M_changes x) (M_isWithin x) (M_isDenied x) (M_code x) (M_why x) (M_detail x) (M_cause x) (M_input x) (M_length x) (M_fault x) (M_signs x) (M_signMany x) (M_lastOver x) (M_at x) (M_told x) (M_toldMany x) = m_saved x y := rfl
theorem e_saved (x : Mv) (z y : Nat → Int32) : mkM (M_g (m_saved x z)) (M_kept (m_saved x z)) y (M_before (m_saved x z)) (M_trial (m_saved x z)) (M_counted (m_saved x z)) (M_isSaved (m_saved x z)) (M_changes (m_saved x z)) (M_isWithin (m_saved x z)) (M_isDenied (m_saved x z)) (M_code (m_saved x z)) (M_why (m_saved x z)) (M_detail (m_saved x z)) (M_cause (m_saved x z)) (M_input (m_saved x z)) (M_length (m_saved x z)) (M_fault (m_saved x z)) (M_signs (m_saved x z)) (M_signMany (m_saved x z)) (M_lastOver (m_saved x z)) (M_at (m_saved x z)) (M_told (m_saved x z)) (M_toldMany (m_saved x z)) = m_saved x y := rfl
theorem mm_saved (x : Mv) (z y : Nat → Int32) : m_saved (m_saved x z) y = m_saved x y := rfl
theorem r_g_saved (x : Mv) (y : Nat → Int32) : M_g (m_saved x y) = M_g x := rfl
theorem r_kept_saved (x : Mv) (y : Nat → Int32) : M_kept (m_saved x y) = M_kept x := rfl
theorem r_saved_saved (x : Mv) (y : Nat → Int32) : M_saved (m_saved x y) = y := rfl
theorem r_before_saved (x : Mv) (y : Nat → Int32) : M_before (m_saved x y) = M_before x := rfl
theorem r_trial_saved (x : Mv) (y : Nat → Int32) : M_trial (m_saved x y) = M_trial x := rfl
theorem r_counted_saved (x : Mv) (y : Nat → Int32) : M_counted (m_saved x y) = M_counted x := rfl
theorem r_isSaved_saved (x : Mv) (y : Nat → Int32) : M_isSaved (m_saved x y) = M_isSaved x := rfl
theorem r_changes_saved (x : Mv) (y : Nat → Int32) : M_changes (m_saved x y) = M_changes x := rfl
theorem r_isWithin_saved (x : Mv) (y : Nat → Int32) : M_isWithin (m_saved x y) = M_isWithin x := rfl
theorem r_isDenied_saved (x : Mv) (y : Nat → Int32) : M_isDenied (m_saved x y) = M_isDenied x := rfl
theorem r_code_saved (x : Mv) (y : Nat → Int32) : M_code (m_saved x y) = M_code x := rfl
theorem r_why_saved (x : Mv) (y : Nat → Int32) : M_why (m_saved x y) = M_why x := rfl
theorem r_detail_saved (x : Mv) (y : Nat → Int32) : M_detail (m_saved x y) = M_detail x := rfl
theorem r_cause_saved (x : Mv) (y : Nat → Int32) : M_cause (m_saved x y) = M_cause x := rfl
theorem r_input_saved (x : Mv) (y : Nat → Int32) : M_input (m_saved x y) = M_input x := rfl
theorem r_length_saved (x : Mv) (y : Nat → Int32) : M_length (m_saved x y) = M_length x := rfl
theorem r_fault_saved (x : Mv) (y : Nat → Int32) : M_fault (m_saved x y) = M_fault x := rfl
theorem r_signs_saved (x : Mv) (y : Nat → Int32) : M_signs (m_saved x y) = M_signs x := rfl
theorem r_signMany_saved (x : Mv) (y : Nat → Int32) : M_signMany (m_saved x y) = M_signMany x := rfl
theorem r_lastOver_saved (x : Mv) (y : Nat → Int32) : M_lastOver (m_saved x y) = M_lastOver x := rfl
theorem r_at_saved (x : Mv) (y : Nat → Int32) : M_at (m_saved x y) = M_at x := rfl
theorem r_told_saved (x : Mv) (y : Nat → Int32) : M_told (m_saved x y) = M_told x := rfl
theorem r_toldMany_saved (x : Mv) (y : Nat → Int32) : M_toldMany (m_saved x y) = M_toldMany x := rfl
theorem mkM_before (x : Mv) (y : Nat → Int32) : mkM (M_g x) (M_kept x) (M_saved x) y (M_trial x) (M_counted x) (M_isSaved x) (M_changes x) (M_isWithin x) (M_isDenied x) (M_code x) (M_why x) (M_detail x) (M_cause x) (M_input x) (M_length x) (M_fault x) (M_signs x) (M_signMany x) (M_lastOver x) (M_at x) (M_told x) (M_toldMany x) = m_before x y := rfl
theorem e_before (x : Mv) (z y : Nat → Int32) : mkM (M_g (m_before x z)) (M_kept (m_before x z)) (M_saved (m_before x z)) y (M_trial (m_before x z)) (M_counted (m_before x z)) (M_isSaved (m_before x z)) (M_changes (m_before x z)) (M_isWithin (m_before x z)) (M_isDenied (m_before x z)) (M_code (m_before x z)) (M_why (m_before x z)) (M_detail (m_before x z)) (M_cause (m_before x z)) (M_input (m_before x z)) (M_length (m_before x z)) (M_fault (m_before x z)) (M_signs (m_before x z)) (M_signMany (m_before x z)) (M_lastOver (m_before x z)) (M_at (m_before x z)) (M_told (m_before x z)) (M_toldMany (m_before x z)) = m_before x y := rfl
theorem mm_before (x : Mv) (z y : Nat → Int32) : m_before (m_before x z) y = m_before x y := rfl
theorem r_g_before (x : Mv) (y : Nat → Int32) : M_g (m_before x y) = M_g x := rfl
theorem r_kept_before (x : Mv) (y : Nat → Int32) : M_kept (m_before x y) = M_kept x := rfl
theorem r_saved_before (x : Mv) (y : Nat → Int32) : M_saved (m_before x y) = M_saved x := rfl
theorem r_before_before (x : Mv) (y : Nat → Int32) : M_before (m_before x y) = y := rfl
theorem r_trial_before (x : Mv) (y : Nat → Int32) : M_trial (m_before x y) = M_trial x := rfl
theorem r_counted_before (x : Mv) (y : Nat → Int32) : M_counted (m_before x y) = M_counted x := rfl
theorem r_isSaved_before (x : Mv) (y : Nat → Int32) : M_isSaved (m_before x y) = M_isSaved x := rfl
theorem r_changes_before (x : Mv) (y : Nat → Int32) : M_changes (m_before x y) = M_changes x := rfl
theorem r_isWithin_before (x : Mv) (y : Nat → Int32) : M_isWithin (m_before x y) = M_isWithin x := rfl
theorem r_isDenied_before (x : Mv) (y : Nat → Int32) : M_isDenied (m_before x y) = M_isDenied x := rfl
theorem r_code_before (x : Mv) (y : Nat → Int32) : M_code (m_before x y) = M_code x := rfl
theorem r_why_before (x : Mv) (y : Nat → Int32) : M_why (m_before x y) = M_why x := rfl
theorem r_detail_before (x : Mv) (y : Nat → Int32) : M_detail (m_before x y) = M_detail x := rfl
theorem r_cause_before (x : Mv) (y : Nat → Int32) : M_cause (m_before x y) = M_cause x := rfl
theorem r_input_before (x : Mv) (y : Nat → Int32) : M_input (m_before x y) = M_input x := rfl
theorem r_length_before (x : Mv) (y : Nat → Int32) : M_length (m_before x y) = M_length x := rfl
theorem r_fault_before (x : Mv) (y : Nat → Int32) : M_fault (m_before x y) = M_fault x := rfl
theorem r_signs_before (x : Mv) (y : Nat → Int32) : M_signs (m_before x y) = M_signs x := rfl
theorem r_signMany_before (x : Mv) (y : Nat → Int32) : M_signMany (m_before x y) = M_signMany x := rfl
theorem r_lastOver_before (x : Mv) (y : Nat → Int32) : M_lastOver (m_before x y) = M_lastOver x := rfl
theorem r_at_before (x : Mv) (y : Nat → Int32) : M_at (m_before x y) = M_at x := rfl
theorem r_told_before (x : Mv) (y : Nat → Int32) : M_told (m_before x y) = M_told x := rfl
theorem r_toldMany_before (x : Mv) (y : Nat → Int32) : M_toldMany (m_before x y) = M_toldMany x := rfl
theorem mkM_trial (x : Mv) (y : Nat → Int32) : mkM (M_g x) (M_kept x) (M_saved x) (M_before x) y (M_counted x) (M_isSaved x) (M_changes x) (M_isWithin x) (M_isDenied x) (M_code x) (M_why x) (M_detail x) (M_cause x) (M_input x) (M_length x) (M_fault x) (M_signs x) (M_signMany x) (M_lastOver x) (M_at x) (M_told x) (M_toldMany x) = m_trial x y := rfl
theorem e_trial (x : Mv) (z y : Nat → Int32) : mkM (M_g (m_trial x z)) (M_kept (m_trial x z)) (M_saved (m_trial x z)) (M_before (m_trial x z)) y (M_counted (m_trial x z)) (M_isSaved (m_trial x z)) (M_changes (m_trial x z)) (M_isWithin (m_trial x z)) (M_isDenied (m_trial x z)) (M_code (m_trial x z)) (M_why (m_trial x z)) (M_detail (m_trial x z)) (M_cause (m_trial x z)) (M_input (m_trial x z)) (M_length (m_trial x z)) (M_fault (m_trial x z)) (M_signs (m_trial x z)) (M_signMany (m_trial x z)) (M_lastOver (m_trial x z)) (M_at (m_trial x z)) (M_told (m_trial x z)) (M_toldMany (m_trial x z)) = m_trial x y := rfl
theorem mm_trial (x : Mv) (z y : Nat → Int32) : m_trial (m_trial x z) y = m_trial x y := rfl
theorem r_g_trial (x : Mv) (y : Nat → Int32) : M_g (m_trial x y) = M_g x := rfl
theorem r_kept_trial (x : Mv) (y : Nat → Int32) : M_kept (m_trial x y) = M_kept x := rfl
theorem r_saved_trial (x : Mv) (y : Nat → Int32) : M_saved (m_trial x y) = M_saved x := rfl
theorem r_before_trial (x : Mv) (y : Nat → Int32) : M_before (m_trial x y) = M_before x := rfl
theorem r_trial_trial (x : Mv) (y : Nat → Int32) : M_trial (m_trial x y) = y := rfl
theorem r_counted_trial (x : Mv) (y : Nat → Int32) : M_counted (m_trial x y) = M_counted x := rfl
theorem r_isSaved_trial (x : Mv) (y : Nat → Int32) : M_isSaved (m_trial x y) = M_isSaved x := rfl
theorem r_changes_trial (x : Mv) (y : Nat → Int32) : M_changes (m_trial x y) = M_changes x := rfl
theorem r_isWithin_trial (x : Mv) (y : Nat → Int32) : M_isWithin (m_trial x y) = M_isWithin x := rfl
theorem r_isDenied_trial (x : Mv) (y : Nat → Int32) : M_isDenied (m_trial x y) = M_isDenied x := rfl
theorem r_code_trial (x : Mv) (y : Nat → Int32) : M_code (m_trial x y) = M_code x := rfl
theorem r_why_trial (x : Mv) (y : Nat → Int32) : M_why (m_trial x y) = M_why x := rfl
theorem r_detail_trial (x : Mv) (y : Nat → Int32) : M_detail (m_trial x y) = M_detail x := rfl
theorem r_cause_trial (x : Mv) (y : Nat → Int32) : M_cause (m_trial x y) = M_cause x := rfl
theorem r_input_trial (x : Mv) (y : Nat → Int32) : M_input (m_trial x y) = M_input x := rfl
theorem r_length_trial (x : Mv) (y : Nat → Int32) : M_length (m_trial x y) = M_length x := rfl
theorem r_fault_trial (x : Mv) (y : Nat → Int32) : M_fault (m_trial x y) = M_fault x := rfl
theorem r_signs_trial (x : Mv) (y : Nat → Int32) : M_signs (m_trial x y) = M_signs x := rfl
theorem r_signMany_trial (x : Mv) (y : Nat → Int32) : M_signMany (m_trial x y) = M_signMany x := rfl
theorem r_lastOver_trial (x : Mv) (y : Nat → Int32) : M_lastOver (m_trial x y) = M_lastOver x := rfl
theorem r_at_trial (x : Mv) (y : Nat → Int32) : M_at (m_trial x y) = M_at x := rfl
theorem r_told_trial (x : Mv) (y : Nat → Int32) : M_told (m_trial x y) = M_told x := rfl
theorem r_toldMany_trial (x : Mv) (y : Nat → Int32) : M_toldMany (m_trial x y) = M_toldMany x := rfl
theorem mkM_counted (x : Mv) (y : Nat → Int32) : mkM (M_g x) (M_kept x) (M_saved x) (M_before x) (M_trial x) y (M_isSaved x) (M_changes x) (M_isWithin x) (M_isDenied x) (M_code x) (M_why x) (M_detail x) (M_cause x) (M_input x) (M_length x) (M_fault x) (M_signs x) (M_signMany x) (M_lastOver x) (M_at x) (M_told x) (M_toldMany x) = m_counted x y := rfl
theorem e_counted (x : Mv) (z y : Nat → Int32) : mkM (M_g (m_counted x z)) (M_kept (m_counted x z)) (M_saved (m_counted x z)) (M_before (m_counted x z)) (M_trial (m_counted x z)) y (M_isSaved (m_counted x z)) (M_changes (m_counted x z)) (M_isWithin (m_counted x z)) (M_isDenied (m_counted x z)) (M_code (m_counted x z)) (M_why (m_counted x z)) (M_detail (m_counted x z)) (M_cause (m_counted x z)) (M_input (m_counted x z)) (M_length (m_counted x z)) (M_fault (m_counted x z)) (M_signs (m_counted x z)) (M_signMany (m_counted x z)) (M_lastOver (m_counted x z)) (M_at (m_counted x z)) (M_told (m_counted x z)) (M_toldMany (m_counted x z)) = m_counted x y := rfl
theorem mm_counted (x : Mv) (z y : Nat → Int32) : m_counted (m_counted x z) y = m_counted x y := rfl
theorem r_g_counted (x : Mv) (y : Nat → Int32) : M_g (m_counted x y) = M_g x := rfl
theorem r_kept_counted (x : Mv) (y : Nat → Int32) : M_kept (m_counted x y) = M_kept x := rfl
theorem r_saved_counted (x : Mv) (y : Nat → Int32) : M_saved (m_counted x y) = M_saved x := rfl
theorem r_before_counted (x : Mv) (y : Nat → Int32) : M_before (m_counted x y) = M_before x := rfl
theorem r_trial_counted (x : Mv) (y : Nat → Int32) : M_trial (m_counted x y) = M_trial x := rfl
theorem r_counted_counted (x : Mv) (y : Nat → Int32) : M_counted (m_counted x y) = y := rfl
theorem r_isSaved_counted (x : Mv) (y : Nat → Int32) : M_isSaved (m_counted x y) = M_isSaved x := rfl
theorem r_changes_counted (x : Mv) (y : Nat → Int32) : M_changes (m_counted x y) = M_changes x := rfl
theorem r_isWithin_counted (x : Mv) (y : Nat → Int32) : M_isWithin (m_counted x y) = M_isWithin x := rfl
theorem r_isDenied_counted (x : Mv) (y : Nat → Int32) : M_isDenied (m_counted x y) = M_isDenied x := rfl
theorem r_code_counted (x : Mv) (y : Nat → Int32) : M_code (m_counted x y) = M_code x := rfl
theorem r_why_counted (x : Mv) (y : Nat → Int32) : M_why (m_counted x y) = M_why x := rfl
theorem r_detail_counted (x : Mv) (y : Nat → Int32) : M_detail (m_counted x y) = M_detail x := rfl
theorem r_cause_counted (x : Mv) (y : Nat → Int32) : M_cause (m_counted x y) = M_cause x := rfl
theorem r_input_counted (x : Mv) (y : Nat → Int32) : M_input (m_counted x y) = M_input x := rfl
theorem r_length_counted (x : Mv) (y : Nat → Int32) : M_length (m_counted x y) = M_length x := rfl
theorem r_fault_counted (x : Mv) (y : Nat → Int32) : M_fault (m_counted x y) = M_fault x := rfl
theorem r_signs_counted (x : Mv) (y : Nat → Int32) : M_signs (m_counted x y) = M_signs x := rfl
theorem r_signMany_counted (x : Mv) (y : Nat → Int32) : M_signMany (m_counted x y) = M_signMany x := rfl
theorem r_lastOver_counted (x : Mv) (y : Nat → Int32) : M_lastOver (m_counted x y) = M_lastOver x := rfl
theorem r_at_counted (x : Mv) (y : Nat → Int32) : M_at (m_counted x y) = M_at x := rfl
theorem r_told_counted (x : Mv) (y : Nat → Int32) : M_told (m_counted x y) = M_told x := rfl
theorem r_toldMany_counted (x : Mv) (y : Nat → Int32) : M_toldMany (m_counted x y) = M_toldMany x := rfl
theorem mkM_isSaved (x : Mv) (y : Int32) : mkM (M_g x) (M_kept x) (M_saved x) (M_before x) (M_trial x) (M_counted x) y (M_changes x) (M_isWithin x) (M_isDenied x) (M_code x) (M_why x) (M_detail x) (M_cause x) (M_input x) (M_length x) (M_fault x) (M_signs x) (M_signMany x) (M_lastOver x) (M_at x) (M_told x) (M_toldMany x) = m_isSaved x y := rfl
theorem e_isSaved (x : Mv) (z y : Int32) : mkM (M_g (m_isSaved x z)) (M_kept (m_isSaved x z)) (M_saved (m_isSaved x z)) (M_before (m_isSaved x z)) (M_trial (m_isSaved x z)) (M_counted (m_isSaved x z)) y (M_changes (m_isSaved x z)) (M_isWithin (m_isSaved x z)) (M_isDenied (m_isSaved x z)) (M_code (m_isSaved x z)) (M_why (m_isSaved x z)) (M_detail (m_isSaved x z)) (M_cause (m_isSaved x z)) (M_input (m_isSaved x z)) (M_length (m_isSaved x z)) (M_fault (m_isSaved x z)) (M_signs (m_isSaved x z)) (M_signMany (m_isSaved x z)) (M_lastOver (m_isSaved x z)) (M_at (m_isSaved x z)) (M_told (m_isSaved x z)) (M_toldMany (m_isSaved x z)) = m_isSaved x y := rfl
theorem mm_isSaved (x : Mv) (z y : Int32) : m_isSaved (m_isSaved x z) y = m_isSaved x y := rfl
theorem r_g_isSaved (x : Mv) (y : Int32) : M_g (m_isSaved x y) = M_g x := rfl
theorem r_kept_isSaved (x : Mv) (y : Int32) : M_kept (m_isSaved x y) = M_kept x := rfl
theorem r_saved_isSaved (x : Mv) (y : Int32) : M_saved (m_isSaved x y) = M_saved x := rfl
theorem r_before_isSaved (x : Mv) (y : Int32) : M_before (m_isSaved x y) = M_before x := rfl
theorem r_trial_isSaved (x : Mv) (y : Int32) : M_trial (m_isSaved x y) = M_trial x := rfl
theorem r_counted_isSaved (x : Mv) (y : Int32) : M_counted (m_isSaved x y) = M_counted x := rfl
theorem r_isSaved_isSaved (x : Mv) (y : Int32) : M_isSaved (m_isSaved x y) = y := rfl
theorem r_changes_isSaved (x : Mv) (y : Int32) : M_changes (m_isSaved x y) = M_changes x := rfl
theorem r_isWithin_isSaved (x : Mv) (y : Int32) : M_isWithin (m_isSaved x y) = M_isWithin x := rfl
theorem r_isDenied_isSaved (x : Mv) (y : Int32) : M_isDenied (m_isSaved x y) = M_isDenied x := rfl
theorem r_code_isSaved (x : Mv) (y : Int32) : M_code (m_isSaved x y) = M_code x := rfl
theorem r_why_isSaved (x : Mv) (y : Int32) : M_why (m_isSaved x y) = M_why x := rfl
theorem r_detail_isSaved (x : Mv) (y : Int32) : M_detail (m_isSaved x y) = M_detail x := rfl
theorem r_cause_isSaved (x : Mv) (y : Int32) : M_cause (m_isSaved x y) = M_cause x := rfl
theorem r_input_isSaved (x : Mv) (y : Int32) : M_input (m_isSaved x y) = M_input x := rfl
theorem r_length_isSaved (x : Mv) (y : Int32) : M_length (m_isSaved x y) = M_length x := rfl
theorem r_fault_isSaved (x : Mv) (y : Int32) : M_fault (m_isSaved x y) = M_fault x := rfl
theorem r_signs_isSaved (x : Mv) (y : Int32) : M_signs (m_isSaved x y) = M_signs x := rfl
theorem r_signMany_isSaved (x : Mv) (y : Int32) : M_signMany (m_isSaved x y) = M_signMany x := rfl
theorem r_lastOver_isSaved (x : Mv) (y : Int32) : M_lastOver (m_isSaved x y) = M_lastOver x := rfl
theorem r_at_isSaved (x : Mv) (y : Int32) : M_at (m_isSaved x y) = M_at x := rfl
theorem r_told_isSaved (x : Mv) (y : Int32) : M_told (m_isSaved x y) = M_told x := rfl
theorem r_toldMany_isSaved (x : Mv) (y : Int32) : M_toldMany (m_isSaved x y) = M_toldMany x := rfl
theorem mkM_changes (x : Mv) (y : Int32) : mkM (M_g x) (M_kept x) (M_saved x) (M_before x) (M_trial x) (M_counted x) (M_isSaved x) y (M_isWithin x) (M_isDenied x) (M_code x) (M_why x) (M_detail x) (M_cause x) (M_input x) (M_length x) (M_fault x) (M_signs x) (M_signMany x) (M_lastOver x) (M_at x) (M_told x) (M_toldMany x) = m_changes x y := rfl
theorem e_changes (x : Mv) (z y : Int32) : mkM (M_g (m_changes x z)) (M_kept (m_changes x z)) (M_saved (m_changes x z)) (M_before (m_changes x z)) (M_trial (m_changes x z)) (M_counted (m_changes x z)) (M_isSaved (m_changes x z)) y (M_isWithin (m_changes x z)) (M_isDenied (m_changes x z)) (M_code (m_changes x z)) (M_why (m_changes x z)) (M_detail (m_changes x z)) (M_cause (m_changes x z)) (M_input (m_changes x z)) (M_length (m_changes x z)) (M_fault (m_changes x z)) (M_signs (m_changes x z)) (M_signMany (m_changes x z)) (M_lastOver (m_changes x z)) (M_at (m_changes x z)) (M_told (m_changes x z)) (M_toldMany (m_changes x z)) = m_changes x y := rfl
theorem mm_changes (x : Mv) (z y : Int32) : m_changes (m_changes x z) y = m_changes x y := rfl
theorem r_g_changes (x : Mv) (y : Int32) : M_g (m_changes x y) = M_g x := rfl
theorem r_kept_changes (x : Mv) (y : Int32) : M_kept (m_changes x y) = M_kept x := rfl
theorem r_saved_changes (x : Mv) (y : Int32) : M_saved (m_changes x y) = M_saved x := rfl
theorem r_before_changes (x : Mv) (y : Int32) : M_before (m_changes x y) = M_before x := rfl
theorem r_trial_changes (x : Mv) (y : Int32) : M_trial (m_changes x y) = M_trial x := rfl
theorem r_counted_changes (x : Mv) (y : Int32) : M_counted (m_changes x y) = M_counted x := rfl
theorem r_isSaved_changes (x : Mv) (y : Int32) : M_isSaved (m_changes x y) = M_isSaved x := rfl
theorem r_changes_changes (x : Mv) (y : Int32) : M_changes (m_changes x y) = y := rfl
theorem r_isWithin_changes (x : Mv) (y : Int32) : M_isWithin (m_changes x y) = M_isWithin x := rfl
theorem r_isDenied_changes (x : Mv) (y : Int32) : M_isDenied (m_changes x y) = M_isDenied x := rfl
theorem r_code_changes (x : Mv) (y : Int32) : M_code (m_changes x y) = M_code x := rfl
theorem r_why_changes (x : Mv) (y : Int32) : M_why (m_changes x y) = M_why x := rfl
theorem r_detail_changes (x : Mv) (y : Int32) : M_detail (m_changes x y) = M_detail x := rfl
theorem r_cause_changes (x : Mv) (y : Int32) : M_cause (m_changes x y) = M_cause x := rfl
theorem r_input_changes (x : Mv) (y : Int32) : M_input (m_changes x y) = M_input x := rfl
theorem r_length_changes (x : Mv) (y : Int32) : M_length (m_changes x y) = M_length x := rfl
theorem r_fault_changes (x : Mv) (y : Int32) : M_fault (m_changes x y) = M_fault x := rfl
theorem r_signs_changes (x : Mv) (y : Int32) : M_signs (m_changes x y) = M_signs x := rfl
theorem r_signMany_changes (x : Mv) (y : Int32) : M_signMany (m_changes x y) = M_signMany x := rfl
theorem r_lastOver_changes (x : Mv) (y : Int32) : M_lastOver (m_changes x y) = M_lastOver x := rfl
theorem r_at_changes (x : Mv) (y : Int32) : M_at (m_changes x y) = M_at x := rfl
theorem r_told_changes (x : Mv) (y : Int32) : M_told (m_changes x y) = M_told x := rfl
theorem r_toldMany_changes (x : Mv) (y : Int32) : M_toldMany (m_changes x y) = M_toldMany x := rfl
theorem mkM_isWithin (x : Mv) (y : Int32) : mkM (M_g x) (M_kept x) (M_saved x) (M_before x) (M_trial x) (M_counted x) (M_isSaved x) (M_changes x) y (M_isDenied x) (M_code x) (M_why x) (M_detail x) (M_cause x) (M_input x) (M_length x) (M_fault x) (M_signs x) (M_signMany x) (M_lastOver x) (M_at x) (M_told x) (M_toldMany x) = m_isWithin x y := rfl
theorem e_isWithin (x : Mv) (z y : Int32) : mkM (M_g (m_isWithin x z)) (M_kept (m_isWithin x z)) (M_saved (m_isWithin x z)) (M_before (m_isWithin x z)) (M_trial (m_isWithin x z)) (M_counted (m_isWithin x z)) (M_isSaved (m_isWithin x z)) (M_changes (m_isWithin x z)) y (M_isDenied (m_isWithin x z)) (M_code (m_isWithin x z)) (M_why (m_isWithin x z)) (M_detail (m_isWithin x z)) (M_cause (m_isWithin x z)) (M_input (m_isWithin x z)) (M_length (m_isWithin x z)) (M_fault (m_isWithin x z)) (M_signs (m_isWithin x z)) (M_signMany (m_isWithin x z)) (M_lastOver (m_isWithin x z)) (M_at (m_isWithin x z)) (M_told (m_isWithin x z)) (M_toldMany (m_isWithin x z)) = m_isWithin x y := rfl
theorem mm_isWithin (x : Mv) (z y : Int32) : m_isWithin (m_isWithin x z) y = m_isWithin x y := rfl
theorem r_g_isWithin (x : Mv) (y : Int32) : M_g (m_isWithin x y) = M_g x := rfl
theorem r_kept_isWithin (x : Mv) (y : Int32) : M_kept (m_isWithin x y) = M_kept x := rfl
theorem r_saved_isWithin (x : Mv) (y : Int32) : M_saved (m_isWithin x y) = M_saved x := rfl
theorem r_before_isWithin (x : Mv) (y : Int32) : M_before (m_isWithin x y) = M_before x := rfl
theorem r_trial_isWithin (x : Mv) (y : Int32) : M_trial (m_isWithin x y) = M_trial x := rfl
theorem r_counted_isWithin (x : Mv) (y : Int32) : M_counted (m_isWithin x y) = M_counted x := rfl
theorem r_isSaved_isWithin (x : Mv) (y : Int32) : M_isSaved (m_isWithin x y) = M_isSaved x := rfl
theorem r_changes_isWithin (x : Mv) (y : Int32) : M_changes (m_isWithin x y) = M_changes x := rfl
theorem r_isWithin_isWithin (x : Mv) (y : Int32) : M_isWithin (m_isWithin x y) = y := rfl
theorem r_isDenied_isWithin (x : Mv) (y : Int32) : M_isDenied (m_isWithin x y) = M_isDenied x := rfl
theorem r_code_isWithin (x : Mv) (y : Int32) : M_code (m_isWithin x y) = M_code x := rfl
theorem r_why_isWithin (x : Mv) (y : Int32) : M_why (m_isWithin x y) = M_why x := rfl
theorem r_detail_isWithin (x : Mv) (y : Int32) : M_detail (m_isWithin x y) = M_detail x := rfl
theorem r_cause_isWithin (x : Mv) (y : Int32) : M_cause (m_isWithin x y) = M_cause x := rfl
theorem r_input_isWithin (x : Mv) (y : Int32) : M_input (m_isWithin x y) = M_input x := rfl
theorem r_length_isWithin (x : Mv) (y : Int32) : M_length (m_isWithin x y) = M_length x := rfl
theorem r_fault_isWithin (x : Mv) (y : Int32) : M_fault (m_isWithin x y) = M_fault x := rfl
theorem r_signs_isWithin (x : Mv) (y : Int32) : M_signs (m_isWithin x y) = M_signs x := rfl
theorem r_signMany_isWithin (x : Mv) (y : Int32) : M_signMany (m_isWithin x y) = M_signMany x := rfl
theorem r_lastOver_isWithin (x : Mv) (y : Int32) : M_lastOver (m_isWithin x y) = M_lastOver x := rfl
theorem r_at_isWithin (x : Mv) (y : Int32) : M_at (m_isWithin x y) = M_at x := rfl
theorem r_told_isWithin (x : Mv) (y : Int32) : M_told (m_isWithin x y) = M_told x := rfl
theorem r_toldMany_isWithin (x : Mv) (y : Int32) : M_toldMany (m_isWithin x y) = M_toldMany x := rfl
theorem mkM_isDenied (x : Mv) (y : Int32) : mkM (M_g x) (M_kept x) (M_saved x) (M_before x) (M_trial x) (M_counted x) (M_isSaved x) (M_changes x) (M_isWithin x) y (M_code x) (M_why x) (M_detail x) (M_cause x) (M_input x) (M_length x) (M_fault x) (M_signs x) (M_signMany x) (M_lastOver x) (M_at x) (M_told x) (M_toldMany x) = m_isDenied x y := rfl
theorem e_isDenied (x : Mv) (z y : Int32) : mkM (M_g (m_isDenied x z)) (M_kept (m_isDenied x z)) (M_saved (m_isDenied x z)) (M_before (m_isDenied x z)) (M_trial (m_isDenied x z)) (M_counted (m_isDenied x z)) (M_isSaved (m_isDenied x z)) (M_changes (m_isDenied x z)) (M_isWithin (m_isDenied x z)) y (M_code (m_isDenied x z)) (M_why (m_isDenied x z)) (M_detail (m_isDenied x z)) (M_cause (m_isDenied x z)) (M_input (m_isDenied x z)) (M_length (m_isDenied x z)) (M_fault (m_isDenied x z)) (M_signs (m_isDenied x z)) (M_signMany (m_isDenied x z)) (M_lastOver (m_isDenied x z)) (M_at (m_isDenied x z)) (M_told (m_isDenied x z)) (M_toldMany (m_isDenied x z)) = m_isDenied x y := rfl
theorem mm_isDenied (x : Mv) (z y : Int32) : m_isDenied (m_isDenied x z) y = m_isDenied x y := rfl
theorem r_g_isDenied (x : Mv) (y : Int32) : M_g (m_isDenied x y) = M_g x := rfl
theorem r_kept_isDenied (x : Mv) (y : Int32) : M_kept (m_isDenied x y) = M_kept x := rfl
theorem r_saved_isDenied (x : Mv) (y : Int32) : M_saved (m_isDenied x y) = M_saved x := rfl
theorem r_before_isDenied (x : Mv) (y : Int32) : M_before (m_isDenied x y) = M_before x := rfl
theorem r_trial_isDenied (x : Mv) (y : Int32) : M_trial (m_isDenied x y) = M_trial x := rfl
theorem r_counted_isDenied (x : Mv) (y : Int32) : M_counted (m_isDenied x y) = M_counted x := rfl
theorem r_isSaved_isDenied (x : Mv) (y : Int32) : M_isSaved (m_isDenied x y) = M_isSaved x := rfl
theorem r_changes_isDenied (x : Mv) (y : Int32) : M_changes (m_isDenied x y) = M_changes x := rfl
theorem r_isWithin_isDenied (x : Mv) (y : Int32) : M_isWithin (m_isDenied x y) = M_isWithin x := rfl
theorem r_isDenied_isDenied (x : Mv) (y : Int32) : M_isDenied (m_isDenied x y) = y := rfl
theorem r_code_isDenied (x : Mv) (y : Int32) : M_code (m_isDenied x y) = M_code x := rfl
theorem r_why_isDenied (x : Mv) (y : Int32) : M_why (m_isDenied x y) = M_why x := rfl
theorem r_detail_isDenied (x : Mv) (y : Int32) : M_detail (m_isDenied x y) = M_detail x := rfl
theorem r_cause_isDenied (x : Mv) (y : Int32) : M_cause (m_isDenied x y) = M_cause x := rfl
theorem r_input_isDenied (x : Mv) (y : Int32) : M_input (m_isDenied x y) = M_input x := rfl
theorem r_length_isDenied (x : Mv) (y : Int32) : M_length (m_isDenied x y) = M_length x := rfl
theorem r_fault_isDenied (x : Mv) (y : Int32) : M_fault (m_isDenied x y) = M_fault x := rfl
theorem r_signs_isDenied (x : Mv) (y : Int32) : M_signs (m_isDenied x y) = M_signs x := rfl
theorem r_signMany_isDenied (x : Mv) (y : Int32) : M_signMany (m_isDenied x y) = M_signMany x := rfl
theorem r_lastOver_isDenied (x : Mv) (y : Int32) : M_lastOver (m_isDenied x y) = M_lastOver x := rfl
theorem r_at_isDenied (x : Mv) (y : Int32) : M_at (m_isDenied x y) = M_at x := rfl
theorem r_told_isDenied (x : Mv) (y : Int32) : M_told (m_isDenied x y) = M_told x := rfl
theorem r_toldMany_isDenied (x : Mv) (y : Int32) : M_toldMany (m_isDenied x y) = M_toldMany x := rfl
theorem mkM_code (x : Mv) (y : Int32) : mkM (M_g x) (M_kept x) (M_saved x) (M_before x) (M_trial x) (M_counted x) (M_isSaved x) (M_changes x) (M_isWithin x) (M_isDenied x) y (M_why x) (M_detail x) (M_cause x) (M_input x) (M_length x) (M_fault x) (M_signs x) (M_signMany x) (M_lastOver x) (M_at x) (M_told x) (M_toldMany x) = m_code x y := rfl
theorem e_code (x : Mv) (z y : Int32) : mkM (M_g (m_code x z)) (M_kept (m_code x z)) (M_saved (m_code x z)) (M_before (m_code x z)) (M_trial (m_code x z)) (M_counted (m_code x z)) (M_isSaved (m_code x z)) (M_changes (m_code x z)) (M_isWithin (m_code x z)) (M_isDenied (m_code x z)) y (M_why (m_code x z)) (M_detail (m_code x z)) (M_cause (m_code x z)) (M_input (m_code x z)) (M_length (m_code x z)) (M_fault (m_code x z)) (M_signs (m_code x z)) (M_signMany (m_code x z)) (M_lastOver (m_code x z)) (M_at (m_code x z)) (M_told (m_code x z)) (M_toldMany (m_code x z)) = m_code x y := rfl
theorem mm_code (x : Mv) (z y : Int32) : m_code (m_code x z) y = m_code x y := rfl
theorem r_g_code (x : Mv) (y : Int32) : M_g (m_code x y) = M_g x := rfl
theorem r_kept_code (x : Mv) (y : Int32) : M_kept (m_code x y) = M_kept x := rfl
theorem r_saved_code (x : Mv) (y : Int32) : M_saved (m_code x y) = M_saved x := rfl
theorem r_before_code (x : Mv) (y : Int32) : M_before (m_code x y) = M_before x := rfl
theorem r_trial_code (x : Mv) (y : Int32) : M_trial (m_code x y) = M_trial x := rfl
theorem r_counted_code (x : Mv) (y : Int32) : M_counted (m_code x y) = M_counted x := rfl
theorem r_isSaved_code (x : Mv) (y : Int32) : M_isSaved (m_code x y) = M_isSaved x := rfl
theorem r_changes_code (x : Mv) (y : Int32) : M_changes (m_code x y) = M_changes x := rfl
theorem r_isWithin_code (x : Mv) (y : Int32) : M_isWithin (m_code x y) = M_isWithin x := rfl
theorem r_isDenied_code (x : Mv) (y : Int32) : M_isDenied (m_code x y) = M_isDenied x := rfl
theorem r_code_code (x : Mv) (y : Int32) : M_code (m_code x y) = y := rfl
theorem r_why_code (x : Mv) (y : Int32) : M_why (m_code x y) = M_why x := rfl
theorem r_detail_code (x : Mv) (y : Int32) : M_detail (m_code x y) = M_detail x := rfl
theorem r_cause_code (x : Mv) (y : Int32) : M_cause (m_code x y) = M_cause x := rfl
theorem r_input_code (x : Mv) (y : Int32) : M_input (m_code x y) = M_input x := rfl
theorem r_length_code (x : Mv) (y : Int32) : M_length (m_code x y) = M_length x := rfl
theorem r_fault_code (x : Mv) (y : Int32) : M_fault (m_code x y) = M_fault x := rfl
theorem r_signs_code (x : Mv) (y : Int32) : M_signs (m_code x y) = M_signs x := rfl
theorem r_signMany_code (x : Mv) (y : Int32) : M_signMany (m_code x y) = M_signMany x := rfl
theorem r_lastOver_code (x : Mv) (y : Int32) : M_lastOver (m_code x y) = M_lastOver x := rfl
theorem r_at_code (x : Mv) (y : Int32) : M_at (m_code x y) = M_at x := rfl
theorem r_told_code (x : Mv) (y : Int32) : M_told (m_code x y) = M_told x := rfl
theorem r_toldMany_code (x : Mv) (y : Int32) : M_toldMany (m_code x y) = M_toldMany x := rfl
theorem mkM_why (x : Mv) (y : Int32) : mkM (M_g x) (M_kept x) (M_saved x) (M_before x) (M_trial x) (M_counted x) (M_isSaved x) (M_changes x) (M_isWithin x) (M_isDenied x) (M_code x) y (M_detail x) (M_cause x) (M_input x) (M_length x) (M_fault x) (M_signs x) (M_signMany x) (M_lastOver x) (M_at x) (M_told x) (M_toldMany x) = m_why x y := rfl
theorem e_why (x : Mv) (z y : Int32) : mkM (M_g (m_why x z)) (M_kept (m_why x z)) (M_saved (m_why x z)) (M_before (m_why x z)) (M_trial (m_why x z)) (M_counted (m_why x z)) (M_isSaved (m_why x z)) (M_changes (m_why x z)) (M_isWithin (m_why x z)) (M_isDenied (m_why x z)) (M_code (m_why x z)) y (M_detail (m_why x z)) (M_cause (m_why x z)) (M_input (m_why x z)) (M_length (m_why x z)) (M_fault (m_why x z)) (M_signs (m_why x z)) (M_signMany (m_why x z)) (M_lastOver (m_why x z)) (M_at (m_why x z)) (M_told (m_why x z)) (M_toldMany (m_why x z)) = m_why x y := rfl
theorem mm_why (x : Mv) (z y : Int32) : m_why (m_why x z) y = m_why x y := rfl
theorem r_g_why (x : Mv) (y : Int32) : M_g (m_why x y) = M_g x := rfl
theorem r_kept_why (x : Mv) (y : Int32) : M_kept (m_why x y) = M_kept x := rfl
theorem r_saved_why (x : Mv) (y : Int32) : M_saved (m_why x y) = M_saved x := rfl
theorem r_before_why (x : Mv) (y : Int32) : M_before (m_why x y) = M_before x := rfl
theorem r_trial_why (x : Mv) (y : Int32) : M_trial (m_why x y) = M_trial x := rfl
theorem r_counted_why (x : Mv) (y : Int32) : M_counted (m_why x y) = M_counted x := rfl
theorem r_isSaved_why (x : Mv) (y : Int32) : M_isSaved (m_why x y) = M_isSaved x := rfl
theorem r_changes_why (x : Mv) (y : Int32) : M_changes (m_why x y) = M_changes x := rfl
theorem r_isWithin_why (x : Mv) (y : Int32) : M_isWithin (m_why x y) = M_isWithin x := rfl
theorem r_isDenied_why (x : Mv) (y : Int32) : M_isDenied (m_why x y) = M_isDenied x := rfl
theorem r_code_why (x : Mv) (y : Int32) : M_code (m_why x y) = M_code x := rfl
theorem r_why_why (x : Mv) (y : Int32) : M_why (m_why x y) = y := rfl
theorem r_detail_why (x : Mv) (y : Int32) : M_detail (m_why x y) = M_detail x := rfl
theorem r_cause_why (x : Mv) (y : Int32) : M_cause (m_why x y) = M_cause x := rfl
theorem r_input_why (x : Mv) (y : Int32) : M_input (m_why x y) = M_input x := rfl
theorem r_length_why (x : Mv) (y : Int32) : M_length (m_why x y) = M_length x := rfl
theorem r_fault_why (x : Mv) (y : Int32) : M_fault (m_why x y) = M_fault x := rfl
theorem r_signs_why (x : Mv) (y : Int32) : M_signs (m_why x y) = M_signs x := rfl
theorem r_signMany_why (x : Mv) (y : Int32) : M_signMany (m_why x y) = M_signMany x := rfl
theorem r_lastOver_why (x : Mv) (y : Int32) : M_lastOver (m_why x y) = M_lastOver x := rfl
theorem r_at_why (x : Mv) (y : Int32) : M_at (m_why x y) = M_at x := rfl
theorem r_told_why (x : Mv) (y : Int32) : M_told (m_why x y) = M_told x := rfl
theorem r_toldMany_why (x : Mv) (y : Int32) : M_toldMany (m_why x y) = M_toldMany x := rfl
theorem mkM_detail (x : Mv) (y : Int32) : mkM (M_g x) (M_kept x) (M_saved x) (M_before x) (M_trial x) (M_counted x) (M_isSaved x) (M_changes x) (M_isWithin x) (M_isDenied x) (M_code x) (M_why x) y (M_cause x) (M_input x) (M_length x) (M_fault x) (M_signs x) (M_signMany x) (M_lastOver x) (M_at x) (M_told x) (M_toldMany x) = m_detail x y := rfl
theorem e_detail (x : Mv) (z y : Int32) : mkM (M_g (m_detail x z)) (M_kept (m_detail x z)) (M_saved (m_detail x z)) (M_before (m_detail x z)) (M_trial (m_detail x z)) (M_counted (m_detail x z)) (M_isSaved (m_detail x z)) (M_changes (m_detail x z)) (M_isWithin (m_detail x z)) (M_isDenied (m_detail x z)) (M_code (m_detail x z)) (M_why (m_detail x z)) y (M_cause (m_detail x z)) (M_input (m_detail x z)) (M_length (m_detail x z)) (M_fault (m_detail x z)) (M_signs (m_detail x z)) (M_signMany (m_detail x z)) (M_lastOver (m_detail x z)) (M_at (m_detail x z)) (M_told (m_detail x z)) (M_toldMany (m_detail x z)) = m_detail x y := rfl
theorem mm_detail (x : Mv) (z y : Int32) : m_detail (m_detail x z) y = m_detail x y := rfl
theorem r_g_detail (x : Mv) (y : Int32) : M_g (m_detail x y) = M_g x := rfl
theorem r_kept_detail (x : Mv) (y : Int32) : M_kept (m_detail x y) = M_kept x := rfl
theorem r_saved_detail (x : Mv) (y : Int32) : M_saved (m_detail x y) = M_saved x := rfl
theorem r_before_detail (x : Mv) (y : Int32) : M_before (m_detail x y) = M_before x := rfl
theorem r_trial_detail (x : Mv) (y : Int32) : M_trial (m_detail x y) = M_trial x := rfl
theorem r_counted_detail (x : Mv) (y : Int32) : M_counted (m_detail x y) = M_counted x := rfl
theorem r_isSaved_detail (x : Mv) (y : Int32) : M_isSaved (m_detail x y) = M_isSaved x := rfl
theorem r_changes_detail (x : Mv) (y : Int32) : M_changes (m_detail x y) = M_changes x := rfl
theorem r_isWithin_detail (x : Mv) (y : Int32) : M_isWithin (m_detail x y) = M_isWithin x := rfl
theorem r_isDenied_detail (x : Mv) (y : Int32) : M_isDenied (m_detail x y) = M_isDenied x := rfl
theorem r_code_detail (x : Mv) (y : Int32) : M_code (m_detail x y) = M_code x := rfl
theorem r_why_detail (x : Mv) (y : Int32) : M_why (m_detail x y) = M_why x := rfl
theorem r_detail_detail (x : Mv) (y : Int32) : M_detail (m_detail x y) = y := rfl
theorem r_cause_detail (x : Mv) (y : Int32) : M_cause (m_detail x y) = M_cause x := rfl
theorem r_input_detail (x : Mv) (y : Int32) : M_input (m_detail x y) = M_input x := rfl
theorem r_length_detail (x : Mv) (y : Int32) : M_length (m_detail x y) = M_length x := rfl
theorem r_fault_detail (x : Mv) (y : Int32) : M_fault (m_detail x y) = M_fault x := rfl
theorem r_signs_detail (x : Mv) (y : Int32) : M_signs (m_detail x y) = M_signs x := rfl
theorem r_signMany_detail (x : Mv) (y : Int32) : M_signMany (m_detail x y) = M_signMany x := rfl
theorem r_lastOver_detail (x : Mv) (y : Int32) : M_lastOver (m_detail x y) = M_lastOver x := rfl
theorem r_at_detail (x : Mv) (y : Int32) : M_at (m_detail x y) = M_at x := rfl
theorem r_told_detail (x : Mv) (y : Int32) : M_told (m_detail x y) = M_told x := rfl
theorem r_toldMany_detail (x : Mv) (y : Int32) : M_toldMany (m_detail x y) = M_toldMany x := rfl
theorem mkM_cause (x : Mv) (y : Int32) : mkM (M_g x) (M_kept x) (M_saved x) (M_before x) (M_trial x) (M_counted x) (M_isSaved x) (M_changes x) (M_isWithin x) (M_isDenied x) (M_code x) (M_why x) (M_detail x) y (M_input x) (M_length x) (M_fault x) (M_signs x) (M_signMany x) (M_lastOver x) (M_at x) (M_told x) (M_toldMany x) = m_cause x y := rfl
theorem e_cause (x : Mv) (z y : Int32) : mkM (M_g (m_cause x z)) (M_kept (m_cause x z)) (M_saved (m_cause x z)) (M_before (m_cause x z)) (M_trial (m_cause x z)) (M_counted (m_cause x z)) (M_isSaved (m_cause x z)) (M_changes (m_cause x z)) (M_isWithin (m_cause x z)) (M_isDenied (m_cause x z)) (M_code (m_cause x z)) (M_why (m_cause x z)) (M_detail (m_cause x z)) y (M_input (m_cause x z)) (M_length (m_cause x z)) (M_fault (m_cause x z)) (M_signs (m_cause x z)) (M_signMany (m_cause x z)) (M_lastOver (m_cause x z)) (M_at (m_cause x z)) (M_told (m_cause x z)) (M_toldMany (m_cause x z)) = m_cause x y := rfl
theorem mm_cause (x : Mv) (z y : Int32) : m_cause (m_cause x z) y = m_cause x y := rfl
theorem r_g_cause (x : Mv) (y : Int32) : M_g (m_cause x y) = M_g x := rfl
theorem r_kept_cause (x : Mv) (y : Int32) : M_kept (m_cause x y) = M_kept x := rfl
theorem r_saved_cause (x : Mv) (y : Int32) : M_saved (m_cause x y) = M_saved x := rfl
theorem r_before_cause (x : Mv) (y : Int32) : M_before (m_cause x y) = M_before x := rfl
theorem r_trial_cause (x : Mv) (y : Int32) : M_trial (m_cause x y) = M_trial x := rfl
theorem r_counted_cause (x : Mv) (y : Int32) : M_counted (m_cause x y) = M_counted x := rfl
theorem r_isSaved_cause (x : Mv) (y : Int32) : M_isSaved (m_cause x y) = M_isSaved x := rfl
theorem r_changes_cause (x : Mv) (y : Int32) : M_changes (m_cause x y) = M_changes x := rfl
theorem r_isWithin_cause (x : Mv) (y : Int32) : M_isWithin (m_cause x y) = M_isWithin x := rfl
theorem r_isDenied_cause (x : Mv) (y : Int32) : M_isDenied (m_cause x y) = M_isDenied x := rfl
theorem r_code_cause (x : Mv) (y : Int32) : M_code (m_cause x y) = M_code x := rfl
theorem r_why_cause (x : Mv) (y : Int32) : M_why (m_cause x y) = M_why x := rfl
theorem r_detail_cause (x : Mv) (y : Int32) : M_detail (m_cause x y) = M_detail x := rfl
theorem r_cause_cause (x : Mv) (y : Int32) : M_cause (m_cause x y) = y := rfl
theorem r_input_cause (x : Mv) (y : Int32) : M_input (m_cause x y) = M_input x := rfl
theorem r_length_cause (x : Mv) (y : Int32) : M_length (m_cause x y) = M_length x := rfl
theorem r_fault_cause (x : Mv) (y : Int32) : M_fault (m_cause x y) = M_fault x := rfl
theorem r_signs_cause (x : Mv) (y : Int32) : M_signs (m_cause x y) = M_signs x := rfl
theorem r_signMany_cause (x : Mv) (y : Int32) : M_signMany (m_cause x y) = M_signMany x := rfl
theorem r_lastOver_cause (x : Mv) (y : Int32) : M_lastOver (m_cause x y) = M_lastOver x := rfl
theorem r_at_cause (x : Mv) (y : Int32) : M_at (m_cause x y) = M_at x := rfl
theorem r_told_cause (x : Mv) (y : Int32) : M_told (m_cause x y) = M_told x := rfl
theorem r_toldMany_cause (x : Mv) (y : Int32) : M_toldMany (m_cause x y) = M_toldMany x := rfl
theorem mkM_input (x : Mv) (y : Nat → Int32) : mkM (M_g x) (M_kept x) (M_saved x) (M_before x) (M_trial x) (M_counted x) (M_isSaved x) (M_changes x) (M_isWithin x) (M_isDenied x) (M_code x) (M_why x) (M_detail x) (M_cause x) y (M_length x) (M_fault x) (M_signs x) (M_signMany x) (M_lastOver x) (M_at x) (M_told x) (M_toldMany x) = m_input x y := rfl
theorem e_input (x : Mv) (z y : Nat → Int32) : mkM (M_g (m_input x z)) (M_kept (m_input x z)) (M_saved (m_input x z)) (M_before (m_input x z)) (M_trial (m_input x z)) (M_counted (m_input x z)) (M_isSaved (m_input x z)) (M_changes (m_input x z)) (M_isWithin (m_input x z)) (M_isDenied (m_input x z)) (M_code (m_input x z)) (M_why (m_input x z)) (M_detail (m_input x z)) (M_cause (m_input x z)) y (M_length (m_input x z)) (M_fault (m_input x z)) (M_signs (m_input x z)) (M_signMany (m_input x z)) (M_lastOver (m_input x z)) (M_at (m_input x z)) (M_told (m_input x z)) (M_toldMany (m_input x z)) = m_input x y := rfl
theorem mm_input (x : Mv) (z y : Nat → Int32) : m_input (m_input x z) y = m_input x y := rfl
theorem r_g_input (x : Mv) (y : Nat → Int32) : M_g (m_input x y) = M_g x := rfl
theorem r_kept_input (x : Mv) (y : Nat → Int32) : M_kept (m_input x y) = M_kept x := rfl
theorem r_saved_input (x : Mv) (y : Nat → Int32) : M_saved (m_input x y) = M_saved x := rfl
theorem r_before_input (x : Mv) (y : Nat → Int32) : M_before (m_input x y) = M_before x := rfl
theorem r_trial_input (x : Mv) (y : Nat → Int32) : M_trial (m_input x y) = M_trial x := rfl
theorem r_counted_input (x : Mv) (y : Nat → Int32) : M_counted (m_input x y) = M_counted x := rfl
theorem r_isSaved_input (x : Mv) (y : Nat → Int32) : M_isSaved (m_input x y) = M_isSaved x := rfl
theorem r_changes_input (x : Mv) (y : Nat → Int32) : M_changes (m_input x y) = M_changes x := rfl
theorem r_isWithin_input (x : Mv) (y : Nat → Int32) : M_isWithin (m_input x y) = M_isWithin x := rfl
theorem r_isDenied_input (x : Mv) (y : Nat → Int32) : M_isDenied (m_input x y) = M_isDenied x := rfl
theorem r_code_input (x : Mv) (y : Nat → Int32) : M_code (m_input x y) = M_code x := rfl
theorem r_why_input (x : Mv) (y : Nat → Int32) : M_why (m_input x y) = M_why x := rfl
theorem r_detail_input (x : Mv) (y : Nat → Int32) : M_detail (m_input x y) = M_detail x := rfl
theorem r_cause_input (x : Mv) (y : Nat → Int32) : M_cause (m_input x y) = M_cause x := rfl
theorem r_input_input (x : Mv) (y : Nat → Int32) : M_input (m_input x y) = y := rfl
theorem r_length_input (x : Mv) (y : Nat → Int32) : M_length (m_input x y) = M_length x := rfl
theorem r_fault_input (x : Mv) (y : Nat → Int32) : M_fault (m_input x y) = M_fault x := rfl
theorem r_signs_input (x : Mv) (y : Nat → Int32) : M_signs (m_input x y) = M_signs x := rfl
theorem r_signMany_input (x : Mv) (y : Nat → Int32) : M_signMany (m_input x y) = M_signMany x := rfl
theorem r_lastOver_input (x : Mv) (y : Nat → Int32) : M_lastOver (m_input x y) = M_lastOver x := rfl
theorem r_at_input (x : Mv) (y : Nat → Int32) : M_at (m_input x y) = M_at x := rfl
theorem r_told_input (x : Mv) (y : Nat → Int32) : M_told (m_input x y) = M_told x := rfl
theorem r_toldMany_input (x : Mv) (y : Nat → Int32) : M_toldMany (m_input x y) = M_toldMany x := rfl
theorem mkM_length (x : Mv) (y : Int32) : mkM (M_g x) (M_kept x) (M_saved x) (M_before x) (M_trial x) (M_counted x) (M_isSaved x) (M_changes x) (M_isWithin x) (M_isDenied x) (M_code x) (M_why x) (M_detail x) (M_cause x) (M_input x) y (M_fault x) (M_signs x) (M_signMany x) (M_lastOver x) (M_at x) (M_told x) (M_toldMany x) = m_length x y := rfl
theorem e_length (x : Mv) (z y : Int32) : mkM (M_g (m_length x z)) (M_kept (m_length x z)) (M_saved (m_length x z)) (M_before (m_length x z)) (M_trial (m_length x z)) (M_counted (m_length x z)) (M_isSaved (m_length x z)) (M_changes (m_length x z)) (M_isWithin (m_length x z)) (M_isDenied (m_length x z)) (M_code (m_length x z)) (M_why (m_length x z)) (M_detail (m_length x z)) (M_cause (m_length x z)) (M_input (m_length x z)) y (M_fault (m_length x z)) (M_signs (m_length x z)) (M_signMany (m_length x z)) (M_lastOver (m_length x z)) (M_at (m_length x z)) (M_told (m_length x z)) (M_toldMany (m_length x z)) = m_length x y := rfl
theorem mm_length (x : Mv) (z y : Int32) : m_length (m_length x z) y = m_length x y := rfl
theorem r_g_length (x : Mv) (y : Int32) : M_g (m_length x y) = M_g x := rfl
theorem r_kept_length (x : Mv) (y : Int32) : M_kept (m_length x y) = M_kept x := rfl
theorem r_saved_length (x : Mv) (y : Int32) : M_saved (m_length x y) = M_saved x := rfl
theorem r_before_length (x : Mv) (y : Int32) : M_before (m_length x y) = M_before x := rfl
theorem r_trial_length (x : Mv) (y : Int32) : M_trial (m_length x y) = M_trial x := rfl
theorem r_counted_length (x : Mv) (y : Int32) : M_counted (m_length x y) = M_counted x := rfl
theorem r_isSaved_length (x : Mv) (y : Int32) : M_isSaved (m_length x y) = M_isSaved x := rfl
theorem r_changes_length (x : Mv) (y : Int32) : M_changes (m_length x y) = M_changes x := rfl
theorem r_isWithin_length (x : Mv) (y : Int32) : M_isWithin (m_length x y) = M_isWithin x := rfl
theorem r_isDenied_length (x : Mv) (y : Int32) : M_isDenied (m_length x y) = M_isDenied x := rfl
theorem r_code_length (x : Mv) (y : Int32) : M_code (m_length x y) = M_code x := rfl
theorem r_why_length (x : Mv) (y : Int32) : M_why (m_length x y) = M_why x := rfl
theorem r_detail_length (x : Mv) (y : Int32) : M_detail (m_length x y) = M_detail x := rfl
theorem r_cause_length (x : Mv) (y : Int32) : M_cause (m_length x y) = M_cause x := rfl
theorem r_input_length (x : Mv) (y : Int32) : M_input (m_length x y) = M_input x := rfl
theorem r_length_length (x : Mv) (y : Int32) : M_length (m_length x y) = y := rfl
theorem r_fault_length (x : Mv) (y : Int32) : M_fault (m_length x y) = M_fault x := rfl
theorem r_signs_length (x : Mv) (y : Int32) : M_signs (m_length x y) = M_signs x := rfl
theorem r_signMany_length (x : Mv) (y : Int32) : M_signMany (m_length x y) = M_signMany x := rfl
theorem r_lastOver_length (x : Mv) (y : Int32) : M_lastOver (m_length x y) = M_lastOver x := rfl
theorem r_at_length (x : Mv) (y : Int32) : M_at (m_length x y) = M_at x := rfl
theorem r_told_length (x : Mv) (y : Int32) : M_told (m_length x y) = M_told x := rfl
theorem r_toldMany_length (x : Mv) (y : Int32) : M_toldMany (m_length x y) = M_toldMany x := rfl
theorem mkM_fault (x : Mv) (y : Int32) : mkM (M_g x) (M_kept x) (M_saved x) (M_before x) (M_trial x) (M_counted x) (M_isSaved x) (M_changes x) (M_isWithin x) (M_isDenied x) (M_code x) (M_why x) (M_detail x) (M_cause x) (M_input x) (M_length x) y (M_signs x) (M_signMany x) (M_lastOver x) (M_at x) (M_told x) (M_toldMany x) = m_fault x y := rfl
theorem e_fault (x : Mv) (z y : Int32) : mkM (M_g (m_fault x z)) (M_kept (m_fault x z)) (M_saved (m_fault x z)) (M_before (m_fault x z)) (M_trial (m_fault x z)) (M_counted (m_fault x z)) (M_isSaved (m_fault x z)) (M_changes (m_fault x z)) (M_isWithin (m_fault x z)) (M_isDenied (m_fault x z)) (M_code (m_fault x z)) (M_why (m_fault x z)) (M_detail (m_fault x z)) (M_cause (m_fault x z)) (M_input (m_fault x z)) (M_length (m_fault x z)) y (M_signs (m_fault x z)) (M_signMany (m_fault x z)) (M_lastOver (m_fault x z)) (M_at (m_fault x z)) (M_told (m_fault x z)) (M_toldMany (m_fault x z)) = m_fault x y := rfl
theorem mm_fault (x : Mv) (z y : Int32) : m_fault (m_fault x z) y = m_fault x y := rfl
theorem r_g_fault (x : Mv) (y : Int32) : M_g (m_fault x y) = M_g x := rfl
theorem r_kept_fault (x : Mv) (y : Int32) : M_kept (m_fault x y) = M_kept x := rfl
theorem r_saved_fault (x : Mv) (y : Int32) : M_saved (m_fault x y) = M_saved x := rfl
theorem r_before_fault (x : Mv) (y : Int32) : M_before (m_fault x y) = M_before x := rfl
theorem r_trial_fault (x : Mv) (y : Int32) : M_trial (m_fault x y) = M_trial x := rfl
theorem r_counted_fault (x : Mv) (y : Int32) : M_counted (m_fault x y) = M_counted x := rfl
theorem r_isSaved_fault (x : Mv) (y : Int32) : M_isSaved (m_fault x y) = M_isSaved x := rfl
theorem r_changes_fault (x : Mv) (y : Int32) : M_changes (m_fault x y) = M_changes x := rfl
theorem r_isWithin_fault (x : Mv) (y : Int32) : M_isWithin (m_fault x y) = M_isWithin x := rfl
theorem r_isDenied_fault (x : Mv) (y : Int32) : M_isDenied (m_fault x y) = M_isDenied x := rfl
theorem r_code_fault (x : Mv) (y : Int32) : M_code (m_fault x y) = M_code x := rfl
theorem r_why_fault (x : Mv) (y : Int32) : M_why (m_fault x y) = M_why x := rfl
theorem r_detail_fault (x : Mv) (y : Int32) : M_detail (m_fault x y) = M_detail x := rfl
theorem r_cause_fault (x : Mv) (y : Int32) : M_cause (m_fault x y) = M_cause x := rfl
theorem r_input_fault (x : Mv) (y : Int32) : M_input (m_fault x y) = M_input x := rfl
theorem r_length_fault (x : Mv) (y : Int32) : M_length (m_fault x y) = M_length x := rfl
theorem r_fault_fault (x : Mv) (y : Int32) : M_fault (m_fault x y) = y := rfl
theorem r_signs_fault (x : Mv) (y : Int32) : M_signs (m_fault x y) = M_signs x := rfl
theorem r_signMany_fault (x : Mv) (y : Int32) : M_signMany (m_fault x y) = M_signMany x := rfl
theorem r_lastOver_fault (x : Mv) (y : Int32) : M_lastOver (m_fault x y) = M_lastOver x := rfl
theorem r_at_fault (x : Mv) (y : Int32) : M_at (m_fault x y) = M_at x := rfl
theorem r_told_fault (x : Mv) (y : Int32) : M_told (m_fault x y) = M_told x := rfl
theorem r_toldMany_fault (x : Mv) (y : Int32) : M_toldMany (m_fault x y) = M_toldMany x := rfl
theorem mkM_signs (x : Mv) (y : Nat → Int32) : mkM (M_g x) (M_kept x) (M_saved x) (M_before x) (M_trial x) (M_counted x) (M_isSaved x) (M_changes x) (M_isWithin x) (M_isDenied x) (M_code x) (M_why x) (M_detail x) (M_cause x) (M_input x) (M_length x) (M_fault x) y (M_signMany x) (M_lastOver x) (M_at x) (M_told x) (M_toldMany x) = m_signs x y := rfl
theorem e_signs (x : Mv) (z y : Nat → Int32) : mkM (M_g (m_signs x z)) (M_kept (m_signs x z)) (M_saved (m_signs x z)) (M_before (m_signs x z)) (M_trial (m_signs x z)) (M_counted (m_signs x z)) (M_isSaved (m_signs x z)) (M_changes (m_signs x z)) (M_isWithin (m_signs x z)) (M_isDenied (m_signs x z)) (M_code (m_signs x z)) (M_why (m_signs x z)) (M_detail (m_signs x z)) (M_cause (m_signs x z)) (M_input (m_signs x z)) (M_length (m_signs x z)) (M_fault (m_signs x z)) y (M_signMany (m_signs x z)) (M_lastOver (m_signs x z)) (M_at (m_signs x z)) (M_told (m_signs x z)) (M_toldMany (m_signs x z)) = m_signs x y := rfl
theorem mm_signs (x : Mv) (z y : Nat → Int32) : m_signs (m_signs x z) y = m_signs x y := rfl
theorem r_g_signs (x : Mv) (y : Nat → Int32) : M_g (m_signs x y) = M_g x := rfl
theorem r_kept_signs (x : Mv) (y : Nat → Int32) : M_kept (m_signs x y) = M_kept x := rfl
theorem r_saved_signs (x : Mv) (y : Nat → Int32) : M_saved (m_signs x y) = M_saved x := rfl
theorem r_before_signs (x : Mv) (y : Nat → Int32) : M_before (m_signs x y) = M_before x := rfl
theorem r_trial_signs (x : Mv) (y : Nat → Int32) : M_trial (m_signs x y) = M_trial x := rfl
theorem r_counted_signs (x : Mv) (y : Nat → Int32) : M_counted (m_signs x y) = M_counted x := rfl
theorem r_isSaved_signs (x : Mv) (y : Nat → Int32) : M_isSaved (m_signs x y) = M_isSaved x := rfl
theorem r_changes_signs (x : Mv) (y : Nat → Int32) : M_changes (m_signs x y) = M_changes x := rfl
theorem r_isWithin_signs (x : Mv) (y : Nat → Int32) : M_isWithin (m_signs x y) = M_isWithin x := rfl
theorem r_isDenied_signs (x : Mv) (y : Nat → Int32) : M_isDenied (m_signs x y) = M_isDenied x := rfl
theorem r_code_signs (x : Mv) (y : Nat → Int32) : M_code (m_signs x y) = M_code x := rfl
theorem r_why_signs (x : Mv) (y : Nat → Int32) : M_why (m_signs x y) = M_why x := rfl
theorem r_detail_signs (x : Mv) (y : Nat → Int32) : M_detail (m_signs x y) = M_detail x := rfl
theorem r_cause_signs (x : Mv) (y : Nat → Int32) : M_cause (m_signs x y) = M_cause x := rfl
theorem r_input_signs (x : Mv) (y : Nat → Int32) : M_input (m_signs x y) = M_input x := rfl
theorem r_length_signs (x : Mv) (y : Nat → Int32) : M_length (m_signs x y) = M_length x := rfl
theorem r_fault_signs (x : Mv) (y : Nat → Int32) : M_fault (m_signs x y) = M_fault x := rfl
theorem r_signs_signs (x : Mv) (y : Nat → Int32) : M_signs (m_signs x y) = y := rfl
theorem r_signMany_signs (x : Mv) (y : Nat → Int32) : M_signMany (m_signs x y) = M_signMany x := rfl
theorem r_lastOver_signs (x : Mv) (y : Nat → Int32) : M_lastOver (m_signs x y) = M_lastOver x := rfl
theorem r_at_signs (x : Mv) (y : Nat → Int32) : M_at (m_signs x y) = M_at x := rfl
theorem r_told_signs (x : Mv) (y : Nat → Int32) : M_told (m_signs x y) = M_told x := rfl
theorem r_toldMany_signs (x : Mv) (y : Nat → Int32) : M_toldMany (m_signs x y) = M_toldMany x := rfl
theorem mkM_signMany (x : Mv) (y : Int32) : mkM (M_g x) (M_kept x) (M_saved x) (M_before x) (M_trial x) (M_counted x) (M_isSaved x) (M_changes x) (M_isWithin x) (M_isDenied x) (M_code x) (M_why x) (M_detail x) (M_cause x) (M_input x) (M_length x) (M_fault x) (M_signs x) y (M_lastOver x) (M_at x) (M_told x) (M_toldMany x) = m_signMany x y := rfl
theorem e_signMany (x : Mv) (z y : Int32) : mkM (M_g (m_signMany x z)) (M_kept (m_signMany x z)) (M_saved (m_signMany x z)) (M_before (m_signMany x z)) (M_trial (m_signMany x z)) (M_counted (m_signMany x z)) (M_isSaved (m_signMany x z)) (M_changes (m_signMany x z)) (M_isWithin (m_signMany x z)) (M_isDenied (m_signMany x z)) (M_code (m_signMany x z)) (M_why (m_signMany x z)) (M_detail (m_signMany x z)) (M_cause (m_signMany x z)) (M_input (m_signMany x z)) (M_length (m_signMany x z)) (M_fault (m_signMany x z)) (M_signs (m_signMany x z)) y (M_lastOver (m_signMany x z)) (M_at (m_signMany x z)) (M_told (m_signMany x z)) (M_toldMany (m_signMany x z)) = m_signMany x y := rfl
theorem mm_signMany (x : Mv) (z y : Int32) : m_signMany (m_signMany x z) y = m_signMany x y := rfl
theorem r_g_signMany (x : Mv) (y : Int32) : M_g (m_signMany x y) = M_g x := rfl
theorem r_kept_signMany (x : Mv) (y : Int32) : M_kept (m_signMany x y) = M_kept x := rfl
theorem r_saved_signMany (x : Mv) (y : Int32) : M_saved (m_signMany x y) = M_saved x := rfl
theorem r_before_signMany (x : Mv) (y : Int32) : M_before (m_signMany x y) = M_before x := rfl
theorem r_trial_signMany (x : Mv) (y : Int32) : M_trial (m_signMany x y) = M_trial x := rfl
theorem r_counted_signMany (x : Mv) (y : Int32) : M_counted (m_signMany x y) = M_counted x := rfl
theorem r_isSaved_signMany (x : Mv) (y : Int32) : M_isSaved (m_signMany x y) = M_isSaved x := rfl
theorem r_changes_signMany (x : Mv) (y : Int32) : M_changes (m_signMany x y) = M_changes x := rfl
theorem r_isWithin_signMany (x : Mv) (y : Int32) : M_isWithin (m_signMany x y) = M_isWithin x := rfl
theorem r_isDenied_signMany (x : Mv) (y : Int32) : M_isDenied (m_signMany x y) = M_isDenied x := rfl
theorem r_code_signMany (x : Mv) (y : Int32) : M_code (m_signMany x y) = M_code x := rfl
theorem r_why_signMany (x : Mv) (y : Int32) : M_why (m_signMany x y) = M_why x := rfl
theorem r_detail_signMany (x : Mv) (y : Int32) : M_detail (m_signMany x y) = M_detail x := rfl
theorem r_cause_signMany (x : Mv) (y : Int32) : M_cause (m_signMany x y) = M_cause x := rfl
theorem r_input_signMany (x : Mv) (y : Int32) : M_input (m_signMany x y) = M_input x := rfl
theorem r_length_signMany (x : Mv) (y : Int32) : M_length (m_signMany x y) = M_length x := rfl
theorem r_fault_signMany (x : Mv) (y : Int32) : M_fault (m_signMany x y) = M_fault x := rfl
theorem r_signs_signMany (x : Mv) (y : Int32) : M_signs (m_signMany x y) = M_signs x := rfl
theorem r_signMany_signMany (x : Mv) (y : Int32) : M_signMany (m_signMany x y) = y := rfl
theorem r_lastOver_signMany (x : Mv) (y : Int32) : M_lastOver (m_signMany x y) = M_lastOver x := rfl
theorem r_at_signMany (x : Mv) (y : Int32) : M_at (m_signMany x y) = M_at x := rfl
theorem r_told_signMany (x : Mv) (y : Int32) : M_told (m_signMany x y) = M_told x := rfl
theorem r_toldMany_signMany (x : Mv) (y : Int32) : M_toldMany (m_signMany x y) = M_toldMany x := rfl
theorem mkM_lastOver (x : Mv) (y : Int32) : mkM (M_g x) (M_kept x) (M_saved x) (M_before x) (M_trial x) (M_counted x) (M_isSaved x) (M_changes x) (M_isWithin x) (M_isDenied x) (M_code x) (M_why x) (M_detail x) (M_cause x) (M_input x) (M_length x) (M_fault x) (M_signs x) (M_signMany x) y (M_at x) (M_told x) (M_toldMany x) = m_lastOver x y := rfl
theorem e_lastOver (x : Mv) (z y : Int32) : mkM (M_g (m_lastOver x z)) (M_kept (m_lastOver x z)) (M_saved (m_lastOver x z)) (M_before (m_lastOver x z)) (M_trial (m_lastOver x z)) (M_counted (m_lastOver x z)) (M_isSaved (m_lastOver x z)) (M_changes (m_lastOver x z)) (M_isWithin (m_lastOver x z)) (M_isDenied (m_lastOver x z)) (M_code (m_lastOver x z)) (M_why (m_lastOver x z)) (M_detail (m_lastOver x z)) (M_cause (m_lastOver x z)) (M_input (m_lastOver x z)) (M_length (m_lastOver x z)) (M_fault (m_lastOver x z)) (M_signs (m_lastOver x z)) (M_signMany (m_lastOver x z)) y (M_at (m_lastOver x z)) (M_told (m_lastOver x z)) (M_toldMany (m_lastOver x z)) = m_lastOver x y := rfl
theorem mm_lastOver (x : Mv) (z y : Int32) : m_lastOver (m_lastOver x z) y = m_lastOver x y := rfl
theorem r_g_lastOver (x : Mv) (y : Int32) : M_g (m_lastOver x y) = M_g x := rfl
theorem r_kept_lastOver (x : Mv) (y : Int32) : M_kept (m_lastOver x y) = M_kept x := rfl
theorem r_saved_lastOver (x : Mv) (y : Int32) : M_saved (m_lastOver x y) = M_saved x := rfl
theorem r_before_lastOver (x : Mv) (y : Int32) : M_before (m_lastOver x y) = M_before x := rfl
theorem r_trial_lastOver (x : Mv) (y : Int32) : M_trial (m_lastOver x y) = M_trial x := rfl
theorem r_counted_lastOver (x : Mv) (y : Int32) : M_counted (m_lastOver x y) = M_counted x := rfl
theorem r_isSaved_lastOver (x : Mv) (y : Int32) : M_isSaved (m_lastOver x y) = M_isSaved x := rfl
theorem r_changes_lastOver (x : Mv) (y : Int32) : M_changes (m_lastOver x y) = M_changes x := rfl
theorem r_isWithin_lastOver (x : Mv) (y : Int32) : M_isWithin (m_lastOver x y) = M_isWithin x := rfl
theorem r_isDenied_lastOver (x : Mv) (y : Int32) : M_isDenied (m_lastOver x y) = M_isDenied x := rfl
theorem r_code_lastOver (x : Mv) (y : Int32) : M_code (m_lastOver x y) = M_code x := rfl
theorem r_why_lastOver (x : Mv) (y : Int32) : M_why (m_lastOver x y) = M_why x := rfl
theorem r_detail_lastOver (x : Mv) (y : Int32) : M_detail (m_lastOver x y) = M_detail x := rfl
theorem r_cause_lastOver (x : Mv) (y : Int32) : M_cause (m_lastOver x y) = M_cause x := rfl
theorem r_input_lastOver (x : Mv) (y : Int32) : M_input (m_lastOver x y) = M_input x := rfl
theorem r_length_lastOver (x : Mv) (y : Int32) : M_length (m_lastOver x y) = M_length x := rfl
theorem r_fault_lastOver (x : Mv) (y : Int32) : M_fault (m_lastOver x y) = M_fault x := rfl
theorem r_signs_lastOver (x : Mv) (y : Int32) : M_signs (m_lastOver x y) = M_signs x := rfl
theorem r_signMany_lastOver (x : Mv) (y : Int32) : M_signMany (m_lastOver x y) = M_signMany x := rfl
theorem r_lastOver_lastOver (x : Mv) (y : Int32) : M_lastOver (m_lastOver x y) = y := rfl
theorem r_at_lastOver (x : Mv) (y : Int32) : M_at (m_lastOver x y) = M_at x := rfl
theorem r_told_lastOver (x : Mv) (y : Int32) : M_told (m_lastOver x y) = M_told x := rfl
theorem r_toldMany_lastOver (x : Mv) (y : Int32) : M_toldMany (m_lastOver x y) = M_toldMany x := rfl
theorem mkM_at (x : Mv) (y : Int32) : mkM (M_g x) (M_kept x) (M_saved x) (M_before x) (M_trial x) (M_counted x) (M_isSaved x) (M_changes x) (M_isWithin x) (M_isDenied x) (M_code x) (M_why x) (M_detail x) (M_cause x) (M_input x) (M_length x) (M_fault x) (M_signs x) (M_signMany x) (M_lastOver x) y (M_told x) (M_toldMany x) = m_at x y := rfl
theorem e_at (x : Mv) (z y : Int32) : mkM (M_g (m_at x z)) (M_kept (m_at x z)) (M_saved (m_at x z)) (M_before (m_at x z)) (M_trial (m_at x z)) (M_counted (m_at x z)) (M_isSaved (m_at x z)) (M_changes (m_at x z)) (M_isWithin (m_at x z)) (M_isDenied (m_at x z)) (M_code (m_at x z)) (M_why (m_at x z)) (M_detail (m_at x z)) (M_cause (m_at x z)) (M_input (m_at x z)) (M_length (m_at x z)) (M_fault (m_at x z)) (M_signs (m_at x z)) (M_signMany (m_at x z)) (M_lastOver (m_at x z)) y (M_told (m_at x z)) (M_toldMany (m_at x z)) = m_at x y := rfl
theorem mm_at (x : Mv) (z y : Int32) : m_at (m_at x z) y = m_at x y := rfl
theorem r_g_at (x : Mv) (y : Int32) : M_g (m_at x y) = M_g x := rfl
theorem r_kept_at (x : Mv) (y : Int32) : M_kept (m_at x y) = M_kept x := rfl
theorem r_saved_at (x : Mv) (y : Int32) : M_saved (m_at x y) = M_saved x := rfl
theorem r_before_at (x : Mv) (y : Int32) : M_before (m_at x y) = M_before x := rfl
theorem r_trial_at (x : Mv) (y : Int32) : M_trial (m_at x y) = M_trial x := rfl
theorem r_counted_at (x : Mv) (y : Int32) : M_counted (m_at x y) = M_counted x := rfl
theorem r_isSaved_at (x : Mv) (y : Int32) : M_isSaved (m_at x y) = M_isSaved x := rfl
theorem r_changes_at (x : Mv) (y : Int32) : M_changes (m_at x y) = M_changes x := rfl
theorem r_isWithin_at (x : Mv) (y : Int32) : M_isWithin (m_at x y) = M_isWithin x := rfl
theorem r_isDenied_at (x : Mv) (y : Int32) : M_isDenied (m_at x y) = M_isDenied x := rfl
theorem r_code_at (x : Mv) (y : Int32) : M_code (m_at x y) = M_code x := rfl
theorem r_why_at (x : Mv) (y : Int32) : M_why (m_at x y) = M_why x := rfl
theorem r_detail_at (x : Mv) (y : Int32) : M_detail (m_at x y) = M_detail x := rfl
theorem r_cause_at (x : Mv) (y : Int32) : M_cause (m_at x y) = M_cause x := rfl
theorem r_input_at (x : Mv) (y : Int32) : M_input (m_at x y) = M_input x := rfl
theorem r_length_at (x : Mv) (y : Int32) : M_length (m_at x y) = M_length x := rfl
theorem r_fault_at (x : Mv) (y : Int32) : M_fault (m_at x y) = M_fault x := rfl
theorem r_signs_at (x : Mv) (y : Int32) : M_signs (m_at x y) = M_signs x := rfl
theorem r_signMany_at (x : Mv) (y : Int32) : M_signMany (m_at x y) = M_signMany x := rfl
theorem r_lastOver_at (x : Mv) (y : Int32) : M_lastOver (m_at x y) = M_lastOver x := rfl
theorem r_at_at (x : Mv) (y : Int32) : M_at (m_at x y) = y := rfl
theorem r_told_at (x : Mv) (y : Int32) : M_told (m_at x y) = M_told x := rfl
theorem r_toldMany_at (x : Mv) (y : Int32) : M_toldMany (m_at x y) = M_toldMany x := rfl
theorem mkM_told (x : Mv) (y : Nat → Int32) : mkM (M_g x) (M_kept x) (M_saved x) (M_before x) (M_trial x) (M_counted x) (M_isSaved x) (M_changes x) (M_isWithin x) (M_isDenied x) (M_code x) (M_why x) (M_detail x) (M_cause x) (M_input x) (M_length x) (M_fault x) (M_signs x) (M_signMany x) (M_lastOver x) (M_at x) y (M_toldMany x) = m_told x y := rfl
theorem e_told (x : Mv) (z y : Nat → Int32) : mkM (M_g (m_told x z)) (M_kept (m_told x z)) (M_saved (m_told x z)) (M_before (m_told x z)) (M_trial (m_told x z)) (M_counted (m_told x z)) (M_isSaved (m_told x z)) (M_changes (m_told x z)) (M_isWithin (m_told x z)) (M_isDenied (m_told x z)) (M_code (m_told x z)) (M_why (m_told x z)) (M_detail (m_told x z)) (M_cause (m_told x z)) (M_input (m_told x z)) (M_length (m_told x z)) (M_fault (m_told x z)) (M_signs (m_told x z)) (M_signMany (m_told x z)) (M_lastOver (m_told x z)) (M_at (m_told x z)) y (M_toldMany (m_told x z)) = m_told x y := rfl
theorem mm_told (x : Mv) (z y : Nat → Int32) : m_told (m_told x z) y = m_told x y := rfl
theorem r_g_told (x : Mv) (y : Nat → Int32) : M_g (m_told x y) = M_g x := rfl
theorem r_kept_told (x : Mv) (y : Nat → Int32) : M_kept (m_told x y) = M_kept x := rfl
theorem r_saved_told (x : Mv) (y : Nat → Int32) : M_saved (m_told x y) = M_saved x := rfl
theorem r_before_told (x : Mv) (y : Nat → Int32) : M_before (m_told x y) = M_before x := rfl
theorem r_trial_told (x : Mv) (y : Nat → Int32) : M_trial (m_told x y) = M_trial x := rfl
theorem r_counted_told (x : Mv) (y : Nat → Int32) : M_counted (m_told x y) = M_counted x := rfl
theorem r_isSaved_told (x : Mv) (y : Nat → Int32) : M_isSaved (m_told x y) = M_isSaved x := rfl
theorem r_changes_told (x : Mv) (y : Nat → Int32) : M_changes (m_told x y) = M_changes x := rfl
theorem r_isWithin_told (x : Mv) (y : Nat → Int32) : M_isWithin (m_told x y) = M_isWithin x := rfl
theorem r_isDenied_told (x : Mv) (y : Nat → Int32) : M_isDenied (m_told x y) = M_isDenied x := rfl
theorem r_code_told (x : Mv) (y : Nat → Int32) : M_code (m_told x y) = M_code x := rfl
theorem r_why_told (x : Mv) (y : Nat → Int32) : M_why (m_told x y) = M_why x := rfl
theorem r_detail_told (x : Mv) (y : Nat → Int32) : M_detail (m_told x y) = M_detail x := rfl
theorem r_cause_told (x : Mv) (y : Nat → Int32) : M_cause (m_told x y) = M_cause x := rfl
theorem r_input_told (x : Mv) (y : Nat → Int32) : M_input (m_told x y) = M_input x := rfl
theorem r_length_told (x : Mv) (y : Nat → Int32) : M_length (m_told x y) = M_length x := rfl
theorem r_fault_told (x : Mv) (y : Nat → Int32) : M_fault (m_told x y) = M_fault x := rfl
theorem r_signs_told (x : Mv) (y : Nat → Int32) : M_signs (m_told x y) = M_signs x := rfl
theorem r_signMany_told (x : Mv) (y : Nat → Int32) : M_signMany (m_told x y) = M_signMany x := rfl
theorem r_lastOver_told (x : Mv) (y : Nat → Int32) : M_lastOver (m_told x y) = M_lastOver x := rfl
theorem r_at_told (x : Mv) (y : Nat → Int32) : M_at (m_told x y) = M_at x := rfl
theorem r_told_told (x : Mv) (y : Nat → Int32) : M_told (m_told x y) = y := rfl
theorem r_toldMany_told (x : Mv) (y : Nat → Int32) : M_toldMany (m_told x y) = M_toldMany x := rfl
theorem mkM_toldMany (x : Mv) (y : Int32) : mkM (M_g x) (M_kept x) (M_saved x) (M_before x) (M_trial x) (M_counted x) (M_isSaved x) (M_changes x) (M_isWithin x) (M_isDenied x) (M_code x) (M_why x) (M_detail x) (M_cause x) (M_input x) (M_length x) (M_fault x) (M_signs x) (M_signMany x) (M_lastOver x) (M_at x) (M_told x) y = m_toldMany x y := rfl
theorem e_toldMany (x : Mv) (z y : Int32) : mkM (M_g (m_toldMany x z)) (M_kept (m_toldMany x z)) (M_saved (m_toldMany x z)) (M_before (m_toldMany x z)) (M_trial (m_toldMany x z)) (M_counted (m_toldMany x z)) (M_isSaved (m_toldMany x z)) (M_changes (m_toldMany x z)) (M_isWithin (m_toldMany x z)) (M_isDenied (m_toldMany x z)) (M_code (m_toldMany x z)) (M_why (m_toldMany x z)) (M_detail (m_toldMany x z)) (M_cause (m_toldMany x z)) (M_input (m_toldMany x z)) (M_length (m_toldMany x z)) (M_fault (m_toldMany x z)) (M_signs (m_toldMany x z)) (M_signMany (m_toldMany x z)) (M_lastOver (m_toldMany x z)) (M_at (m_toldMany x z)) (M_told (m_toldMany x z)) y = m_toldMany x y := rfl
theorem mm_toldMany (x : Mv) (z y : Int32) : m_toldMany (m_toldMany x z) y = m_toldMany x y := rfl
theorem r_g_toldMany (x : Mv) (y : Int32) : M_g (m_toldMany x y) = M_g x := rfl
theorem r_kept_toldMany (x : Mv) (y : Int32) : M_kept (m_toldMany x y) = M_kept x := rfl
theorem r_saved_toldMany (x : Mv) (y : Int32) : M_saved (m_toldMany x y) = M_saved x := rfl
theorem r_before_toldMany (x : Mv) (y : Int32) : M_before (m_toldMany x y) = M_before x := rfl
theorem r_trial_toldMany (x : Mv) (y : Int32) : M_trial (m_toldMany x y) = M_trial x := rfl
theorem r_counted_toldMany (x : Mv) (y : Int32) : M_counted (m_toldMany x y) = M_counted x := rfl
theorem r_isSaved_toldMany (x : Mv) (y : Int32) : M_isSaved (m_toldMany x y) = M_isSaved x := rfl
theorem r_changes_toldMany (x : Mv) (y : Int32) : M_changes (m_toldMany x y) = M_changes x := rfl
theorem r_isWithin_toldMany (x : Mv) (y : Int32) : M_isWithin (m_toldMany x y) = M_isWithin x := rfl
theorem r_isDenied_toldMany (x : Mv) (y : Int32) : M_isDenied (m_toldMany x y) = M_isDenied x := rfl
theorem r_code_toldMany (x : Mv) (y : Int32) : M_code (m_toldMany x y) = M_code x := rfl
theorem r_why_toldMany (x : Mv) (y : Int32) : M_why (m_toldMany x y) = M_why x := rfl
theorem r_detail_toldMany (x : Mv) (y : Int32) : M_detail (m_toldMany x y) = M_detail x := rfl
theorem r_cause_toldMany (x : Mv) (y : Int32) : M_cause (m_toldMany x y) = M_cause x := rfl
theorem r_input_toldMany (x : Mv) (y : Int32) : M_input (m_toldMany x y) = M_input x := rfl
theorem r_length_toldMany (x : Mv) (y : Int32) : M_length (m_toldMany x y) = M_length x := rfl
theorem r_fault_toldMany (x : Mv) (y : Int32) : M_fault (m_toldMany x y) = M_fault x := rfl
theorem r_signs_toldMany (x : Mv) (y : Int32) : M_signs (m_toldMany x y) = M_signs x := rfl
theorem r_signMany_toldMany (x : Mv) (y : Int32) : M_signMany (m_toldMany x y) = M_signMany x := rfl
theorem r_lastOver_toldMany (x : Mv) (y : Int32) : M_lastOver (m_toldMany x y) = M_lastOver x := rfl
theorem r_at_toldMany (x : Mv) (y : Int32) : M_at (m_toldMany x y) = M_at x := rfl
theorem r_told_toldMany (x : Mv) (y : Int32) : M_told (m_toldMany x y) = M_told x := rfl
theorem r_toldMany_toldMany (x : Mv) (y : Int32) : M_toldMany (m_toldMany x y) = y := rfl
/-- the reference's row, read as a bridge -/
def RG (g : Nat → Int32) (S : Br) : Prop :=
  (g 0 = nI (s_n S) ∧ g 1 = nI (s_v S) ∧ g 2 = nI (s_nx S) ∧ g 3 = nI (s_hr S) ∧ g 4 = nI (s_rt S) ∧ g 5 = nI (s_tl S) ∧ g 6 = nI (s_pd S) ∧ g 7 = nI (s_cr S) ∧ g 8 = nI (s_sk S)) ∧
  (∀ k, k < s_n S → g (9 + 5 * k + 0) = nI (s_L S k) ∧ g (9 + 5 * k + 1) = nI (s_J S k) ∧ g (9 + 5 * k + 2) = nI (s_A S k) ∧ g (9 + 5 * k + 3) = nI (s_K S k) ∧ g (9 + 5 * k + 4) = nI (s_T S k)) ∧
  (∀ j, j < s_v S → g (59 + 3 * j + 0) = nI (s_N S j) ∧ g (59 + 3 * j + 1) = nI (s_W S j) ∧ g (59 + 3 * j + 2) = nI (s_P S j))
theorem RG_L {g : Nat → Int32} {S : Br} (h : RG g S) (hn : s_n S ≤ 10) {k : Nat} (x : Nat) (hk : k < s_n S) : RG (upd g (9 + 5 * k + 0) (nI x)) (st_L S (uN (s_L S) k x)) := by
  obtain ⟨⟨a0, a1, a2, a3, a4, a5, a6, a7, a8⟩, b, c⟩ := h
  unfold RG
  simp only [q_n_L, q_L_L, q_J_L, q_A_L, q_K_L, q_T_L, q_v_L, q_N_L, q_W_L, q_P_L, q_nx_L, q_hr_L, q_rt_L, q_tl_L, q_pd_L, q_cr_L, q_sk_L]
  refine ⟨⟨?_, ?_, ?_, ?_, ?_, ?_, ?_, ?_, ?_⟩, ?_, ?_⟩
  · exact (pk_un (by omega)).trans a0
  · exact (pk_un (by omega)).trans a1
  · exact (pk_un (by omega)).trans a2
  · exact (pk_un (by omega)).trans a3
  · exact (pk_un (by omega)).trans a4
  · exact (pk_un (by omega)).trans a5
  · exact (pk_un (by omega)).trans a6
  · exact (pk_un (by omega)).trans a7
  · exact (pk_un (by omega)).trans a8
  · intro i hi
    obtain ⟨b0, b1, b2, b3, b4⟩ := b i hi
    by_cases e : i = k
    · subst e
      refine ⟨?_, ?_, ?_, ?_, ?_⟩
      · exact (pk_us).trans (congrArg nI (uN_s _ _ _).symm)
      · exact (pk_un (by omega)).trans b1
      · exact (pk_un (by omega)).trans b2
      · exact (pk_un (by omega)).trans b3
      · exact (pk_un (by omega)).trans b4
    · refine ⟨?_, ?_, ?_, ?_, ?_⟩
      · exact ((pk_un (by omega)).trans b0).trans (congrArg nI (uN_o _ _ e).symm)
      · exact (pk_un (by omega)).trans b1
      · exact (pk_un (by omega)).trans b2
      · exact (pk_un (by omega)).trans b3
      · exact (pk_un (by omega)).trans b4
  · intro j hj
    obtain ⟨c0, c1, c2⟩ := c j hj
    exact ⟨(pk_un (by omega)).trans c0, (pk_un (by omega)).trans c1, (pk_un (by omega)).trans c2⟩
theorem RG_J {g : Nat → Int32} {S : Br} (h : RG g S) (hn : s_n S ≤ 10) {k : Nat} (x : Nat) (hk : k < s_n S) : RG (upd g (9 + 5 * k + 1) (nI x)) (st_J S (uN (s_J S) k x)) := by
  obtain ⟨⟨a0, a1, a2, a3, a4, a5, a6, a7, a8⟩, b, c⟩ := h
  unfold RG
  simp only [q_n_J, q_L_J, q_J_J, q_A_J, q_K_J, q_T_J, q_v_J, q_N_J, q_W_J, q_P_J, q_nx_J, q_hr_J, q_rt_J, q_tl_J, q_pd_J, q_cr_J, q_sk_J]
  refine ⟨⟨?_, ?_, ?_, ?_, ?_, ?_, ?_, ?_, ?_⟩, ?_, ?_⟩
  · exact (pk_un (by omega)).trans a0
  · exact (pk_un (by omega)).trans a1
  · exact (pk_un (by omega)).trans a2
  · exact (pk_un (by omega)).trans a3
  · exact (pk_un (by omega)).trans a4
  · exact (pk_un (by omega)).trans a5
  · exact (pk_un (by omega)).trans a6
  · exact (pk_un (by omega)).trans a7
  · exact (pk_un (by omega)).trans a8
  · intro i hi
    obtain ⟨b0, b1, b2, b3, b4⟩ := b i hi
    by_cases e : i = k
    · subst e
      refine ⟨?_, ?_, ?_, ?_, ?_⟩
      · exact (pk_un (by omega)).trans b0
      · exact (pk_us).trans (congrArg nI (uN_s _ _ _).symm)
      · exact (pk_un (by omega)).trans b2
      · exact (pk_un (by omega)).trans b3
      · exact (pk_un (by omega)).trans b4
    · refine ⟨?_, ?_, ?_, ?_, ?_⟩
      · exact (pk_un (by omega)).trans b0
      · exact ((pk_un (by omega)).trans b1).trans (congrArg nI (uN_o _ _ e).symm)
      · exact (pk_un (by omega)).trans b2
      · exact (pk_un (by omega)).trans b3
      · exact (pk_un (by omega)).trans b4
  · intro j hj
    obtain ⟨c0, c1, c2⟩ := c j hj
    exact ⟨(pk_un (by omega)).trans c0, (pk_un (by omega)).trans c1, (pk_un (by omega)).trans c2⟩
theorem RG_A {g : Nat → Int32} {S : Br} (h : RG g S) (hn : s_n S ≤ 10) {k : Nat} (x : Nat) (hk : k < s_n S) : RG (upd g (9 + 5 * k + 2) (nI x)) (st_A S (uN (s_A S) k x)) := by
  obtain ⟨⟨a0, a1, a2, a3, a4, a5, a6, a7, a8⟩, b, c⟩ := h
  unfold RG
  simp only [q_n_A, q_L_A, q_J_A, q_A_A, q_K_A, q_T_A, q_v_A, q_N_A, q_W_A, q_P_A, q_nx_A, q_hr_A, q_rt_A, q_tl_A, q_pd_A, q_cr_A, q_sk_A]
  refine ⟨⟨?_, ?_, ?_, ?_, ?_, ?_, ?_, ?_, ?_⟩, ?_, ?_⟩
  · exact (pk_un (by omega)).trans a0
  · exact (pk_un (by omega)).trans a1
  · exact (pk_un (by omega)).trans a2
  · exact (pk_un (by omega)).trans a3
  · exact (pk_un (by omega)).trans a4
  · exact (pk_un (by omega)).trans a5
  · exact (pk_un (by omega)).trans a6
  · exact (pk_un (by omega)).trans a7
  · exact (pk_un (by omega)).trans a8
  · intro i hi
    obtain ⟨b0, b1, b2, b3, b4⟩ := b i hi
    by_cases e : i = k
    · subst e
      refine ⟨?_, ?_, ?_, ?_, ?_⟩
      · exact (pk_un (by omega)).trans b0
      · exact (pk_un (by omega)).trans b1
      · exact (pk_us).trans (congrArg nI (uN_s _ _ _).symm)
      · exact (pk_un (by omega)).trans b3
      · exact (pk_un (by omega)).trans b4
    · refine ⟨?_, ?_, ?_, ?_, ?_⟩
      · exact (pk_un (by omega)).trans b0
      · exact (pk_un (by omega)).trans b1
      · exact ((pk_un (by omega)).trans b2).trans (congrArg nI (uN_o _ _ e).symm)
      · exact (pk_un (by omega)).trans b3
      · exact (pk_un (by omega)).trans b4
  · intro j hj
    obtain ⟨c0, c1, c2⟩ := c j hj
    exact ⟨(pk_un (by omega)).trans c0, (pk_un (by omega)).trans c1, (pk_un (by omega)).trans c2⟩
theorem RG_K {g : Nat → Int32} {S : Br} (h : RG g S) (hn : s_n S ≤ 10) {k : Nat} (x : Nat) (hk : k < s_n S) : RG (upd g (9 + 5 * k + 3) (nI x)) (st_K S (uN (s_K S) k x)) := by
  obtain ⟨⟨a0, a1, a2, a3, a4, a5, a6, a7, a8⟩, b, c⟩ := h
  unfold RG
  simp only [q_n_K, q_L_K, q_J_K, q_A_K, q_K_K, q_T_K, q_v_K, q_N_K, q_W_K, q_P_K, q_nx_K, q_hr_K, q_rt_K, q_tl_K, q_pd_K, q_cr_K, q_sk_K]
  refine ⟨⟨?_, ?_, ?_, ?_, ?_, ?_, ?_, ?_, ?_⟩, ?_, ?_⟩
  · exact (pk_un (by omega)).trans a0
  · exact (pk_un (by omega)).trans a1
  · exact (pk_un (by omega)).trans a2
  · exact (pk_un (by omega)).trans a3
  · exact (pk_un (by omega)).trans a4
  · exact (pk_un (by omega)).trans a5
  · exact (pk_un (by omega)).trans a6
  · exact (pk_un (by omega)).trans a7
  · exact (pk_un (by omega)).trans a8
  · intro i hi
    obtain ⟨b0, b1, b2, b3, b4⟩ := b i hi
    by_cases e : i = k
    · subst e
      refine ⟨?_, ?_, ?_, ?_, ?_⟩
      · exact (pk_un (by omega)).trans b0
      · exact (pk_un (by omega)).trans b1
      · exact (pk_un (by omega)).trans b2
      · exact (pk_us).trans (congrArg nI (uN_s _ _ _).symm)
      · exact (pk_un (by omega)).trans b4
    · refine ⟨?_, ?_, ?_, ?_, ?_⟩
      · exact (pk_un (by omega)).trans b0
      · exact (pk_un (by omega)).trans b1
      · exact (pk_un (by omega)).trans b2
      · exact ((pk_un (by omega)).trans b3).trans (congrArg nI (uN_o _ _ e).symm)
      · exact (pk_un (by omega)).trans b4
  · intro j hj
    obtain ⟨c0, c1, c2⟩ := c j hj
    exact ⟨(pk_un (by omega)).trans c0, (pk_un (by omega)).trans c1, (pk_un (by omega)).trans c2⟩
theorem RG_T {g : Nat → Int32} {S : Br} (h : RG g S) (hn : s_n S ≤ 10) {k : Nat} (x : Nat) (hk : k < s_n S) : RG (upd g (9 + 5 * k + 4) (nI x)) (st_T S (uN (s_T S) k x)) := by
  obtain ⟨⟨a0, a1, a2, a3, a4, a5, a6, a7, a8⟩, b, c⟩ := h
  unfold RG
  simp only [q_n_T, q_L_T, q_J_T, q_A_T, q_K_T, q_T_T, q_v_T, q_N_T, q_W_T, q_P_T, q_nx_T, q_hr_T, q_rt_T, q_tl_T, q_pd_T, q_cr_T, q_sk_T]
  refine ⟨⟨?_, ?_, ?_, ?_, ?_, ?_, ?_, ?_, ?_⟩, ?_, ?_⟩
  · exact (pk_un (by omega)).trans a0
  · exact (pk_un (by omega)).trans a1
  · exact (pk_un (by omega)).trans a2
  · exact (pk_un (by omega)).trans a3
  · exact (pk_un (by omega)).trans a4
  · exact (pk_un (by omega)).trans a5
  · exact (pk_un (by omega)).trans a6
  · exact (pk_un (by omega)).trans a7
  · exact (pk_un (by omega)).trans a8
  · intro i hi
    obtain ⟨b0, b1, b2, b3, b4⟩ := b i hi
    by_cases e : i = k
    · subst e
      refine ⟨?_, ?_, ?_, ?_, ?_⟩
      · exact (pk_un (by omega)).trans b0
      · exact (pk_un (by omega)).trans b1
      · exact (pk_un (by omega)).trans b2
      · exact (pk_un (by omega)).trans b3
      · exact (pk_us).trans (congrArg nI (uN_s _ _ _).symm)
    · refine ⟨?_, ?_, ?_, ?_, ?_⟩
      · exact (pk_un (by omega)).trans b0
      · exact (pk_un (by omega)).trans b1
      · exact (pk_un (by omega)).trans b2
      · exact (pk_un (by omega)).trans b3
      · exact ((pk_un (by omega)).trans b4).trans (congrArg nI (uN_o _ _ e).symm)
  · intro j hj
    obtain ⟨c0, c1, c2⟩ := c j hj
    exact ⟨(pk_un (by omega)).trans c0, (pk_un (by omega)).trans c1, (pk_un (by omega)).trans c2⟩
theorem RG_N {g : Nat → Int32} {S : Br} (h : RG g S) (hn : s_n S ≤ 10) {k : Nat} (x : Nat) (hk : k < s_v S) : RG (upd g (59 + 3 * k + 0) (nI x)) (st_N S (uN (s_N S) k x)) := by
  obtain ⟨⟨a0, a1, a2, a3, a4, a5, a6, a7, a8⟩, b, c⟩ := h
  unfold RG
  simp only [q_n_N, q_L_N, q_J_N, q_A_N, q_K_N, q_T_N, q_v_N, q_N_N, q_W_N, q_P_N, q_nx_N, q_hr_N, q_rt_N, q_tl_N, q_pd_N, q_cr_N, q_sk_N]
  refine ⟨⟨?_, ?_, ?_, ?_, ?_, ?_, ?_, ?_, ?_⟩, ?_, ?_⟩
  · exact (pk_un (by omega)).trans a0
  · exact (pk_un (by omega)).trans a1
  · exact (pk_un (by omega)).trans a2
  · exact (pk_un (by omega)).trans a3
  · exact (pk_un (by omega)).trans a4
  · exact (pk_un (by omega)).trans a5
  · exact (pk_un (by omega)).trans a6
  · exact (pk_un (by omega)).trans a7
  · exact (pk_un (by omega)).trans a8
  · intro i hi
    obtain ⟨b0, b1, b2, b3, b4⟩ := b i hi
    exact ⟨(pk_un (by omega)).trans b0, (pk_un (by omega)).trans b1, (pk_un (by omega)).trans b2, (pk_un (by omega)).trans b3, (pk_un (by omega)).trans b4⟩
  · intro j hj
    obtain ⟨c0, c1, c2⟩ := c j hj
    by_cases e : j = k
    · subst e
      refine ⟨?_, ?_, ?_⟩
      · exact (pk_us).trans (congrArg nI (uN_s _ _ _).symm)
      · exact (pk_un (by omega)).trans c1
      · exact (pk_un (by omega)).trans c2
    · refine ⟨?_, ?_, ?_⟩
      · exact ((pk_un (by omega)).trans c0).trans (congrArg nI (uN_o _ _ e).symm)
      · exact (pk_un (by omega)).trans c1
      · exact (pk_un (by omega)).trans c2
theorem RG_W {g : Nat → Int32} {S : Br} (h : RG g S) (hn : s_n S ≤ 10) {k : Nat} (x : Nat) (hk : k < s_v S) : RG (upd g (59 + 3 * k + 1) (nI x)) (st_W S (uN (s_W S) k x)) := by
  obtain ⟨⟨a0, a1, a2, a3, a4, a5, a6, a7, a8⟩, b, c⟩ := h
  unfold RG
  simp only [q_n_W, q_L_W, q_J_W, q_A_W, q_K_W, q_T_W, q_v_W, q_N_W, q_W_W, q_P_W, q_nx_W, q_hr_W, q_rt_W, q_tl_W, q_pd_W, q_cr_W, q_sk_W]
  refine ⟨⟨?_, ?_, ?_, ?_, ?_, ?_, ?_, ?_, ?_⟩, ?_, ?_⟩
  · exact (pk_un (by omega)).trans a0
  · exact (pk_un (by omega)).trans a1
  · exact (pk_un (by omega)).trans a2
  · exact (pk_un (by omega)).trans a3
  · exact (pk_un (by omega)).trans a4
  · exact (pk_un (by omega)).trans a5
  · exact (pk_un (by omega)).trans a6
  · exact (pk_un (by omega)).trans a7
  · exact (pk_un (by omega)).trans a8
  · intro i hi
    obtain ⟨b0, b1, b2, b3, b4⟩ := b i hi
    exact ⟨(pk_un (by omega)).trans b0, (pk_un (by omega)).trans b1, (pk_un (by omega)).trans b2, (pk_un (by omega)).trans b3, (pk_un (by omega)).trans b4⟩
  · intro j hj
    obtain ⟨c0, c1, c2⟩ := c j hj
    by_cases e : j = k
    · subst e
      refine ⟨?_, ?_, ?_⟩
      · exact (pk_un (by omega)).trans c0
      · exact (pk_us).trans (congrArg nI (uN_s _ _ _).symm)
      · exact (pk_un (by omega)).trans c2
    · refine ⟨?_, ?_, ?_⟩
      · exact (pk_un (by omega)).trans c0
      · exact ((pk_un (by omega)).trans c1).trans (congrArg nI (uN_o _ _ e).symm)
      · exact (pk_un (by omega)).trans c2
theorem RG_P {g : Nat → Int32} {S : Br} (h : RG g S) (hn : s_n S ≤ 10) {k : Nat} (x : Nat) (hk : k < s_v S) : RG (upd g (59 + 3 * k + 2) (nI x)) (st_P S (uN (s_P S) k x)) := by
  obtain ⟨⟨a0, a1, a2, a3, a4, a5, a6, a7, a8⟩, b, c⟩ := h
  unfold RG
  simp only [q_n_P, q_L_P, q_J_P, q_A_P, q_K_P, q_T_P, q_v_P, q_N_P, q_W_P, q_P_P, q_nx_P, q_hr_P, q_rt_P, q_tl_P, q_pd_P, q_cr_P, q_sk_P]
  refine ⟨⟨?_, ?_, ?_, ?_, ?_, ?_, ?_, ?_, ?_⟩, ?_, ?_⟩
  · exact (pk_un (by omega)).trans a0
  · exact (pk_un (by omega)).trans a1
  · exact (pk_un (by omega)).trans a2
  · exact (pk_un (by omega)).trans a3
  · exact (pk_un (by omega)).trans a4
  · exact (pk_un (by omega)).trans a5
  · exact (pk_un (by omega)).trans a6
  · exact (pk_un (by omega)).trans a7
  · exact (pk_un (by omega)).trans a8
  · intro i hi
    obtain ⟨b0, b1, b2, b3, b4⟩ := b i hi
    exact ⟨(pk_un (by omega)).trans b0, (pk_un (by omega)).trans b1, (pk_un (by omega)).trans b2, (pk_un (by omega)).trans b3, (pk_un (by omega)).trans b4⟩
  · intro j hj
    obtain ⟨c0, c1, c2⟩ := c j hj
    by_cases e : j = k
    · subst e
      refine ⟨?_, ?_, ?_⟩
      · exact (pk_un (by omega)).trans c0
      · exact (pk_un (by omega)).trans c1
      · exact (pk_us).trans (congrArg nI (uN_s _ _ _).symm)
    · refine ⟨?_, ?_, ?_⟩
      · exact (pk_un (by omega)).trans c0
      · exact (pk_un (by omega)).trans c1
      · exact ((pk_un (by omega)).trans c2).trans (congrArg nI (uN_o _ _ e).symm)
theorem RG_nx {g : Nat → Int32} {S : Br} (h : RG g S) (x : Nat) : RG (upd g 2 (nI x)) (st_nx S x) := by
  obtain ⟨⟨a0, a1, a2, a3, a4, a5, a6, a7, a8⟩, b, c⟩ := h
  unfold RG
  simp only [q_n_nx, q_L_nx, q_J_nx, q_A_nx, q_K_nx, q_T_nx, q_v_nx, q_N_nx, q_W_nx, q_P_nx, q_nx_nx, q_hr_nx, q_rt_nx, q_tl_nx, q_pd_nx, q_cr_nx, q_sk_nx]
  refine ⟨⟨?_, ?_, ?_, ?_, ?_, ?_, ?_, ?_, ?_⟩, ?_, ?_⟩
  · exact (pk_un (by omega)).trans a0
  · exact (pk_un (by omega)).trans a1
  · exact pk_us
  · exact (pk_un (by omega)).trans a3
  · exact (pk_un (by omega)).trans a4
  · exact (pk_un (by omega)).trans a5
  · exact (pk_un (by omega)).trans a6
  · exact (pk_un (by omega)).trans a7
  · exact (pk_un (by omega)).trans a8
  · intro i hi
    obtain ⟨b0, b1, b2, b3, b4⟩ := b i hi
    exact ⟨(pk_un (by omega)).trans b0, (pk_un (by omega)).trans b1, (pk_un (by omega)).trans b2, (pk_un (by omega)).trans b3, (pk_un (by omega)).trans b4⟩
  · intro j hj
    obtain ⟨c0, c1, c2⟩ := c j hj
    exact ⟨(pk_un (by omega)).trans c0, (pk_un (by omega)).trans c1, (pk_un (by omega)).trans c2⟩
theorem RG_hr {g : Nat → Int32} {S : Br} (h : RG g S) (x : Nat) : RG (upd g 3 (nI x)) (st_hr S x) := by
  obtain ⟨⟨a0, a1, a2, a3, a4, a5, a6, a7, a8⟩, b, c⟩ := h
  unfold RG
  simp only [q_n_hr, q_L_hr, q_J_hr, q_A_hr, q_K_hr, q_T_hr, q_v_hr, q_N_hr, q_W_hr, q_P_hr, q_nx_hr, q_hr_hr, q_rt_hr, q_tl_hr, q_pd_hr, q_cr_hr, q_sk_hr]
  refine ⟨⟨?_, ?_, ?_, ?_, ?_, ?_, ?_, ?_, ?_⟩, ?_, ?_⟩
  · exact (pk_un (by omega)).trans a0
  · exact (pk_un (by omega)).trans a1
  · exact (pk_un (by omega)).trans a2
  · exact pk_us
  · exact (pk_un (by omega)).trans a4
  · exact (pk_un (by omega)).trans a5
  · exact (pk_un (by omega)).trans a6
  · exact (pk_un (by omega)).trans a7
  · exact (pk_un (by omega)).trans a8
  · intro i hi
    obtain ⟨b0, b1, b2, b3, b4⟩ := b i hi
    exact ⟨(pk_un (by omega)).trans b0, (pk_un (by omega)).trans b1, (pk_un (by omega)).trans b2, (pk_un (by omega)).trans b3, (pk_un (by omega)).trans b4⟩
  · intro j hj
    obtain ⟨c0, c1, c2⟩ := c j hj
    exact ⟨(pk_un (by omega)).trans c0, (pk_un (by omega)).trans c1, (pk_un (by omega)).trans c2⟩
theorem RG_rt {g : Nat → Int32} {S : Br} (h : RG g S) (x : Nat) : RG (upd g 4 (nI x)) (st_rt S x) := by
  obtain ⟨⟨a0, a1, a2, a3, a4, a5, a6, a7, a8⟩, b, c⟩ := h
  unfold RG
  simp only [q_n_rt, q_L_rt, q_J_rt, q_A_rt, q_K_rt, q_T_rt, q_v_rt, q_N_rt, q_W_rt, q_P_rt, q_nx_rt, q_hr_rt, q_rt_rt, q_tl_rt, q_pd_rt, q_cr_rt, q_sk_rt]
  refine ⟨⟨?_, ?_, ?_, ?_, ?_, ?_, ?_, ?_, ?_⟩, ?_, ?_⟩
  · exact (pk_un (by omega)).trans a0
  · exact (pk_un (by omega)).trans a1
  · exact (pk_un (by omega)).trans a2
  · exact (pk_un (by omega)).trans a3
  · exact pk_us
  · exact (pk_un (by omega)).trans a5
  · exact (pk_un (by omega)).trans a6
  · exact (pk_un (by omega)).trans a7
  · exact (pk_un (by omega)).trans a8
  · intro i hi
    obtain ⟨b0, b1, b2, b3, b4⟩ := b i hi
    exact ⟨(pk_un (by omega)).trans b0, (pk_un (by omega)).trans b1, (pk_un (by omega)).trans b2, (pk_un (by omega)).trans b3, (pk_un (by omega)).trans b4⟩
  · intro j hj
    obtain ⟨c0, c1, c2⟩ := c j hj
    exact ⟨(pk_un (by omega)).trans c0, (pk_un (by omega)).trans c1, (pk_un (by omega)).trans c2⟩
theorem RG_tl {g : Nat → Int32} {S : Br} (h : RG g S) (x : Nat) : RG (upd g 5 (nI x)) (st_tl S x) := by
  obtain ⟨⟨a0, a1, a2, a3, a4, a5, a6, a7, a8⟩, b, c⟩ := h
  unfold RG
  simp only [q_n_tl, q_L_tl, q_J_tl, q_A_tl, q_K_tl, q_T_tl, q_v_tl, q_N_tl, q_W_tl, q_P_tl, q_nx_tl, q_hr_tl, q_rt_tl, q_tl_tl, q_pd_tl, q_cr_tl, q_sk_tl]
  refine ⟨⟨?_, ?_, ?_, ?_, ?_, ?_, ?_, ?_, ?_⟩, ?_, ?_⟩
  · exact (pk_un (by omega)).trans a0
  · exact (pk_un (by omega)).trans a1
  · exact (pk_un (by omega)).trans a2
  · exact (pk_un (by omega)).trans a3
  · exact (pk_un (by omega)).trans a4
  · exact pk_us
  · exact (pk_un (by omega)).trans a6
  · exact (pk_un (by omega)).trans a7
  · exact (pk_un (by omega)).trans a8
  · intro i hi
    obtain ⟨b0, b1, b2, b3, b4⟩ := b i hi
    exact ⟨(pk_un (by omega)).trans b0, (pk_un (by omega)).trans b1, (pk_un (by omega)).trans b2, (pk_un (by omega)).trans b3, (pk_un (by omega)).trans b4⟩
  · intro j hj
    obtain ⟨c0, c1, c2⟩ := c j hj
    exact ⟨(pk_un (by omega)).trans c0, (pk_un (by omega)).trans c1, (pk_un (by omega)).trans c2⟩
theorem RG_pd {g : Nat → Int32} {S : Br} (h : RG g S) (x : Nat) : RG (upd g 6 (nI x)) (st_pd S x) := by
  obtain ⟨⟨a0, a1, a2, a3, a4, a5, a6, a7, a8⟩, b, c⟩ := h
  unfold RG
  simp only [q_n_pd, q_L_pd, q_J_pd, q_A_pd, q_K_pd, q_T_pd, q_v_pd, q_N_pd, q_W_pd, q_P_pd, q_nx_pd, q_hr_pd, q_rt_pd, q_tl_pd, q_pd_pd, q_cr_pd, q_sk_pd]
  refine ⟨⟨?_, ?_, ?_, ?_, ?_, ?_, ?_, ?_, ?_⟩, ?_, ?_⟩
  · exact (pk_un (by omega)).trans a0
  · exact (pk_un (by omega)).trans a1
  · exact (pk_un (by omega)).trans a2
  · exact (pk_un (by omega)).trans a3
  · exact (pk_un (by omega)).trans a4
  · exact (pk_un (by omega)).trans a5
  · exact pk_us
  · exact (pk_un (by omega)).trans a7
  · exact (pk_un (by omega)).trans a8
  · intro i hi
    obtain ⟨b0, b1, b2, b3, b4⟩ := b i hi
    exact ⟨(pk_un (by omega)).trans b0, (pk_un (by omega)).trans b1, (pk_un (by omega)).trans b2, (pk_un (by omega)).trans b3, (pk_un (by omega)).trans b4⟩
  · intro j hj
    obtain ⟨c0, c1, c2⟩ := c j hj
    exact ⟨(pk_un (by omega)).trans c0, (pk_un (by omega)).trans c1, (pk_un (by omega)).trans c2⟩
theorem RG_cr {g : Nat → Int32} {S : Br} (h : RG g S) (x : Nat) : RG (upd g 7 (nI x)) (st_cr S x) := by
  obtain ⟨⟨a0, a1, a2, a3, a4, a5, a6, a7, a8⟩, b, c⟩ := h
  unfold RG
  simp only [q_n_cr, q_L_cr, q_J_cr, q_A_cr, q_K_cr, q_T_cr, q_v_cr, q_N_cr, q_W_cr, q_P_cr, q_nx_cr, q_hr_cr, q_rt_cr, q_tl_cr, q_pd_cr, q_cr_cr, q_sk_cr]
  refine ⟨⟨?_, ?_, ?_, ?_, ?_, ?_, ?_, ?_, ?_⟩, ?_, ?_⟩
  · exact (pk_un (by omega)).trans a0
  · exact (pk_un (by omega)).trans a1
  · exact (pk_un (by omega)).trans a2
  · exact (pk_un (by omega)).trans a3
  · exact (pk_un (by omega)).trans a4
  · exact (pk_un (by omega)).trans a5
  · exact (pk_un (by omega)).trans a6
  · exact pk_us
  · exact (pk_un (by omega)).trans a8
  · intro i hi
    obtain ⟨b0, b1, b2, b3, b4⟩ := b i hi
    exact ⟨(pk_un (by omega)).trans b0, (pk_un (by omega)).trans b1, (pk_un (by omega)).trans b2, (pk_un (by omega)).trans b3, (pk_un (by omega)).trans b4⟩
  · intro j hj
    obtain ⟨c0, c1, c2⟩ := c j hj
    exact ⟨(pk_un (by omega)).trans c0, (pk_un (by omega)).trans c1, (pk_un (by omega)).trans c2⟩
theorem RG_sk {g : Nat → Int32} {S : Br} (h : RG g S) (x : Nat) : RG (upd g 8 (nI x)) (st_sk S x) := by
  obtain ⟨⟨a0, a1, a2, a3, a4, a5, a6, a7, a8⟩, b, c⟩ := h
  unfold RG
  simp only [q_n_sk, q_L_sk, q_J_sk, q_A_sk, q_K_sk, q_T_sk, q_v_sk, q_N_sk, q_W_sk, q_P_sk, q_nx_sk, q_hr_sk, q_rt_sk, q_tl_sk, q_pd_sk, q_cr_sk, q_sk_sk]
  refine ⟨⟨?_, ?_, ?_, ?_, ?_, ?_, ?_, ?_, ?_⟩, ?_, ?_⟩
  · exact (pk_un (by omega)).trans a0
  · exact (pk_un (by omega)).trans a1
  · exact (pk_un (by omega)).trans a2
  · exact (pk_un (by omega)).trans a3
  · exact (pk_un (by omega)).trans a4
  · exact (pk_un (by omega)).trans a5
  · exact (pk_un (by omega)).trans a6
  · exact (pk_un (by omega)).trans a7
  · exact pk_us
  · intro i hi
    obtain ⟨b0, b1, b2, b3, b4⟩ := b i hi
    exact ⟨(pk_un (by omega)).trans b0, (pk_un (by omega)).trans b1, (pk_un (by omega)).trans b2, (pk_un (by omega)).trans b3, (pk_un (by omega)).trans b4⟩
  · intro j hj
    obtain ⟨c0, c1, c2⟩ := c j hj
    exact ⟨(pk_un (by omega)).trans c0, (pk_un (by omega)).trans c1, (pk_un (by omega)).trans c2⟩
theorem of_L {mo : Mv} {S : Br} (h : RG (M_g mo) S) (hn : s_n S ≤ 10) {k : Nat} (hk : k < s_n S) : F_X5_of mo (nI k) 0 = some (nI (s_L S k)) := by
  unfold F_X5_of
  simp (disch := omega) only [Option.bind_some, ck_tt, inb_nI, nz_nI, fI_a, fI_u, nI_clamp, nI_add, pk_mul, pk_sub, pk_div, nI_ltI, nI_leI, nI_eq, imin_nI, imax_nI, bi_t, bi_f, if_pos, if_neg, l_0, l_1, l_2, l_3, l_4, l_5, l_6, l_7, l_8, l_9, l_10, l_20, l_24, l_47, l_48, l_50, l_57, l_58, l_59, l_60, l_61, l_83, l_93, l_99, l_200, l_581, l_664]
  exact congrArg some (h.2.1 k hk).1
theorem lays_L (mo : Mv) {k : Nat} (hk : k < 10) (y : Int32) : F_X5_lays mo (nI k) 0 y = some (m_g mo (upd (M_g mo) (9 + 5 * k + 0) y)) := by
  unfold F_X5_lays
  simp (disch := omega) only [Option.bind_some, ck_tt, inb_nI, nz_nI, fI_a, fI_u, nI_clamp, nI_add, pk_mul, pk_sub, pk_div, nI_ltI, nI_leI, nI_eq, imin_nI, imax_nI, bi_t, bi_f, if_pos, if_neg, l_0, l_1, l_2, l_3, l_4, l_5, l_6, l_7, l_8, l_9, l_10, l_20, l_24, l_47, l_48, l_50, l_57, l_58, l_59, l_60, l_61, l_83, l_93, l_99, l_200, l_581, l_664]
  rfl
theorem of_J {mo : Mv} {S : Br} (h : RG (M_g mo) S) (hn : s_n S ≤ 10) {k : Nat} (hk : k < s_n S) : F_X5_of mo (nI k) 1 = some (nI (s_J S k)) := by
  unfold F_X5_of
  simp (disch := omega) only [Option.bind_some, ck_tt, inb_nI, nz_nI, fI_a, fI_u, nI_clamp, nI_add, pk_mul, pk_sub, pk_div, nI_ltI, nI_leI, nI_eq, imin_nI, imax_nI, bi_t, bi_f, if_pos, if_neg, l_0, l_1, l_2, l_3, l_4, l_5, l_6, l_7, l_8, l_9, l_10, l_20, l_24, l_47, l_48, l_50, l_57, l_58, l_59, l_60, l_61, l_83, l_93, l_99, l_200, l_581, l_664]
  exact congrArg some (h.2.1 k hk).2.1
theorem lays_J (mo : Mv) {k : Nat} (hk : k < 10) (y : Int32) : F_X5_lays mo (nI k) 1 y = some (m_g mo (upd (M_g mo) (9 + 5 * k + 1) y)) := by
  unfold F_X5_lays
  simp (disch := omega) only [Option.bind_some, ck_tt, inb_nI, nz_nI, fI_a, fI_u, nI_clamp, nI_add, pk_mul, pk_sub, pk_div, nI_ltI, nI_leI, nI_eq, imin_nI, imax_nI, bi_t, bi_f, if_pos, if_neg, l_0, l_1, l_2, l_3, l_4, l_5, l_6, l_7, l_8, l_9, l_10, l_20, l_24, l_47, l_48, l_50, l_57, l_58, l_59, l_60, l_61, l_83, l_93, l_99, l_200, l_581, l_664]
  rfl
theorem of_A {mo : Mv} {S : Br} (h : RG (M_g mo) S) (hn : s_n S ≤ 10) {k : Nat} (hk : k < s_n S) : F_X5_of mo (nI k) 2 = some (nI (s_A S k)) := by
  unfold F_X5_of
  simp (disch := omega) only [Option.bind_some, ck_tt, inb_nI, nz_nI, fI_a, fI_u, nI_clamp, nI_add, pk_mul, pk_sub, pk_div, nI_ltI, nI_leI, nI_eq, imin_nI, imax_nI, bi_t, bi_f, if_pos, if_neg, l_0, l_1, l_2, l_3, l_4, l_5, l_6, l_7, l_8, l_9, l_10, l_20, l_24, l_47, l_48, l_50, l_57, l_58, l_59, l_60, l_61, l_83, l_93, l_99, l_200, l_581, l_664]
  exact congrArg some (h.2.1 k hk).2.2.1
theorem lays_A (mo : Mv) {k : Nat} (hk : k < 10) (y : Int32) : F_X5_lays mo (nI k) 2 y = some (m_g mo (upd (M_g mo) (9 + 5 * k + 2) y)) := by
  unfold F_X5_lays
  simp (disch := omega) only [Option.bind_some, ck_tt, inb_nI, nz_nI, fI_a, fI_u, nI_clamp, nI_add, pk_mul, pk_sub, pk_div, nI_ltI, nI_leI, nI_eq, imin_nI, imax_nI, bi_t, bi_f, if_pos, if_neg, l_0, l_1, l_2, l_3, l_4, l_5, l_6, l_7, l_8, l_9, l_10, l_20, l_24, l_47, l_48, l_50, l_57, l_58, l_59, l_60, l_61, l_83, l_93, l_99, l_200, l_581, l_664]
  rfl
theorem of_K {mo : Mv} {S : Br} (h : RG (M_g mo) S) (hn : s_n S ≤ 10) {k : Nat} (hk : k < s_n S) : F_X5_of mo (nI k) 3 = some (nI (s_K S k)) := by
  unfold F_X5_of
  simp (disch := omega) only [Option.bind_some, ck_tt, inb_nI, nz_nI, fI_a, fI_u, nI_clamp, nI_add, pk_mul, pk_sub, pk_div, nI_ltI, nI_leI, nI_eq, imin_nI, imax_nI, bi_t, bi_f, if_pos, if_neg, l_0, l_1, l_2, l_3, l_4, l_5, l_6, l_7, l_8, l_9, l_10, l_20, l_24, l_47, l_48, l_50, l_57, l_58, l_59, l_60, l_61, l_83, l_93, l_99, l_200, l_581, l_664]
  exact congrArg some (h.2.1 k hk).2.2.2.1
theorem lays_K (mo : Mv) {k : Nat} (hk : k < 10) (y : Int32) : F_X5_lays mo (nI k) 3 y = some (m_g mo (upd (M_g mo) (9 + 5 * k + 3) y)) := by
  unfold F_X5_lays
  simp (disch := omega) only [Option.bind_some, ck_tt, inb_nI, nz_nI, fI_a, fI_u, nI_clamp, nI_add, pk_mul, pk_sub, pk_div, nI_ltI, nI_leI, nI_eq, imin_nI, imax_nI, bi_t, bi_f, if_pos, if_neg, l_0, l_1, l_2, l_3, l_4, l_5, l_6, l_7, l_8, l_9, l_10, l_20, l_24, l_47, l_48, l_50, l_57, l_58, l_59, l_60, l_61, l_83, l_93, l_99, l_200, l_581, l_664]
  rfl
theorem of_T {mo : Mv} {S : Br} (h : RG (M_g mo) S) (hn : s_n S ≤ 10) {k : Nat} (hk : k < s_n S) : F_X5_of mo (nI k) 4 = some (nI (s_T S k)) := by
  unfold F_X5_of
  simp (disch := omega) only [Option.bind_some, ck_tt, inb_nI, nz_nI, fI_a, fI_u, nI_clamp, nI_add, pk_mul, pk_sub, pk_div, nI_ltI, nI_leI, nI_eq, imin_nI, imax_nI, bi_t, bi_f, if_pos, if_neg, l_0, l_1, l_2, l_3, l_4, l_5, l_6, l_7, l_8, l_9, l_10, l_20, l_24, l_47, l_48, l_50, l_57, l_58, l_59, l_60, l_61, l_83, l_93, l_99, l_200, l_581, l_664]
  exact congrArg some (h.2.1 k hk).2.2.2.2
theorem lays_T (mo : Mv) {k : Nat} (hk : k < 10) (y : Int32) : F_X5_lays mo (nI k) 4 y = some (m_g mo (upd (M_g mo) (9 + 5 * k + 4) y)) := by
  unfold F_X5_lays
  simp (disch := omega) only [Option.bind_some, ck_tt, inb_nI, nz_nI, fI_a, fI_u, nI_clamp, nI_add, pk_mul, pk_sub, pk_div, nI_ltI, nI_leI, nI_eq, imin_nI, imax_nI, bi_t, bi_f, if_pos, if_neg, l_0, l_1, l_2, l_3, l_4, l_5, l_6, l_7, l_8, l_9, l_10, l_20, l_24, l_47, l_48, l_50, l_57, l_58, l_59, l_60, l_61, l_83, l_93, l_99, l_200, l_581, l_664]
  rfl
theorem on_N {mo : Mv} {S : Br} (h : RG (M_g mo) S) (hv : s_v S ≤ 8) {k : Nat} (hk : k < s_v S) : F_X5_on mo (nI k) 0 = some (nI (s_N S k)) := by
  unfold F_X5_on
  simp (disch := omega) only [Option.bind_some, ck_tt, inb_nI, nz_nI, fI_a, fI_u, nI_clamp, nI_add, pk_mul, pk_sub, pk_div, nI_ltI, nI_leI, nI_eq, imin_nI, imax_nI, bi_t, bi_f, if_pos, if_neg, l_0, l_1, l_2, l_3, l_4, l_5, l_6, l_7, l_8, l_9, l_10, l_20, l_24, l_47, l_48, l_50, l_57, l_58, l_59, l_60, l_61, l_83, l_93, l_99, l_200, l_581, l_664]
  exact congrArg some (h.2.2 k hk).1
theorem on_W {mo : Mv} {S : Br} (h : RG (M_g mo) S) (hv : s_v S ≤ 8) {k : Nat} (hk : k < s_v S) : F_X5_on mo (nI k) 1 = some (nI (s_W S k)) := by
  unfold F_X5_on
  simp (disch := omega) only [Option.bind_some, ck_tt, inb_nI, nz_nI, fI_a, fI_u, nI_clamp, nI_add, pk_mul, pk_sub, pk_div, nI_ltI, nI_leI, nI_eq, imin_nI, imax_nI, bi_t, bi_f, if_pos, if_neg, l_0, l_1, l_2, l_3, l_4, l_5, l_6, l_7, l_8, l_9, l_10, l_20, l_24, l_47, l_48, l_50, l_57, l_58, l_59, l_60, l_61, l_83, l_93, l_99, l_200, l_581, l_664]
  exact congrArg some (h.2.2 k hk).2.1
theorem on_P {mo : Mv} {S : Br} (h : RG (M_g mo) S) (hv : s_v S ≤ 8) {k : Nat} (hk : k < s_v S) : F_X5_on mo (nI k) 2 = some (nI (s_P S k)) := by
  unfold F_X5_on
  simp (disch := omega) only [Option.bind_some, ck_tt, inb_nI, nz_nI, fI_a, fI_u, nI_clamp, nI_add, pk_mul, pk_sub, pk_div, nI_ltI, nI_leI, nI_eq, imin_nI, imax_nI, bi_t, bi_f, if_pos, if_neg, l_0, l_1, l_2, l_3, l_4, l_5, l_6, l_7, l_8, l_9, l_10, l_20, l_24, l_47, l_48, l_50, l_57, l_58, l_59, l_60, l_61, l_83, l_93, l_99, l_200, l_581, l_664]
  exact congrArg some (h.2.2 k hk).2.2
theorem ub_0 : inb 0 83 = true := by decide
theorem ub_1 : inb 1 83 = true := by decide
theorem ub_2 : inb 2 83 = true := by decide
theorem ub_3 : inb 3 83 = true := by decide
theorem ub_4 : inb 4 83 = true := by decide
theorem ub_5 : inb 5 83 = true := by decide
theorem ub_6 : inb 6 83 = true := by decide
theorem ub_7 : inb 7 83 = true := by decide
theorem ub_8 : inb 8 83 = true := by decide
theorem zc_0 : (0 : Int32).toNatClampNeg = 0 := by decide
theorem zc_1 : (1 : Int32).toNatClampNeg = 1 := by decide
theorem zc_2 : (2 : Int32).toNatClampNeg = 2 := by decide
theorem zc_3 : (3 : Int32).toNatClampNeg = 3 := by decide
theorem zc_4 : (4 : Int32).toNatClampNeg = 4 := by decide
theorem zc_5 : (5 : Int32).toNatClampNeg = 5 := by decide
theorem zc_6 : (6 : Int32).toNatClampNeg = 6 := by decide
theorem zc_7 : (7 : Int32).toNatClampNeg = 7 := by decide
theorem zc_8 : (8 : Int32).toNatClampNeg = 8 := by decide
/-! the reference: what reads -/
theorem m_least {a b : Nat} (ha : a < 2 ^ 31) (hb : b < 2 ^ 31) : F_X5_least (nI a) (nI b) = some (nI (min a b)) := by
  unfold F_X5_least
  by_cases h : b ≤ a
  · rw [if_pos ((nI_leI hb ha).mpr h), Nat.min_eq_right h]
  · rw [if_neg (fun z => h ((nI_leI hb ha).mp z)), Nat.min_eq_left (by omega)]
theorem m_bears {H : Nat} {S : Br} {mo : Mv} (hI : Iv H S) (h : RG (M_g mo) S) {k a : Nat} (hk : k < s_n S) (ha : a < 2 ^ 31) : F_X5_bears mo (nI k) (nI a) = some (nI (stN (s_J S k) a (s_L S k) (s_K S k))) := by
  obtain ⟨h1, h2, h3, h4, h5, h6⟩ := hI.2.1 k hk
  have hn := hI.1.1
  obtain ⟨g1, g2, g3, g4⟩ := stN_le (A := a) (L := s_L S k) (K := s_K S k) h3
  unfold F_X5_bears
  rw [of_J h hn hk, Option.bind_some, l_24, m_least ha (by omega), Option.bind_some, of_L h hn hk, Option.bind_some, of_K h hn hk]
  simp (disch := omega) only [Option.bind_some, ck_tt, inb_nI, nz_nI, fI_a, fI_u, nI_clamp, nI_add, pk_mul, pk_sub, pk_div, nI_ltI, nI_leI, nI_eq, imin_nI, imax_nI, bi_t, bi_f, if_pos, if_neg, l_0, l_1, l_2, l_3, l_4, l_5, l_6, l_7, l_8, l_9, l_10, l_20, l_24, l_47, l_48, l_50, l_57, l_58, l_59, l_60, l_61, l_83, l_93, l_99, l_200, l_581, l_664]
  rfl
theorem m_strong {H : Nat} {S : Br} {mo : Mv} (hI : Iv H S) (h : RG (M_g mo) S) {k : Nat} (hk : k < s_n S) : F_X5_strong mo (nI k) = some (nI (str S k)) := by
  have h4 := (hI.2.1 k hk).2.2.2.1
  have hH := hI.1.2.2.2.1
  have hH2 := hI.1.2.2.2.2.2.2.2.2
  unfold F_X5_strong
  rw [of_A h hI.1.1 hk, Option.bind_some, m_bears hI h hk (by omega), Option.bind_some]; rfl
theorem m_loaded_L {H : Nat} {S : Br} {mo : Mv} (hI : Iv H S) (h : RG (M_g mo) S) {k : Nat} (hk : k < 2 ^ 31) (K : Int32 → Int32 → Option Int32) : ∀ (r fu i : Nat), i + r = s_v S → r < fu → F_X5_loaded_L4 mo (nI k) K fu (nI (ldU (s_W S) (s_P S) k i)) (nI i) = K (nI (ld S k)) (nI (s_v S)) := by
  have hv := hI.1.2.1
  have e1 := h.1.2.1
  intro r
  induction r with
  | zero =>
    intro fu i hi hr
    obtain ⟨fu, rfl⟩ : ∃ f2, fu = f2 + 1 := ⟨fu - 1, by omega⟩
    have : i = s_v S := by omega
    subst this
    unfold F_X5_loaded_L4
    rw [ub_1, ck_tt, zc_1, e1, if_pos (nI_le (Nat.le_refl _) (by omega))]
    rfl
  | succ r ih =>
    intro fu i hi hr
    obtain ⟨fu, rfl⟩ : ∃ f2, fu = f2 + 1 := ⟨fu - 1, by omega⟩
    have hp := (hI.2.2.1 i (by omega)).2.2.1
    have hn := hI.1.1
    have h9 := ih fu (i + 1) (by omega) (by omega)
    unfold F_X5_loaded_L4
    rw [ub_1, ck_tt, zc_1, e1, if_neg (nI_ge (by omega) (by omega)), on_P h hv (by omega), Option.bind_some]
    by_cases c : s_P S i = k
    · have e : ldU (s_W S) (s_P S) k (i + 1) = ldU (s_W S) (s_P S) k i + s_W S i := by rw [ldU, if_pos c]
      rw [e] at h9
      rw [if_neg (fun z => z (congrArg nI c)), on_W h hv (by omega), Option.bind_some, nI_add, l_1, nI_add]
      exact h9
    · have e : ldU (s_W S) (s_P S) k (i + 1) = ldU (s_W S) (s_P S) k i := by rw [ldU, if_neg c]
      rw [e] at h9
      rw [if_pos (fun z => c ((nI_eq (by omega) (by omega)).mp z)), l_0, nI_add, l_1, nI_add]
      exact h9
theorem m_loaded {H : Nat} {S : Br} {mo : Mv} (hI : Iv H S) (h : RG (M_g mo) S) {k : Nat} (hk : k < 2 ^ 31) : F_X5_loaded mo (nI k) = some (nI (ld S k)) :=
  m_loaded_L hI h hk _ (s_v S) 1000 0 (by omega) (by have := hI.1.2.1; omega)
theorem m_strains {H : Nat} {S : Br} {mo : Mv} (hI : Iv H S) (h : RG (M_g mo) S) {k : Nat} (hk : k < s_n S) : F_X5_strains mo (nI k) = some (stn S k) := by
  have h1 := hI.ldb k
  have h2 := hI.strb hk
  have hn := hI.1.1
  unfold F_X5_strains
  rw [m_loaded hI h (by omega), Option.bind_some, m_strong hI h hk, Option.bind_some, l_5, l_4, pk_mul, pk_mul]
  unfold stn
  by_cases c : 4 * str S k < 5 * ld S k
  · rw [if_neg (nI_ge c (by omega)), decide_eq_true c]
  · rw [if_pos (nI_le (by omega) (by omega)), decide_eq_false c]
theorem m_isSpan_t {S : Br} {mo : Mv} (h : RG (M_g mo) S) (hn : s_n S ≤ 10) {k : Nat} (hk : k < s_n S) : F_X5_isSpan mo (nI k) = some true := by
  unfold F_X5_isSpan F_X5_in
  rw [ub_0, ck_tt, zc_0, h.1.1, l_0, if_neg (nI_nlt (Nat.zero_le _) (by omega)), l_1, pk_sub (by omega), if_neg (nI_nlt (by omega) (by omega))]
  rfl
theorem m_isSpan_f {S : Br} {mo : Mv} (h : RG (M_g mo) S) (hn : s_n S ≤ 10) {q : Int32} (hq : q < 0 ∨ nI (s_n S) ≤ q) : F_X5_isSpan mo q = some false := by
  unfold F_X5_isSpan F_X5_in
  rw [ub_0, ck_tt, zc_0, h.1.1]
  by_cases c : q < 0
  · rw [if_pos c]; rfl
  · have h1 := hq.resolve_left c
    rw [if_neg c, if_pos]
    · rfl
    · rw [Int32.le_iff_toInt_le, nI_toInt (by omega)] at h1
      rw [Int32.lt_iff_toInt_lt, l_1, pk_sub_toInt (by omega) (by omega)]
      omega
/-! the reference: a vehicle goes -/
def shG (g : Nat → Int32) (a i : Nat) : Nat → Int32 := fun t => if a ≤ t ∧ t < i then g (t + 3) else g t
theorem shG_0 (g : Nat → Int32) (a : Nat) : shG g a a = g := by
  funext j; unfold shG; rw [if_neg (by omega)]
theorem shG_s (g : Nat → Int32) {a i : Nat} (h : a ≤ i) : upd (shG g a i) i (shG g a i (i + 3)) = shG g a (i + 1) := by
  funext j; unfold upd shG
  by_cases h1 : j = i
  · subst h1; rw [if_pos rfl, if_neg (by omega), if_pos (by omega)]
  · rw [if_neg h1]
    by_cases h2 : a ≤ j ∧ j < i
    · rw [if_pos h2, if_pos (by omega)]
    · rw [if_neg h2, if_neg (by omega)]
theorem shG_o (g : Nat → Int32) {a i t : Nat} (h : t < a) : shG g a i t = g t := by
  unfold shG; rw [if_neg (by omega)]
theorem m_drops_L17 {mo : Mv} {a w : Nat} (hw : w ≤ 7) (ha : 2 ≤ a) (hg : M_g mo 1 = nI w) (K : Mv → Int32 → Option Mv) : ∀ (r fu i : Nat), i + r = 59 + 3 * w → a ≤ i → r < fu → F_X5_drops_L17 K fu (m_g mo (shG (M_g mo) a i)) (nI i) = K (m_g mo (shG (M_g mo) a (59 + 3 * w))) (nI (59 + 3 * w)) := by
  intro r
  induction r with
  | zero =>
    intro fu i hi hai hr
    obtain ⟨fu, rfl⟩ : ∃ f2, fu = f2 + 1 := ⟨fu - 1, by omega⟩
    have : i = 59 + 3 * w := by omega
    subst this
    unfold F_X5_drops_L17
    rw [r_g_g, ub_1, ck_tt, zc_1, shG_o _ (by omega), hg, l_59, l_3, pk_mul, nI_add, if_pos (nI_le (Nat.le_refl _) (by omega))]
  | succ r ih =>
    intro fu i hi hai hr
    obtain ⟨fu, rfl⟩ : ∃ f2, fu = f2 + 1 := ⟨fu - 1, by omega⟩
    have h9 := ih fu (i + 1) (by omega) (by omega) (by omega)
    unfold F_X5_drops_L17
    rw [r_g_g, ub_1, ck_tt, zc_1, shG_o _ (by omega), hg, l_59, l_3, pk_mul, nI_add, if_neg (nI_ge (by omega) (by omega)), nI_add, inb_nI (by omega) (by omega), ck_tt, inb_nI (by omega) (by omega), ck_tt, nI_clamp (by omega), nI_clamp (by omega), shG_s _ hai, e_g, l_1, nI_add]
    exact h9
def zzG (g : Nat → Int32) (w : Nat) : Nat → Int32 := upd (upd (upd g (59 + 3 * w + 0) 0) (59 + 3 * w + 1) 0) (59 + 3 * w + 2) 0
theorem L54_s {mo : Mv} {w : Nat} (hw : w ≤ 7) (hg : M_g mo 1 = nI w) (K : Mv → Int32 → Option Mv) (fu i : Nat) (hi : i < 3) : F_X5_drops_L54 K (fu + 1) mo (nI i) = F_X5_drops_L54 K fu (m_g mo (upd (M_g mo) (59 + 3 * w + i) 0)) (nI (i + 1)) := by
  conv => lhs; unfold F_X5_drops_L54
  rw [if_neg (show ¬ (3 : Int32) ≤ nI i from (show ¬ nI 3 ≤ nI i from nI_ge hi (by omega))), ub_1, ck_tt, zc_1, hg, l_59, l_3, pk_mul, nI_add, nI_add, inb_nI (by omega) (by omega), ck_tt, nI_clamp (by omega), mkM_g, show nI i + 1 = nI (i + 1) from nI_add i 1]
theorem L54_e (mo : Mv) (K : Mv → Int32 → Option Mv) (fu : Nat) : F_X5_drops_L54 K (fu + 1) mo (nI 3) = K mo (nI 3) := by
  unfold F_X5_drops_L54
  rw [if_pos (by decide)]
theorem m_drops_L54 {mo : Mv} {w : Nat} (hw : w ≤ 7) (hg : M_g mo 1 = nI w) (K : Mv → Int32 → Option Mv) (fu : Nat) : F_X5_drops_L54 K (fu + 4) mo 0 = K (m_g mo (zzG (M_g mo) w)) 3 := by
  refine (L54_s hw hg K (fu + 3) 0 (by omega)).trans ?_
  refine (L54_s (w := w) hw (by rw [r_g_g, pk_un (by omega)]; exact hg) K (fu + 2) 1 (by omega)).trans ?_
  rw [r_g_g, mm_g]
  refine (L54_s (w := w) hw (by rw [r_g_g, pk_un (by omega), pk_un (by omega)]; exact hg) K (fu + 1) 2 (by omega)).trans ?_
  rw [r_g_g, mm_g]
  exact L54_e _ K fu
def drG (g : Nat → Int32) (q w : Nat) : Nat → Int32 := zzG (shG (upd g 1 (nI w)) (59 + 3 * q) (59 + 3 * w)) w
theorem m_drops {mo : Mv} {q v : Nat} (hv : v ≤ 8) (hq : q < v) (hg : M_g mo 1 = nI v) : F_X5_drops mo (nI q) = some (m_g mo (drG (M_g mo) q (v - 1))) := by
  have h9 := m_drops_L17 (mo := m_g mo (upd (M_g mo) 1 (nI (v - 1)))) (a := 59 + 3 * q) (w := v - 1) (by omega) (by omega) (by rw [r_g_g]; exact pk_us) (fun b1 x2 => F_X5_drops_L54 (fun b3 x4 => some b3) 1000 b1 0) (3 * (v - 1 - q)) 1000 (59 + 3 * q) (by omega) (Nat.le_refl _) (by omega)
  rw [shG_0, mm_g, mm_g, r_g_g] at h9
  unfold F_X5_drops
  rw [ub_1, ck_tt, ck_tt, zc_1, hg, l_1, pk_sub (by omega), mkM_g, l_59, l_3, pk_mul, nI_add]
  refine h9.trans ?_
  have h8 := m_drops_L54 (mo := m_g mo (shG (upd (M_g mo) 1 (nI (v - 1))) (59 + 3 * q) (59 + 3 * (v - 1)))) (w := v - 1) (by omega) (by rw [r_g_g, shG_o _ (by omega)]; exact pk_us) (fun b3 x4 => some b3) 996
  rw [r_g_g, mm_g] at h8
  exact h8
theorem zzG_o (g : Nat → Int32) {w t : Nat} (h : t < 59 + 3 * w) : zzG g w t = g t := by
  unfold zzG
  rw [pk_un (by omega), pk_un (by omega), pk_un (by omega)]
theorem RG_drop {g : Nat → Int32} {S : Br} {q : Nat} (h : RG g S) (hn : s_n S ≤ 10) (hq : q < s_v S) : RG (drG g q (s_v S - 1)) (rmv S q) := by
  obtain ⟨⟨a0, a1, a2, a3, a4, a5, a6, a7, a8⟩, b, c⟩ := h
  have lo : ∀ t, t < 59 → t ≠ 1 → drG g q (s_v S - 1) t = g t := by
    intro t h1 h2
    unfold drG
    rw [zzG_o _ (by omega), shG_o _ (by omega), pk_un h2]
  have l1 : drG g q (s_v S - 1) 1 = nI (s_v S - 1) := by
    unfold drG
    rw [zzG_o _ (by omega), shG_o _ (by omega), pk_us]
  have hi : ∀ j i, j < s_v S - 1 → i < 3 → drG g q (s_v S - 1) (59 + 3 * j + i) = if q ≤ j then g (59 + 3 * (j + 1) + i) else g (59 + 3 * j + i) := by
    intro j i h1 h2
    unfold drG
    rw [zzG_o _ (by omega)]
    unfold shG
    by_cases c1 : q ≤ j
    · rw [if_pos (by omega), if_pos c1, pk_un (by omega)]
      exact congrArg g (by omega)
    · rw [if_neg (by omega), if_neg c1, pk_un (by omega)]
  have sh : ∀ (f : Nat → Nat) (j : Nat), j < s_v S - 1 → shU f q (s_v S - 1) j = if q ≤ j then f (j + 1) else f j := by
    intro f j hj
    unfold shU
    by_cases h1 : q ≤ j
    · rw [if_pos ⟨h1, hj⟩, if_pos h1]
    · rw [if_neg (by omega), if_neg h1]
  unfold RG
  simp only [p_rmv_n, p_rmv_L, p_rmv_J, p_rmv_A, p_rmv_K, p_rmv_T, p_rmv_v, p_rmv_N, p_rmv_W, p_rmv_P, p_rmv_nx, p_rmv_hr, p_rmv_rt, p_rmv_tl, p_rmv_pd, p_rmv_cr, p_rmv_sk]
  refine ⟨⟨(lo 0 (by omega) (by omega)).trans a0, l1, (lo 2 (by omega) (by omega)).trans a2, (lo 3 (by omega) (by omega)).trans a3, (lo 4 (by omega) (by omega)).trans a4, (lo 5 (by omega) (by omega)).trans a5, (lo 6 (by omega) (by omega)).trans a6, (lo 7 (by omega) (by omega)).trans a7, (lo 8 (by omega) (by omega)).trans a8⟩, ?_, ?_⟩
  · intro i hi
    obtain ⟨b0, b1, b2, b3, b4⟩ := b i hi
    exact ⟨(lo _ (by omega) (by omega)).trans b0, (lo _ (by omega) (by omega)).trans b1, (lo _ (by omega) (by omega)).trans b2, (lo _ (by omega) (by omega)).trans b3, (lo _ (by omega) (by omega)).trans b4⟩
  · intro j hj
    rw [hi j 0 hj (by omega), hi j 1 hj (by omega), hi j 2 hj (by omega), sh _ _ hj, sh _ _ hj, sh _ _ hj]
    by_cases c1 : q ≤ j
    · rw [if_pos c1, if_pos c1, if_pos c1, if_pos c1, if_pos c1, if_pos c1]
      exact c (j + 1) (by omega)
    · rw [if_neg c1, if_neg c1, if_neg c1, if_neg c1, if_neg c1, if_neg c1]
      exact c j (by omega)
