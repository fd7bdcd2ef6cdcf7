/-! the bridge in Nat: one picture of the class's bundle and of the reference's row -/
abbrev Br : Type := Nat × (Nat → Nat) × (Nat → Nat) × (Nat → Nat) × (Nat → Nat) × (Nat → Nat) × Nat × (Nat → Nat) × (Nat → Nat) × (Nat → Nat) × Nat × Nat × Nat × Nat × Nat × Nat × Nat
def s_n (x : Br) : Nat := x.1
def s_L (x : Br) : Nat → Nat := x.2.1
def s_J (x : Br) : Nat → Nat := x.2.2.1
def s_A (x : Br) : Nat → Nat := x.2.2.2.1
def s_K (x : Br) : Nat → Nat := x.2.2.2.2.1
def s_T (x : Br) : Nat → Nat := x.2.2.2.2.2.1
def s_v (x : Br) : Nat := x.2.2.2.2.2.2.1
def s_N (x : Br) : Nat → Nat := x.2.2.2.2.2.2.2.1
def s_W (x : Br) : Nat → Nat := x.2.2.2.2.2.2.2.2.1
def s_P (x : Br) : Nat → Nat := x.2.2.2.2.2.2.2.2.2.1
def s_nx (x : Br) : Nat := x.2.2.2.2.2.2.2.2.2.2.1
def s_hr (x : Br) : Nat := x.2.2.2.2.2.2.2.2.2.2.2.1
def s_rt (x : Br) : Nat := x.2.2.2.2.2.2.2.2.2.2.2.2.1
def s_tl (x : Br) : Nat := x.2.2.2.2.2.2.2.2.2.2.2.2.2.1
def s_pd (x : Br) : Nat := x.2.2.2.2.2.2.2.2.2.2.2.2.2.2.1
def s_cr (x : Br) : Nat := x.2.2.2.2.2.2.2.2.2.2.2.2.2.2.2.1
def s_sk (x : Br) : Nat := x.2.2.2.2.2.2.2.2.2.2.2.2.2.2.2.2
def mkS (x0 : Nat) (x1 : (Nat → Nat)) (x2 : (Nat → Nat)) (x3 : (Nat → Nat)) (x4 : (Nat → Nat)) (x5 : (Nat → Nat)) (x6 : Nat) (x7 : (Nat → Nat)) (x8 : (Nat → Nat)) (x9 : (Nat → Nat)) (x10 : Nat) (x11 : Nat) (x12 : Nat) (x13 : Nat) (x14 : Nat) (x15 : Nat) (x16 : Nat) : Br := (x0, x1, x2, x3, x4, x5, x6, x7, x8, x9, x10, x11, x12, x13, x14, x15, x16)
theorem s_n_mk (x0 : Nat) (x1 : (Nat → Nat)) (x2 : (Nat → Nat)) (x3 : (Nat → Nat)) (x4 : (Nat → Nat)) (x5 : (Nat → Nat)) (x6 : Nat) (x7 : (Nat → Nat)) (x8 : (Nat → Nat)) (x9 : (Nat → Nat)) (x10 : Nat) (x11 : Nat) (x12 : Nat) (x13 : Nat) (x14 : Nat) (x15 : Nat) (x16 : Nat) : s_n (mkS x0 x1 x2 x3 x4 x5 x6 x7 x8 x9 x10 x11 x12 x13 x14 x15 x16) = x0 := rfl
theorem s_L_mk (x0 : Nat) (x1 : (Nat → Nat)) (x2 : (Nat → Nat)) (x3 : (Nat → Nat)) (x4 : (Nat → Nat)) (x5 : (Nat → Nat)) (x6 : Nat) (x7 : (Nat → Nat)) (x8 : (Nat → Nat)) (x9 : (Nat → Nat)) (x10 : Nat) (x11 : Nat) (x12 : Nat) (x13 : Nat) (x14 : Nat) (x15 : Nat) (x16 : Nat) : s_L (mkS x0 x1 x2 x3 x4 x5 x6 x7 x8 x9 x10 x11 x12 x13 x14 x15 x16) = x1 := rfl
theorem s_J_mk (x0 : Nat) (x1 : (Nat → Nat)) (x2 : (Nat → Nat)) (x3 : (Nat → Nat)) (x4 : (Nat → Nat)) (x5 : (Nat → Nat)) (x6 : Nat) (x7 : (Nat → Nat)) (x8 : (Nat → Nat)) (x9 : (Nat → Nat)) (x10 : Nat) (x11 : Nat) (x12 : Nat) (x13 : Nat) (x14 : Nat) (x15 : Nat) (x16 : Nat) : s_J (mkS x0 x1 x2 x3 x4 x5 x6 x7 x8 x9 x10 x11 x12 x13 x14 x15 x16) = x2 := rfl
theorem s_A_mk (x0 : Nat) (x1 : (Nat → Nat)) (x2 : (Nat → Nat)) (x3 : (Nat → Nat)) (x4 : (Nat → Nat)) (x5 : (Nat → Nat)) (x6 : Nat) (x7 : (Nat → Nat)) (x8 : (Nat → Nat)) (x9 : (Nat → Nat)) (x10 : Nat) (x11 : Nat) (x12 : Nat) (x13 : Nat) (x14 : Nat) (x15 : Nat) (x16 : Nat) : s_A (mkS x0 x1 x2 x3 x4 x5 x6 x7 x8 x9 x10 x11 x12 x13 x14 x15 x16) = x3 := rfl
theorem s_K_mk (x0 : Nat) (x1 : (Nat → Nat)) (x2 : (Nat → Nat)) (x3 : (Nat → Nat)) (x4 : (Nat → Nat)) (x5 : (Nat → Nat)) (x6 : Nat) (x7 : (Nat → Nat)) (x8 : (Nat → Nat)) (x9 : (Nat → Nat)) (x10 : Nat) (x11 : Nat) (x12 : Nat) (x13 : Nat) (x14 : Nat) (x15 : Nat) (x16 : Nat) : s_K (mkS x0 x1 x2 x3 x4 x5 x6 x7 x8 x9 x10 x11 x12 x13 x14 x15 x16) = x4 := rfl
theorem s_T_mk (x0 : Nat) (x1 : (Nat → Nat)) (x2 : (Nat → Nat)) (x3 : (Nat → Nat)) (x4 : (Nat → Nat)) (x5 : (Nat → Nat)) (x6 : Nat) (x7 : (Nat → Nat)) (x8 : (Nat → Nat)) (x9 : (Nat → Nat)) (x10 : Nat) (x11 : Nat) (x12 : Nat) (x13 : Nat) (x14 : Nat) (x15 : Nat) (x16 : Nat) : s_T (mkS x0 x1 x2 x3 x4 x5 x6 x7 x8 x9 x10 x11 x12 x13 x14 x15 x16) = x5 := rfl
theorem s_v_mk (x0 : Nat) (x1 : (Nat → Nat)) (x2 : (Nat → Nat)) (x3 : (Nat → Nat)) (x4 : (Nat → Nat)) (x5 : (Nat → Nat)) (x6 : Nat) (x7 : (Nat → Nat)) (x8 : (Nat → Nat)) (x9 : (Nat → Nat)) (x10 : Nat) (x11 : Nat) (x12 : Nat) (x13 : Nat) (x14 : Nat) (x15 : Nat) (x16 : Nat) : s_v (mkS x0 x1 x2 x3 x4 x5 x6 x7 x8 x9 x10 x11 x12 x13 x14 x15 x16) = x6 := rfl
theorem s_N_mk (x0 : Nat) (x1 : (Nat → Nat)) (x2 : (Nat → Nat)) (x3 : (Nat → Nat)) (x4 : (Nat → Nat)) (x5 : (Nat → Nat)) (x6 : Nat) (x7 : (Nat → Nat)) (x8 : (Nat → Nat)) (x9 : (Nat → Nat)) (x10 : Nat) (x11 : Nat) (x12 : Nat) (x13 : Nat) (x14 : Nat) (x15 : Nat) (x16 : Nat) : s_N (mkS x0 x1 x2 x3 x4 x5 x6 x7 x8 x9 x10 x11 x12 x13 x14 x15 x16) = x7 := rfl
theorem s_W_mk (x0 : Nat) (x1 : (Nat → Nat)) (x2 : (Nat → Nat)) (x3 : (Nat → Nat)) (x4 : (Nat → Nat)) (x5 : (Nat → Nat)) (x6 : Nat) (x7 : (Nat → Nat)) (x8 : (Nat → Nat)) (x9 : (Nat → Nat)) (x10 : Nat) (x11 : Nat) (x12 : Nat) (x13 : Nat) (x14 : Nat) (x15 : Nat) (x16 : Nat) : s_W (mkS x0 x1 x2 x3 x4 x5 x6 x7 x8 x9 x10 x11 x12 x13 x14 x15 x16) = x8 := rfl
theorem s_P_mk (x0 : Nat) (x1 : (Nat → Nat)) (x2 : (Nat → Nat)) (x3 : (Nat → Nat)) (x4 : (Nat → Nat)) (x5 : (Nat → Nat)) (x6 : Nat) (x7 : (Nat → Nat)) (x8 : (Nat → Nat)) (x9 : (Nat → Nat)) (x10 : Nat) (x11 : Nat) (x12 : Nat) (x13 : Nat) (x14 : Nat) (x15 : Nat) (x16 : Nat) : s_P (mkS x0 x1 x2 x3 x4 x5 x6 x7 x8 x9 x10 x11 x12 x13 x14 x15 x16) = x9 := rfl
theorem s_nx_mk (x0 : Nat) (x1 : (Nat → Nat)) (x2 : (Nat → Nat)) (x3 : (Nat → Nat)) (x4 : (Nat → Nat)) (x5 : (Nat → Nat)) (x6 : Nat) (x7 : (Nat → Nat)) (x8 : (Nat → Nat)) (x9 : (Nat → Nat)) (x10 : Nat) (x11 : Nat) (x12 : Nat) (x13 : Nat) (x14 : Nat) (x15 : Nat) (x16 : Nat) : s_nx (mkS x0 x1 x2 x3 x4 x5 x6 x7 x8 x9 x10 x11 x12 x13 x14 x15 x16) = x10 := rfl
theorem s_hr_mk (x0 : Nat) (x1 : (Nat → Nat)) (x2 : (Nat → Nat)) (x3 : (Nat → Nat)) (x4 : (Nat → Nat)) (x5 : (Nat → Nat)) (x6 : Nat) (x7 : (Nat → Nat)) (x8 : (Nat → Nat)) (x9 : (Nat → Nat)) (x10 : Nat) (x11 : Nat) (x12 : Nat) (x13 : Nat) (x14 : Nat) (x15 : Nat) (x16 : Nat) : s_hr (mkS x0 x1 x2 x3 x4 x5 x6 x7 x8 x9 x10 x11 x12 x13 x14 x15 x16) = x11 := rfl
theorem s_rt_mk (x0 : Nat) (x1 : (Nat → Nat)) (x2 : (Nat → Nat)) (x3 : (Nat → Nat)) (x4 : (Nat → Nat)) (x5 : (Nat → Nat)) (x6 : Nat) (x7 : (Nat → Nat)) (x8 : (Nat → Nat)) (x9 : (Nat → Nat)) (x10 : Nat) (x11 : Nat) (x12 : Nat) (x13 : Nat) (x14 : Nat) (x15 : Nat) (x16 : Nat) : s_rt (mkS x0 x1 x2 x3 x4 x5 x6 x7 x8 x9 x10 x11 x12 x13 x14 x15 x16) = x12 := rfl
theorem s_tl_mk (x0 : Nat) (x1 : (Nat → Nat)) (x2 : (Nat → Nat)) (x3 : (Nat → Nat)) (x4 : (Nat → Nat)) (x5 : (Nat → Nat)) (x6 : Nat) (x7 : (Nat → Nat)) (x8 : (Nat → Nat)) (x9 : (Nat → Nat)) (x10 : Nat) (x11 : Nat) (x12 : Nat) (x13 : Nat) (x14 : Nat) (x15 : Nat) (x16 : Nat) : s_tl (mkS x0 x1 x2 x3 x4 x5 x6 x7 x8 x9 x10 x11 x12 x13 x14 x15 x16) = x13 := rfl
theorem s_pd_mk (x0 : Nat) (x1 : (Nat → Nat)) (x2 : (Nat → Nat)) (x3 : (Nat → Nat)) (x4 : (Nat → Nat)) (x5 : (Nat → Nat)) (x6 : Nat) (x7 : (Nat → Nat)) (x8 : (Nat → Nat)) (x9 : (Nat → Nat)) (x10 : Nat) (x11 : Nat) (x12 : Nat) (x13 : Nat) (x14 : Nat) (x15 : Nat) (x16 : Nat) : s_pd (mkS x0 x1 x2 x3 x4 x5 x6 x7 x8 x9 x10 x11 x12 x13 x14 x15 x16) = x14 := rfl
theorem s_cr_mk (x0 : Nat) (x1 : (Nat → Nat)) (x2 : (Nat → Nat)) (x3 : (Nat → Nat)) (x4 : (Nat → Nat)) (x5 : (Nat → Nat)) (x6 : Nat) (x7 : (Nat → Nat)) (x8 : (Nat → Nat)) (x9 : (Nat → Nat)) (x10 : Nat) (x11 : Nat) (x12 : Nat) (x13 : Nat) (x14 : Nat) (x15 : Nat) (x16 : Nat) : s_cr (mkS x0 x1 x2 x3 x4 x5 x6 x7 x8 x9 x10 x11 x12 x13 x14 x15 x16) = x15 := rfl
theorem s_sk_mk (x0 : Nat) (x1 : (Nat → Nat)) (x2 : (Nat → Nat)) (x3 : (Nat → Nat)) (x4 : (Nat → Nat)) (x5 : (Nat → Nat)) (x6 : Nat) (x7 : (Nat → Nat)) (x8 : (Nat → Nat)) (x9 : (Nat → Nat)) (x10 : Nat) (x11 : Nat) (x12 : Nat) (x13 : Nat) (x14 : Nat) (x15 : Nat) (x16 : Nat) : s_sk (mkS x0 x1 x2 x3 x4 x5 x6 x7 x8 x9 x10 x11 x12 x13 x14 x15 x16) = x16 := rfl
def fI (f : Nat → Nat) : Nat → Int32 := fun i => nI (f i)
def uN (f : Nat → Nat) (k x : Nat) : Nat → Nat := fun j => if j = k then x else f j
def toB (x : Br) : Bv := mkB (nI (s_n x)) (fI (s_L x)) (fI (s_J x)) (fI (s_A x)) (fI (s_K x)) (fI (s_T x)) (nI (s_v x)) (fI (s_N x)) (fI (s_W x)) (fI (s_P x)) (nI (s_nx x)) (nI (s_hr x)) (nI (s_rt x)) (nI (s_tl x)) (nI (s_pd x)) (nI (s_cr x)) (nI (s_sk x))
theorem B_spans_to (x : Br) : B_spans (toB x) = nI (s_n x) := rfl
theorem B_lengths_to (x : Br) : B_lengths (toB x) = fI (s_L x) := rfl
theorem B_jars_to (x : Br) : B_jars (toB x) = fI (s_J x) := rfl
theorem B_ages_to (x : Br) : B_ages (toB x) = fI (s_A x) := rfl
theorem B_cracks_to (x : Br) : B_cracks (toB x) = fI (s_K x) := rfl
theorem B_stresses_to (x : Br) : B_stresses (toB x) = fI (s_T x) := rfl
theorem B_vehicles_to (x : Br) : B_vehicles (toB x) = nI (s_v x) := rfl
theorem B_numbers_to (x : Br) : B_numbers (toB x) = fI (s_N x) := rfl
theorem B_weights_to (x : Br) : B_weights (toB x) = fI (s_W x) := rfl
theorem B_places_to (x : Br) : B_places (toB x) = fI (s_P x) := rfl
theorem B_nextNumber_to (x : Br) : B_nextNumber (toB x) = nI (s_nx x) := rfl
theorem B_hour_to (x : Br) : B_hour (toB x) = nI (s_hr x) := rfl
theorem B_rate_to (x : Br) : B_rate (toB x) = nI (s_rt x) := rfl
theorem B_till_to (x : Br) : B_till (toB x) = nI (s_tl x) := rfl
theorem B_paid_to (x : Br) : B_paid (toB x) = nI (s_pd x) := rfl
theorem B_crossed_to (x : Br) : B_crossed (toB x) = nI (s_cr x) := rfl
theorem B_sunk_to (x : Br) : B_sunk (toB x) = nI (s_sk x) := rfl
def st_n (x : Br) (y : Nat) : Br := mkS y (s_L x) (s_J x) (s_A x) (s_K x) (s_T x) (s_v x) (s_N x) (s_W x) (s_P x) (s_nx x) (s_hr x) (s_rt x) (s_tl x) (s_pd x) (s_cr x) (s_sk x)
def st_L (x : Br) (y : (Nat → Nat)) : Br := mkS (s_n x) y (s_J x) (s_A x) (s_K x) (s_T x) (s_v x) (s_N x) (s_W x) (s_P x) (s_nx x) (s_hr x) (s_rt x) (s_tl x) (s_pd x) (s_cr x) (s_sk x)
def st_J (x : Br) (y : (Nat → Nat)) : Br := mkS (s_n x) (s_L x) y (s_A x) (s_K x) (s_T x) (s_v x) (s_N x) (s_W x) (s_P x) (s_nx x) (s_hr x) (s_rt x) (s_tl x) (s_pd x) (s_cr x) (s_sk x)
def st_A (x : Br) (y : (Nat → Nat)) : Br := mkS (s_n x) (s_L x) (s_J x) y (s_K x) (s_T x) (s_v x) (s_N x) (s_W x) (s_P x) (s_nx x) (s_hr x) (s_rt x) (s_tl x) (s_pd x) (s_cr x) (s_sk x)
def st_K (x : Br) (y : (Nat → Nat)) : Br := mkS (s_n x) (s_L x) (s_J x) (s_A x) y (s_T x) (s_v x) (s_N x) (s_W x) (s_P x) (s_nx x) (s_hr x) (s_rt x) (s_tl x) (s_pd x) (s_cr x) (s_sk x)
def st_T (x : Br) (y : (Nat → Nat)) : Br := mkS (s_n x) (s_L x) (s_J x) (s_A x) (s_K x) y (s_v x) (s_N x) (s_W x) (s_P x) (s_nx x) (s_hr x) (s_rt x) (s_tl x) (s_pd x) (s_cr x) (s_sk x)
def st_v (x : Br) (y : Nat) : Br := mkS (s_n x) (s_L x) (s_J x) (s_A x) (s_K x) (s_T x) y (s_N x) (s_W x) (s_P x) (s_nx x) (s_hr x) (s_rt x) (s_tl x) (s_pd x) (s_cr x) (s_sk x)
def st_N (x : Br) (y : (Nat → Nat)) : Br := mkS (s_n x) (s_L x) (s_J x) (s_A x) (s_K x) (s_T x) (s_v x) y (s_W x) (s_P x) (s_nx x) (s_hr x) (s_rt x) (s_tl x) (s_pd x) (s_cr x) (s_sk x)
def st_W (x : Br) (y : (Nat → Nat)) : Br := mkS (s_n x) (s_L x) (s_J x) (s_A x) (s_K x) (s_T x) (s_v x) (s_N x) y (s_P x) (s_nx x) (s_hr x) (s_rt x) (s_tl x) (s_pd x) (s_cr x) (s_sk x)
def st_P (x : Br) (y : (Nat → Nat)) : Br := mkS (s_n x) (s_L x) (s_J x) (s_A x) (s_K x) (s_T x) (s_v x) (s_N x) (s_W x) y (s_nx x) (s_hr x) (s_rt x) (s_tl x) (s_pd x) (s_cr x) (s_sk x)
def st_nx (x : Br) (y : Nat) : Br := mkS (s_n x) (s_L x) (s_J x) (s_A x) (s_K x) (s_T x) (s_v x) (s_N x) (s_W x) (s_P x) y (s_hr x) (s_rt x) (s_tl x) (s_pd x) (s_cr x) (s_sk x)
def st_hr (x : Br) (y : Nat) : Br := mkS (s_n x) (s_L x) (s_J x) (s_A x) (s_K x) (s_T x) (s_v x) (s_N x) (s_W x) (s_P x) (s_nx x) y (s_rt x) (s_tl x) (s_pd x) (s_cr x) (s_sk x)
def st_rt (x : Br) (y : Nat) : Br := mkS (s_n x) (s_L x) (s_J x) (s_A x) (s_K x) (s_T x) (s_v x) (s_N x) (s_W x) (s_P x) (s_nx x) (s_hr x) y (s_tl x) (s_pd x) (s_cr x) (s_sk x)
def st_tl (x : Br) (y : Nat) : Br := mkS (s_n x) (s_L x) (s_J x) (s_A x) (s_K x) (s_T x) (s_v x) (s_N x) (s_W x) (s_P x) (s_nx x) (s_hr x) (s_rt x) y (s_pd x) (s_cr x) (s_sk x)
def st_pd (x : Br) (y : Nat) : Br := mkS (s_n x) (s_L x) (s_J x) (s_A x) (s_K x) (s_T x) (s_v x) (s_N x) (s_W x) (s_P x) (s_nx x) (s_hr x) (s_rt x) (s_tl x) y (s_cr x) (s_sk x)
def st_cr (x : Br) (y : Nat) : Br := mkS (s_n x) (s_L x) (s_J x) (s_A x) (s_K x) (s_T x) (s_v x) (s_N x) (s_W x) (s_P x) (s_nx x) (s_hr x) (s_rt x) (s_tl x) (s_pd x) y (s_sk x)
def st_sk (x : Br) (y : Nat) : Br := mkS (s_n x) (s_L x) (s_J x) (s_A x) (s_K x) (s_T x) (s_v x) (s_N x) (s_W x) (s_P x) (s_nx x) (s_hr x) (s_rt x) (s_tl x) (s_pd x) (s_cr x) y
theorem q_n_n (x : Br) (y : Nat) : s_n (st_n x y) = y := rfl
theorem q_L_n (x : Br) (y : Nat) : s_L (st_n x y) = s_L x := rfl
theorem q_J_n (x : Br) (y : Nat) : s_J (st_n x y) = s_J x := rfl
theorem q_A_n (x : Br) (y : Nat) : s_A (st_n x y) = s_A x := rfl
theorem q_K_n (x : Br) (y : Nat) : s_K (st_n x y) = s_K x := rfl
theorem q_T_n (x : Br) (y : Nat) : s_T (st_n x y) = s_T x := rfl
theorem q_v_n (x : Br) (y : Nat) : s_v (st_n x y) = s_v x := rfl
theorem q_N_n (x : Br) (y : Nat) : s_N (st_n x y) = s_N x := rfl
theorem q_W_n (x : Br) (y : Nat) : s_W (st_n x y) = s_W x := rfl
theorem q_P_n (x : Br) (y : Nat) : s_P (st_n x y) = s_P x := rfl
theorem q_nx_n (x : Br) (y : Nat) : s_nx (st_n x y) = s_nx x := rfl
theorem q_hr_n (x : Br) (y : Nat) : s_hr (st_n x y) = s_hr x := rfl
theorem q_rt_n (x : Br) (y : Nat) : s_rt (st_n x y) = s_rt x := rfl
theorem q_tl_n (x : Br) (y : Nat) : s_tl (st_n x y) = s_tl x := rfl
theorem q_pd_n (x : Br) (y : Nat) : s_pd (st_n x y) = s_pd x := rfl
theorem q_cr_n (x : Br) (y : Nat) : s_cr (st_n x y) = s_cr x := rfl
theorem q_sk_n (x : Br) (y : Nat) : s_sk (st_n x y) = s_sk x := rfl
theorem q_n_L (x : Br) (y : (Nat → Nat)) : s_n (st_L x y) = s_n x := rfl
theorem q_L_L (x : Br) (y : (Nat → Nat)) : s_L (st_L x y) = y := rfl
theorem q_J_L (x : Br) (y : (Nat → Nat)) : s_J (st_L x y) = s_J x := rfl
theorem q_A_L (x : Br) (y : (Nat → Nat)) : s_A (st_L x y) = s_A x := rfl
theorem q_K_L (x : Br) (y : (Nat → Nat)) : s_K (st_L x y) = s_K x := rfl
theorem q_T_L (x : Br) (y : (Nat → Nat)) : s_T (st_L x y) = s_T x := rfl
theorem q_v_L (x : Br) (y : (Nat → Nat)) : s_v (st_L x y) = s_v x := rfl
theorem q_N_L (x : Br) (y : (Nat → Nat)) : s_N (st_L x y) = s_N x := rfl
theorem q_W_L (x : Br) (y : (Nat → Nat)) : s_W (st_L x y) = s_W x := rfl
theorem q_P_L (x : Br) (y : (Nat → Nat)) : s_P (st_L x y) = s_P x := rfl
theorem q_nx_L (x : Br) (y : (Nat → Nat)) : s_nx (st_L x y) = s_nx x := rfl
theorem q_hr_L (x : Br) (y : (Nat → Nat)) : s_hr (st_L x y) = s_hr x := rfl
theorem q_rt_L (x : Br) (y : (Nat → Nat)) : s_rt (st_L x y) = s_rt x := rfl
theorem q_tl_L (x : Br) (y : (Nat → Nat)) : s_tl (st_L x y) = s_tl x := rfl
theorem q_pd_L (x : Br) (y : (Nat → Nat)) : s_pd (st_L x y) = s_pd x := rfl
theorem q_cr_L (x : Br) (y : (Nat → Nat)) : s_cr (st_L x y) = s_cr x := rfl
theorem q_sk_L (x : Br) (y : (Nat → Nat)) : s_sk (st_L x y) = s_sk x := rfl
theorem q_n_J (x : Br) (y : (Nat → Nat)) : s_n (st_J x y) = s_n x := rfl
theorem q_L_J (x : Br) (y : (Nat → Nat)) : s_L (st_J x y) = s_L x := rfl
theorem q_J_J (x : Br) (y : (Nat → Nat)) : s_J (st_J x y) = y := rfl
theorem q_A_J (x : Br) (y : (Nat → Nat)) : s_A (st_J x y) = s_A x := rfl
theorem q_K_J (x : Br) (y : (Nat → Nat)) : s_K (st_J x y) = s_K x := rfl
theorem q_T_J (x : Br) (y : (Nat → Nat)) : s_T (st_J x y) = s_T x := rfl
theorem q_v_J (x : Br) (y : (Nat → Nat)) : s_v (st_J x y) = s_v x := rfl
theorem q_N_J (x : Br) (y : (Nat → Nat)) : s_N (st_J x y) = s_N x := rfl
theorem q_W_J (x : Br) (y : (Nat → Nat)) : s_W (st_J x y) = s_W x := rfl
theorem q_P_J (x : Br) (y : (Nat → Nat)) : s_P (st_J x y) = s_P x := rfl
theorem q_nx_J (x : Br) (y : (Nat → Nat)) : s_nx (st_J x y) = s_nx x := rfl
theorem q_hr_J (x : Br) (y : (Nat → Nat)) : s_hr (st_J x y) = s_hr x := rfl
theorem q_rt_J (x : Br) (y : (Nat → Nat)) : s_rt (st_J x y) = s_rt x := rfl
theorem q_tl_J (x : Br) (y : (Nat → Nat)) : s_tl (st_J x y) = s_tl x := rfl
theorem q_pd_J (x : Br) (y : (Nat → Nat)) : s_pd (st_J x y) = s_pd x := rfl
theorem q_cr_J (x : Br) (y : (Nat → Nat)) : s_cr (st_J x y) = s_cr x := rfl
theorem q_sk_J (x : Br) (y : (Nat → Nat)) : s_sk (st_J x y) = s_sk x := rfl
theorem q_n_A (x : Br) (y : (Nat → Nat)) : s_n (st_A x y) = s_n x := rfl
theorem q_L_A (x : Br) (y : (Nat → Nat)) : s_L (st_A x y) = s_L x := rfl
theorem q_J_A (x : Br) (y : (Nat → Nat)) : s_J (st_A x y) = s_J x := rfl
theorem q_A_A (x : Br) (y : (Nat → Nat)) : s_A (st_A x y) = y := rfl
theorem q_K_A (x : Br) (y : (Nat → Nat)) : s_K (st_A x y) = s_K x := rfl
theorem q_T_A (x : Br) (y : (Nat → Nat)) : s_T (st_A x y) = s_T x := rfl
theorem q_v_A (x : Br) (y : (Nat → Nat)) : s_v (st_A x y) = s_v x := rfl
theorem q_N_A (x : Br) (y : (Nat → Nat)) : s_N (st_A x y) = s_N x := rfl
theorem q_W_A (x : Br) (y : (Nat → Nat)) : s_W (st_A x y) = s_W x := rfl
theorem q_P_A (x : Br) (y : (Nat → Nat)) : s_P (st_A x y) = s_P x := rfl
theorem q_nx_A (x : Br) (y : (Nat → Nat)) : s_nx (st_A x y) = s_nx x := rfl
theorem q_hr_A (x : Br) (y : (Nat → Nat)) : s_hr (st_A x y) = s_hr x := rfl
theorem q_rt_A (x : Br) (y : (Nat → Nat)) : s_rt (st_A x y) = s_rt x := rfl
theorem q_tl_A (x : Br) (y : (Nat → Nat)) : s_tl (st_A x y) = s_tl x := rfl
theorem q_pd_A (x : Br) (y : (Nat → Nat)) : s_pd (st_A x y) = s_pd x := rfl
theorem q_cr_A (x : Br) (y : (Nat → Nat)) : s_cr (st_A x y) = s_cr x := rfl
theorem q_sk_A (x : Br) (y : (Nat → Nat)) : s_sk (st_A x y) = s_sk x := rfl
theorem q_n_K (x : Br) (y : (Nat → Nat)) : s_n (st_K x y) = s_n x := rfl
theorem q_L_K (x : Br) (y : (Nat → Nat)) : s_L (st_K x y) = s_L x := rfl
theorem q_J_K (x : Br) (y : (Nat → Nat)) : s_J (st_K x y) = s_J x := rfl
theorem q_A_K (x : Br) (y : (Nat → Nat)) : s_A (st_K x y) = s_A x := rfl
theorem q_K_K (x : Br) (y : (Nat → Nat)) : s_K (st_K x y) = y := rfl
theorem q_T_K (x : Br) (y : (Nat → Nat)) : s_T (st_K x y) = s_T x := rfl
theorem q_v_K (x : Br) (y : (Nat → Nat)) : s_v (st_K x y) = s_v x := rfl
theorem q_N_K (x : Br) (y : (Nat → Nat)) : s_N (st_K x y) = s_N x := rfl
theorem q_W_K (x : Br) (y : (Nat → Nat)) : s_W (st_K x y) = s_W x := rfl
theorem q_P_K (x : Br) (y : (Nat → Nat)) : s_P (st_K x y) = s_P x := rfl
theorem q_nx_K (x : Br) (y : (Nat → Nat)) : s_nx (st_K x y) = s_nx x := rfl
theorem q_hr_K (x : Br) (y : (Nat → Nat)) : s_hr (st_K x y) = s_hr x := rfl
theorem q_rt_K (x : Br) (y : (Nat → Nat)) : s_rt (st_K x y) = s_rt x := rfl
theorem q_tl_K (x : Br) (y : (Nat → Nat)) : s_tl (st_K x y) = s_tl x := rfl
theorem q_pd_K (x : Br) (y : (Nat → Nat)) : s_pd (st_K x y) = s_pd x := rfl
theorem q_cr_K (x : Br) (y : (Nat → Nat)) : s_cr (st_K x y) = s_cr x := rfl
theorem q_sk_K (x : Br) (y : (Nat → Nat)) : s_sk (st_K x y) = s_sk x := rfl
theorem q_n_T (x : Br) (y : (Nat → Nat)) : s_n (st_T x y) = s_n x := rfl
theorem q_L_T (x : Br) (y : (Nat → Nat)) : s_L (st_T x y) = s_L x := rfl
theorem q_J_T (x : Br) (y : (Nat → Nat)) : s_J (st_T x y) = s_J x := rfl
theorem q_A_T (x : Br) (y : (Nat → Nat)) : s_A (st_T x y) = s_A x := rfl
theorem q_K_T (x : Br) (y : (Nat → Nat)) : s_K (st_T x y) = s_K x := rfl
theorem q_T_T (x : Br) (y : (Nat → Nat)) : s_T (st_T x y) = y := rfl
theorem q_v_T (x : Br) (y : (Nat → Nat)) : s_v (st_T x y) = s_v x := rfl
theorem q_N_T (x : Br) (y : (Nat → Nat)) : s_N (st_T x y) = s_N x := rfl
theorem q_W_T (x : Br) (y : (Nat → Nat)) : s_W (st_T x y) = s_W x := rfl
theorem q_P_T (x : Br) (y : (Nat → Nat)) : s_P (st_T x y) = s_P x := rfl
theorem q_nx_T (x : Br) (y : (Nat → Nat)) : s_nx (st_T x y) = s_nx x := rfl
theorem q_hr_T (x : Br) (y : (Nat → Nat)) : s_hr (st_T x y) = s_hr x := rfl
theorem q_rt_T (x : Br) (y : (Nat → Nat)) : s_rt (st_T x y) = s_rt x := rfl
theorem q_tl_T (x : Br) (y : (Nat → Nat)) : s_tl (st_T x y) = s_tl x := rfl
theorem q_pd_T (x : Br) (y : (Nat → Nat)) : s_pd (st_T x y) = s_pd x := rfl
theorem q_cr_T (x : Br) (y : (Nat → Nat)) : s_cr (st_T x y) = s_cr x := rfl
theorem q_sk_T (x : Br) (y : (Nat → Nat)) : s_sk (st_T x y) = s_sk x := rfl
theorem q_n_v (x : Br) (y : Nat) : s_n (st_v x y) = s_n x := rfl
theorem q_L_v (x : Br) (y : Nat) : s_L (st_v x y) = s_L x := rfl
theorem q_J_v (x : Br) (y : Nat) : s_J (st_v x y) = s_J x := rfl
theorem q_A_v (x : Br) (y : Nat) : s_A (st_v x y) = s_A x := rfl
theorem q_K_v (x : Br) (y : Nat) : s_K (st_v x y) = s_K x := rfl
theorem q_T_v (x : Br) (y : Nat) : s_T (st_v x y) = s_T x := rfl
theorem q_v_v (x : Br) (y : Nat) : s_v (st_v x y) = y := rfl
theorem q_N_v (x : Br) (y : Nat) : s_N (st_v x y) = s_N x := rfl
theorem q_W_v (x : Br) (y : Nat) : s_W (st_v x y) = s_W x := rfl
theorem q_P_v (x : Br) (y : Nat) : s_P (st_v x y) = s_P x := rfl
theorem q_nx_v (x : Br) (y : Nat) : s_nx (st_v x y) = s_nx x := rfl
theorem q_hr_v (x : Br) (y : Nat) : s_hr (st_v x y) = s_hr x := rfl
theorem q_rt_v (x : Br) (y : Nat) : s_rt (st_v x y) = s_rt x := rfl
theorem q_tl_v (x : Br) (y : Nat) : s_tl (st_v x y) = s_tl x := rfl
theorem q_pd_v (x : Br) (y : Nat) : s_pd (st_v x y) = s_pd x := rfl
theorem q_cr_v (x : Br) (y : Nat) : s_cr (st_v x y) = s_cr x := rfl
theorem q_sk_v (x : Br) (y : Nat) : s_sk (st_v x y) = s_sk x := rfl
theorem q_n_N (x : Br) (y : (Nat → Nat)) : s_n (st_N x y) = s_n x := rfl
theorem q_L_N (x : Br) (y : (Nat → Nat)) : s_L (st_N x y) = s_L x := rfl
theorem q_J_N (x : Br) (y : (Nat → Nat)) : s_J (st_N x y) = s_J x := rfl
theorem q_A_N (x : Br) (y : (Nat → Nat)) : s_A (st_N x y) = s_A x := rfl
theorem q_K_N (x : Br) (y : (Nat → Nat)) : s_K (st_N x y) = s_K x := rfl
theorem q_T_N (x : Br) (y : (Nat → Nat)) : s_T (st_N x y) = s_T x := rfl
theorem q_v_N (x : Br) (y : (Nat → Nat)) : s_v (st_N x y) = s_v x := rfl
theorem q_N_N (x : Br) (y : (Nat → Nat)) : s_N (st_N x y) = y := rfl
theorem q_W_N (x : Br) (y : (Nat → Nat)) : s_W (st_N x y) = s_W x := rfl
theorem q_P_N (x : Br) (y : (Nat → Nat)) : s_P (st_N x y) = s_P x := rfl
theorem q_nx_N (x : Br) (y : (Nat → Nat)) : s_nx (st_N x y) = s_nx x := rfl
theorem q_hr_N (x : Br) (y : (Nat → Nat)) : s_hr (st_N x y) = s_hr x := rfl
theorem q_rt_N (x : Br) (y : (Nat → Nat)) : s_rt (st_N x y) = s_rt x := rfl
theorem q_tl_N (x : Br) (y : (Nat → Nat)) : s_tl (st_N x y) = s_tl x := rfl
theorem q_pd_N (x : Br) (y : (Nat → Nat)) : s_pd (st_N x y) = s_pd x := rfl
theorem q_cr_N (x : Br) (y : (Nat → Nat)) : s_cr (st_N x y) = s_cr x := rfl
theorem q_sk_N (x : Br) (y : (Nat → Nat)) : s_sk (st_N x y) = s_sk x := rfl
theorem q_n_W (x : Br) (y : (Nat → Nat)) : s_n (st_W x y) = s_n x := rfl
theorem q_L_W (x : Br) (y : (Nat → Nat)) : s_L (st_W x y) = s_L x := rfl
theorem q_J_W (x : Br) (y : (Nat → Nat)) : s_J (st_W x y) = s_J x := rfl
theorem q_A_W (x : Br) (y : (Nat → Nat)) : s_A (st_W x y) = s_A x := rfl
theorem q_K_W (x : Br) (y : (Nat → Nat)) : s_K (st_W x y) = s_K x := rfl
theorem q_T_W (x : Br) (y : (Nat → Nat)) : s_T (st_W x y) = s_T x := rfl
theorem q_v_W (x : Br) (y : (Nat → Nat)) : s_v (st_W x y) = s_v x := rfl
theorem q_N_W (x : Br) (y : (Nat → Nat)) : s_N (st_W x y) = s_N x := rfl
theorem q_W_W (x : Br) (y : (Nat → Nat)) : s_W (st_W x y) = y := rfl
theorem q_P_W (x : Br) (y : (Nat → Nat)) : s_P (st_W x y) = s_P x := rfl
theorem q_nx_W (x : Br) (y : (Nat → Nat)) : s_nx (st_W x y) = s_nx x := rfl
theorem q_hr_W (x : Br) (y : (Nat → Nat)) : s_hr (st_W x y) = s_hr x := rfl
theorem q_rt_W (x : Br) (y : (Nat → Nat)) : s_rt (st_W x y) = s_rt x := rfl
theorem q_tl_W (x : Br) (y : (Nat → Nat)) : s_tl (st_W x y) = s_tl x := rfl
theorem q_pd_W (x : Br) (y : (Nat → Nat)) : s_pd (st_W x y) = s_pd x := rfl
theorem q_cr_W (x : Br) (y : (Nat → Nat)) : s_cr (st_W x y) = s_cr x := rfl
theorem q_sk_W (x : Br) (y : (Nat → Nat)) : s_sk (st_W x y) = s_sk x := rfl
theorem q_n_P (x : Br) (y : (Nat → Nat)) : s_n (st_P x y) = s_n x := rfl
theorem q_L_P (x : Br) (y : (Nat → Nat)) : s_L (st_P x y) = s_L x := rfl
theorem q_J_P (x : Br) (y : (Nat → Nat)) : s_J (st_P x y) = s_J x := rfl
theorem q_A_P (x : Br) (y : (Nat → Nat)) : s_A (st_P x y) = s_A x := rfl
theorem q_K_P (x : Br) (y : (Nat → Nat)) : s_K (st_P x y) = s_K x := rfl
theorem q_T_P (x : Br) (y : (Nat → Nat)) : s_T (st_P x y) = s_T x := rfl
theorem q_v_P (x : Br) (y : (Nat → Nat)) : s_v (st_P x y) = s_v x := rfl
theorem q_N_P (x : Br) (y : (Nat → Nat)) : s_N (st_P x y) = s_N x := rfl
theorem q_W_P (x : Br) (y : (Nat → Nat)) : s_W (st_P x y) = s_W x := rfl
theorem q_P_P (x : Br) (y : (Nat → Nat)) : s_P (st_P x y) = y := rfl
theorem q_nx_P (x : Br) (y : (Nat → Nat)) : s_nx (st_P x y) = s_nx x := rfl
theorem q_hr_P (x : Br) (y : (Nat → Nat)) : s_hr (st_P x y) = s_hr x := rfl
theorem q_rt_P (x : Br) (y : (Nat → Nat)) : s_rt (st_P x y) = s_rt x := rfl
theorem q_tl_P (x : Br) (y : (Nat → Nat)) : s_tl (st_P x y) = s_tl x := rfl
theorem q_pd_P (x : Br) (y : (Nat → Nat)) : s_pd (st_P x y) = s_pd x := rfl
theorem q_cr_P (x : Br) (y : (Nat → Nat)) : s_cr (st_P x y) = s_cr x := rfl
theorem q_sk_P (x : Br) (y : (Nat → Nat)) : s_sk (st_P x y) = s_sk x := rfl
theorem q_n_nx (x : Br) (y : Nat) : s_n (st_nx x y) = s_n x := rfl
theorem q_L_nx (x : Br) (y : Nat) : s_L (st_nx x y) = s_L x := rfl
theorem q_J_nx (x : Br) (y : Nat) : s_J (st_nx x y) = s_J x := rfl
theorem q_A_nx (x : Br) (y : Nat) : s_A (st_nx x y) = s_A x := rfl
theorem q_K_nx (x : Br) (y : Nat) : s_K (st_nx x y) = s_K x := rfl
theorem q_T_nx (x : Br) (y : Nat) : s_T (st_nx x y) = s_T x := rfl
theorem q_v_nx (x : Br) (y : Nat) : s_v (st_nx x y) = s_v x := rfl
theorem q_N_nx (x : Br) (y : Nat) : s_N (st_nx x y) = s_N x := rfl
theorem q_W_nx (x : Br) (y : Nat) : s_W (st_nx x y) = s_W x := rfl
theorem q_P_nx (x : Br) (y : Nat) : s_P (st_nx x y) = s_P x := rfl
theorem q_nx_nx (x : Br) (y : Nat) : s_nx (st_nx x y) = y := rfl
theorem q_hr_nx (x : Br) (y : Nat) : s_hr (st_nx x y) = s_hr x := rfl
theorem q_rt_nx (x : Br) (y : Nat) : s_rt (st_nx x y) = s_rt x := rfl
theorem q_tl_nx (x : Br) (y : Nat) : s_tl (st_nx x y) = s_tl x := rfl
theorem q_pd_nx (x : Br) (y : Nat) : s_pd (st_nx x y) = s_pd x := rfl
theorem q_cr_nx (x : Br) (y : Nat) : s_cr (st_nx x y) = s_cr x := rfl
theorem q_sk_nx (x : Br) (y : Nat) : s_sk (st_nx x y) = s_sk x := rfl
theorem q_n_hr (x : Br) (y : Nat) : s_n (st_hr x y) = s_n x := rfl
theorem q_L_hr (x : Br) (y : Nat) : s_L (st_hr x y) = s_L x := rfl
theorem q_J_hr (x : Br) (y : Nat) : s_J (st_hr x y) = s_J x := rfl
theorem q_A_hr (x : Br) (y : Nat) : s_A (st_hr x y) = s_A x := rfl
theorem q_K_hr (x : Br) (y : Nat) : s_K (st_hr x y) = s_K x := rfl
theorem q_T_hr (x : Br) (y : Nat) : s_T (st_hr x y) = s_T x := rfl
theorem q_v_hr (x : Br) (y : Nat) : s_v (st_hr x y) = s_v x := rfl
theorem q_N_hr (x : Br) (y : Nat) : s_N (st_hr x y) = s_N x := rfl
theorem q_W_hr (x : Br) (y : Nat) : s_W (st_hr x y) = s_W x := rfl
theorem q_P_hr (x : Br) (y : Nat) : s_P (st_hr x y) = s_P x := rfl
theorem q_nx_hr (x : Br) (y : Nat) : s_nx (st_hr x y) = s_nx x := rfl
theorem q_hr_hr (x : Br) (y : Nat) : s_hr (st_hr x y) = y := rfl
theorem q_rt_hr (x : Br) (y : Nat) : s_rt (st_hr x y) = s_rt x := rfl
theorem q_tl_hr (x : Br) (y : Nat) : s_tl (st_hr x y) = s_tl x := rfl
theorem q_pd_hr (x : Br) (y : Nat) : s_pd (st_hr x y) = s_pd x := rfl
theorem q_cr_hr (x : Br) (y : Nat) : s_cr (st_hr x y) = s_cr x := rfl
theorem q_sk_hr (x : Br) (y : Nat) : s_sk (st_hr x y) = s_sk x := rfl
theorem q_n_rt (x : Br) (y : Nat) : s_n (st_rt x y) = s_n x := rfl
theorem q_L_rt (x : Br) (y : Nat) : s_L (st_rt x y) = s_L x := rfl
theorem q_J_rt (x : Br) (y : Nat) : s_J (st_rt x y) = s_J x := rfl
theorem q_A_rt (x : Br) (y : Nat) : s_A (st_rt x y) = s_A x := rfl
theorem q_K_rt (x : Br) (y : Nat) : s_K (st_rt x y) = s_K x := rfl
theorem q_T_rt (x : Br) (y : Nat) : s_T (st_rt x y) = s_T x := rfl
theorem q_v_rt (x : Br) (y : Nat) : s_v (st_rt x y) = s_v x := rfl
theorem q_N_rt (x : Br) (y : Nat) : s_N (st_rt x y) = s_N x := rfl
theorem q_W_rt (x : Br) (y : Nat) : s_W (st_rt x y) = s_W x := rfl
theorem q_P_rt (x : Br) (y : Nat) : s_P (st_rt x y) = s_P x := rfl
theorem q_nx_rt (x : Br) (y : Nat) : s_nx (st_rt x y) = s_nx x := rfl
theorem q_hr_rt (x : Br) (y : Nat) : s_hr (st_rt x y) = s_hr x := rfl
theorem q_rt_rt (x : Br) (y : Nat) : s_rt (st_rt x y) = y := rfl
theorem q_tl_rt (x : Br) (y : Nat) : s_tl (st_rt x y) = s_tl x := rfl
theorem q_pd_rt (x : Br) (y : Nat) : s_pd (st_rt x y) = s_pd x := rfl
theorem q_cr_rt (x : Br) (y : Nat) : s_cr (st_rt x y) = s_cr x := rfl
theorem q_sk_rt (x : Br) (y : Nat) : s_sk (st_rt x y) = s_sk x := rfl
theorem q_n_tl (x : Br) (y : Nat) : s_n (st_tl x y) = s_n x := rfl
theorem q_L_tl (x : Br) (y : Nat) : s_L (st_tl x y) = s_L x := rfl
theorem q_J_tl (x : Br) (y : Nat) : s_J (st_tl x y) = s_J x := rfl
theorem q_A_tl (x : Br) (y : Nat) : s_A (st_tl x y) = s_A x := rfl
theorem q_K_tl (x : Br) (y : Nat) : s_K (st_tl x y) = s_K x := rfl
theorem q_T_tl (x : Br) (y : Nat) : s_T (st_tl x y) = s_T x := rfl
theorem q_v_tl (x : Br) (y : Nat) : s_v (st_tl x y) = s_v x := rfl
theorem q_N_tl (x : Br) (y : Nat) : s_N (st_tl x y) = s_N x := rfl
theorem q_W_tl (x : Br) (y : Nat) : s_W (st_tl x y) = s_W x := rfl
theorem q_P_tl (x : Br) (y : Nat) : s_P (st_tl x y) = s_P x := rfl
theorem q_nx_tl (x : Br) (y : Nat) : s_nx (st_tl x y) = s_nx x := rfl
theorem q_hr_tl (x : Br) (y : Nat) : s_hr (st_tl x y) = s_hr x := rfl
theorem q_rt_tl (x : Br) (y : Nat) : s_rt (st_tl x y) = s_rt x := rfl
theorem q_tl_tl (x : Br) (y : Nat) : s_tl (st_tl x y) = y := rfl
theorem q_pd_tl (x : Br) (y : Nat) : s_pd (st_tl x y) = s_pd x := rfl
theorem q_cr_tl (x : Br) (y : Nat) : s_cr (st_tl x y) = s_cr x := rfl
theorem q_sk_tl (x : Br) (y : Nat) : s_sk (st_tl x y) = s_sk x := rfl
theorem q_n_pd (x : Br) (y : Nat) : s_n (st_pd x y) = s_n x := rfl
theorem q_L_pd (x : Br) (y : Nat) : s_L (st_pd x y) = s_L x := rfl
theorem q_J_pd (x : Br) (y : Nat) : s_J (st_pd x y) = s_J x := rfl
theorem q_A_pd (x : Br) (y : Nat) : s_A (st_pd x y) = s_A x := rfl
theorem q_K_pd (x : Br) (y : Nat) : s_K (st_pd x y) = s_K x := rfl
theorem q_T_pd (x : Br) (y : Nat) : s_T (st_pd x y) = s_T x := rfl
theorem q_v_pd (x : Br) (y : Nat) : s_v (st_pd x y) = s_v x := rfl
theorem q_N_pd (x : Br) (y : Nat) : s_N (st_pd x y) = s_N x := rfl
theorem q_W_pd (x : Br) (y : Nat) : s_W (st_pd x y) = s_W x := rfl
theorem q_P_pd (x : Br) (y : Nat) : s_P (st_pd x y) = s_P x := rfl
theorem q_nx_pd (x : Br) (y : Nat) : s_nx (st_pd x y) = s_nx x := rfl
theorem q_hr_pd (x : Br) (y : Nat) : s_hr (st_pd x y) = s_hr x := rfl
theorem q_rt_pd (x : Br) (y : Nat) : s_rt (st_pd x y) = s_rt x := rfl
theorem q_tl_pd (x : Br) (y : Nat) : s_tl (st_pd x y) = s_tl x := rfl
theorem q_pd_pd (x : Br) (y : Nat) : s_pd (st_pd x y) = y := rfl
theorem q_cr_pd (x : Br) (y : Nat) : s_cr (st_pd x y) = s_cr x := rfl
theorem q_sk_pd (x : Br) (y : Nat) : s_sk (st_pd x y) = s_sk x := rfl
theorem q_n_cr (x : Br) (y : Nat) : s_n (st_cr x y) = s_n x := rfl
theorem q_L_cr (x : Br) (y : Nat) : s_L (st_cr x y) = s_L x := rfl
theorem q_J_cr (x : Br) (y : Nat) : s_J (st_cr x y) = s_J x := rfl
theorem q_A_cr (x : Br) (y : Nat) : s_A (st_cr x y) = s_A x := rfl
theorem q_K_cr (x : Br) (y : Nat) : s_K (st_cr x y) = s_K x := rfl
theorem q_T_cr (x : Br) (y : Nat) : s_T (st_cr x y) = s_T x := rfl
theorem q_v_cr (x : Br) (y : Nat) : s_v (st_cr x y) = s_v x := rfl
theorem q_N_cr (x : Br) (y : Nat) : s_N (st_cr x y) = s_N x := rfl
theorem q_W_cr (x : Br) (y : Nat) : s_W (st_cr x y) = s_W x := rfl
theorem q_P_cr (x : Br) (y : Nat) : s_P (st_cr x y) = s_P x := rfl
theorem q_nx_cr (x : Br) (y : Nat) : s_nx (st_cr x y) = s_nx x := rfl
theorem q_hr_cr (x : Br) (y : Nat) : s_hr (st_cr x y) = s_hr x := rfl
theorem q_rt_cr (x : Br) (y : Nat) : s_rt (st_cr x y) = s_rt x := rfl
theorem q_tl_cr (x : Br) (y : Nat) : s_tl (st_cr x y) = s_tl x := rfl
theorem q_pd_cr (x : Br) (y : Nat) : s_pd (st_cr x y) = s_pd x := rfl
theorem q_cr_cr (x : Br) (y : Nat) : s_cr (st_cr x y) = y := rfl
theorem q_sk_cr (x : Br) (y : Nat) : s_sk (st_cr x y) = s_sk x := rfl
theorem q_n_sk (x : Br) (y : Nat) : s_n (st_sk x y) = s_n x := rfl
theorem q_L_sk (x : Br) (y : Nat) : s_L (st_sk x y) = s_L x := rfl
theorem q_J_sk (x : Br) (y : Nat) : s_J (st_sk x y) = s_J x := rfl
theorem q_A_sk (x : Br) (y : Nat) : s_A (st_sk x y) = s_A x := rfl
theorem q_K_sk (x : Br) (y : Nat) : s_K (st_sk x y) = s_K x := rfl
theorem q_T_sk (x : Br) (y : Nat) : s_T (st_sk x y) = s_T x := rfl
theorem q_v_sk (x : Br) (y : Nat) : s_v (st_sk x y) = s_v x := rfl
theorem q_N_sk (x : Br) (y : Nat) : s_N (st_sk x y) = s_N x := rfl
theorem q_W_sk (x : Br) (y : Nat) : s_W (st_sk x y) = s_W x := rfl
theorem q_P_sk (x : Br) (y : Nat) : s_P (st_sk x y) = s_P x := rfl
theorem q_nx_sk (x : Br) (y : Nat) : s_nx (st_sk x y) = s_nx x := rfl
theorem q_hr_sk (x : Br) (y : Nat) : s_hr (st_sk x y) = s_hr x := rfl
theorem q_rt_sk (x : Br) (y : Nat) : s_rt (st_sk x y) = s_rt x := rfl
theorem q_tl_sk (x : Br) (y : Nat) : s_tl (st_sk x y) = s_tl x := rfl
theorem q_pd_sk (x : Br) (y : Nat) : s_pd (st_sk x y) = s_pd x := rfl
theorem q_cr_sk (x : Br) (y : Nat) : s_cr (st_sk x y) = s_cr x := rfl
theorem q_sk_sk (x : Br) (y : Nat) : s_sk (st_sk x y) = y := rfl
theorem toB_n (x : Br) (y : Nat) : mkB (nI y) (fI (s_L x)) (fI (s_J x)) (fI (s_A x)) (fI (s_K x)) (fI (s_T x)) (nI (s_v x)) (fI (s_N x)) (fI (s_W x)) (fI (s_P x)) (nI (s_nx x)) (nI (s_hr x)) (nI (s_rt x)) (nI (s_tl x)) (nI (s_pd x)) (nI (s_cr x)) (nI (s_sk x)) = toB (st_n x y) := rfl
theorem toB_L (x : Br) (y : (Nat → Nat)) : mkB (nI (s_n x)) (fI y) (fI (s_J x)) (fI (s_A x)) (fI (s_K x)) (fI (s_T x)) (nI (s_v x)) (fI (s_N x)) (fI (s_W x)) (fI (s_P x)) (nI (s_nx x)) (nI (s_hr x)) (nI (s_rt x)) (nI (s_tl x)) (nI (s_pd x)) (nI (s_cr x)) (nI (s_sk x)) = toB (st_L x y) := rfl
theorem toB_J (x : Br) (y : (Nat → Nat)) : mkB (nI (s_n x)) (fI (s_L x)) (fI y) (fI (s_A x)) (fI (s_K x)) (fI (s_T x)) (nI (s_v x)) (fI (s_N x)) (fI (s_W x)) (fI (s_P x)) (nI (s_nx x)) (nI (s_hr x)) (nI (s_rt x)) (nI (s_tl x)) (nI (s_pd x)) (nI (s_cr x)) (nI (s_sk x)) = toB (st_J x y) := rfl
theorem toB_A (x : Br) (y : (Nat → Nat)) : mkB (nI (s_n x)) (fI (s_L x)) (fI (s_J x)) (fI y) (fI (s_K x)) (fI (s_T x)) (nI (s_v x)) (fI (s_N x)) (fI (s_W x)) (fI (s_P x)) (nI (s_nx x)) (nI (s_hr x)) (nI (s_rt x)) (nI (s_tl x)) (nI (s_pd x)) (nI (s_cr x)) (nI (s_sk x)) = toB (st_A x y) := rfl
theorem toB_K (x : Br) (y : (Nat → Nat)) : mkB (nI (s_n x)) (fI (s_L x)) (fI (s_J x)) (fI (s_A x)) (fI y) (fI (s_T x)) (nI (s_v x)) (fI (s_N x)) (fI (s_W x)) (fI (s_P x)) (nI (s_nx x)) (nI (s_hr x)) (nI (s_rt x)) (nI (s_tl x)) (nI (s_pd x)) (nI (s_cr x)) (nI (s_sk x)) = toB (st_K x y) := rfl
theorem toB_T (x : Br) (y : (Nat → Nat)) : mkB (nI (s_n x)) (fI (s_L x)) (fI (s_J x)) (fI (s_A x)) (fI (s_K x)) (fI y) (nI (s_v x)) (fI (s_N x)) (fI (s_W x)) (fI (s_P x)) (nI (s_nx x)) (nI (s_hr x)) (nI (s_rt x)) (nI (s_tl x)) (nI (s_pd x)) (nI (s_cr x)) (nI (s_sk x)) = toB (st_T x y) := rfl
theorem toB_v (x : Br) (y : Nat) : mkB (nI (s_n x)) (fI (s_L x)) (fI (s_J x)) (fI (s_A x)) (fI (s_K x)) (fI (s_T x)) (nI y) (fI (s_N x)) (fI (s_W x)) (fI (s_P x)) (nI (s_nx x)) (nI (s_hr x)) (nI (s_rt x)) (nI (s_tl x)) (nI (s_pd x)) (nI (s_cr x)) (nI (s_sk x)) = toB (st_v x y) := rfl
theorem toB_N (x : Br) (y : (Nat → Nat)) : mkB (nI (s_n x)) (fI (s_L x)) (fI (s_J x)) (fI (s_A x)) (fI (s_K x)) (fI (s_T x)) (nI (s_v x)) (fI y) (fI (s_W x)) (fI (s_P x)) (nI (s_nx x)) (nI (s_hr x)) (nI (s_rt x)) (nI (s_tl x)) (nI (s_pd x)) (nI (s_cr x)) (nI (s_sk x)) = toB (st_N x y) := rfl
theorem toB_W (x : Br) (y : (Nat → Nat)) : mkB (nI (s_n x)) (fI (s_L x)) (fI (s_J x)) (fI (s_A x)) (fI (s_K x)) (fI (s_T x)) (nI (s_v x)) (fI (s_N x)) (fI y) (fI (s_P x)) (nI (s_nx x)) (nI (s_hr x)) (nI (s_rt x)) (nI (s_tl x)) (nI (s_pd x)) (nI (s_cr x)) (nI (s_sk x)) = toB (st_W x y) := rfl
theorem toB_P (x : Br) (y : (Nat → Nat)) : mkB (nI (s_n x)) (fI (s_L x)) (fI (s_J x)) (fI (s_A x)) (fI (s_K x)) (fI (s_T x)) (nI (s_v x)) (fI (s_N x)) (fI (s_W x)) (fI y) (nI (s_nx x)) (nI (s_hr x)) (nI (s_rt x)) (nI (s_tl x)) (nI (s_pd x)) (nI (s_cr x)) (nI (s_sk x)) = toB (st_P x y) := rfl
theorem toB_nx (x : Br) (y : Nat) : mkB (nI (s_n x)) (fI (s_L x)) (fI (s_J x)) (fI (s_A x)) (fI (s_K x)) (fI (s_T x)) (nI (s_v x)) (fI (s_N x)) (fI (s_W x)) (fI (s_P x)) (nI y) (nI (s_hr x)) (nI (s_rt x)) (nI (s_tl x)) (nI (s_pd x)) (nI (s_cr x)) (nI (s_sk x)) = toB (st_nx x y) := rfl
theorem toB_hr (x : Br) (y : Nat) : mkB (nI (s_n x)) (fI (s_L x)) (fI (s_J x)) (fI (s_A x)) (fI (s_K x)) (fI (s_T x)) (nI (s_v x)) (fI (s_N x)) (fI (s_W x)) (fI (s_P x)) (nI (s_nx x)) (nI y) (nI (s_rt x)) (nI (s_tl x)) (nI (s_pd x)) (nI (s_cr x)) (nI (s_sk x)) = toB (st_hr x y) := rfl
theorem toB_rt (x : Br) (y : Nat) : mkB (nI (s_n x)) (fI (s_L x)) (fI (s_J x)) (fI (s_A x)) (fI (s_K x)) (fI (s_T x)) (nI (s_v x)) (fI (s_N x)) (fI (s_W x)) (fI (s_P x)) (nI (s_nx x)) (nI (s_hr x)) (nI y) (nI (s_tl x)) (nI (s_pd x)) (nI (s_cr x)) (nI (s_sk x)) = toB (st_rt x y) := rfl
theorem toB_tl (x : Br) (y : Nat) : mkB (nI (s_n x)) (fI (s_L x)) (fI (s_J x)) (fI (s_A x)) (fI (s_K x)) (fI (s_T x)) (nI (s_v x)) (fI (s_N x)) (fI (s_W x)) (fI (s_P x)) (nI (s_nx x)) (nI (s_hr x)) (nI (s_rt x)) (nI y) (nI (s_pd x)) (nI (s_cr x)) (nI (s_sk x)) = toB (st_tl x y) := rfl
theorem toB_pd (x : Br) (y : Nat) : mkB (nI (s_n x)) (fI (s_L x)) (fI (s_J x)) (fI (s_A x)) (fI (s_K x)) (fI (s_T x)) (nI (s_v x)) (fI (s_N x)) (fI (s_W x)) (fI (s_P x)) (nI (s_nx x)) (nI (s_hr x)) (nI (s_rt x)) (nI (s_tl x)) (nI y) (nI (s_cr x)) (nI (s_sk x)) = toB (st_pd x y) := rfl
theorem toB_cr (x : Br) (y : Nat) : mkB (nI (s_n x)) (fI (s_L x)) (fI (s_J x)) (fI (s_A x)) (fI (s_K x)) (fI (s_T x)) (nI (s_v x)) (fI (s_N x)) (fI (s_W x)) (fI (s_P x)) (nI (s_nx x)) (nI (s_hr x)) (nI (s_rt x)) (nI (s_tl x)) (nI (s_pd x)) (nI y) (nI (s_sk x)) = toB (st_cr x y) := rfl
theorem toB_sk (x : Br) (y : Nat) : mkB (nI (s_n x)) (fI (s_L x)) (fI (s_J x)) (fI (s_A x)) (fI (s_K x)) (fI (s_T x)) (nI (s_v x)) (fI (s_N x)) (fI (s_W x)) (fI (s_P x)) (nI (s_nx x)) (nI (s_hr x)) (nI (s_rt x)) (nI (s_tl x)) (nI (s_pd x)) (nI (s_cr x)) (nI y) = toB (st_sk x y) := rfl
def cd : List String → Int32 → String → Option Int32
  | [], _, _ => none
  | e :: es, k, x => if x = e then some k else cd es (k + 1) x
theorem cd_1 {e1 x : String} {k : Int32} (h : cd [e1] 1 x = some k) : x = e1 ∧ k = 1 := by
  by_cases c1 : x = e1
  · rw [cd, if_pos c1] at h; exact ⟨c1, (Option.some.inj h).symm⟩
  · rw [cd, if_neg c1] at h; cases h
theorem cd_2 {e1 e2 x : String} {k : Int32} (h : cd [e1, e2] 1 x = some k) : (x = e1 ∧ k = 1) ∨ (x = e2 ∧ k = 2) := by
  by_cases c1 : x = e1
  · rw [cd, if_pos c1] at h; exact Or.inl ⟨c1, (Option.some.inj h).symm⟩
  · rw [cd, if_neg c1] at h
    by_cases c2 : x = e2
    · rw [cd, if_pos c2] at h; exact Or.inr ⟨c2, (Option.some.inj h).symm⟩
    · rw [cd, if_neg c2] at h; cases h
theorem cd_3 {e1 e2 e3 x : String} {k : Int32} (h : cd [e1, e2, e3] 1 x = some k) : (x = e1 ∧ k = 1) ∨ (x = e2 ∧ k = 2) ∨ (x = e3 ∧ k = 3) := by
  by_cases c1 : x = e1
  · rw [cd, if_pos c1] at h; exact Or.inl ⟨c1, (Option.some.inj h).symm⟩
  · rw [cd, if_neg c1] at h
    by_cases c2 : x = e2
    · rw [cd, if_pos c2] at h; exact Or.inr (Or.inl ⟨c2, (Option.some.inj h).symm⟩)
    · rw [cd, if_neg c2] at h
      by_cases c3 : x = e3
      · rw [cd, if_pos c3] at h; exact Or.inr (Or.inr ⟨c3, (Option.some.inj h).symm⟩)
      · rw [cd, if_neg c3] at h; cases h
theorem upd_at (f : Nat → Int32) (k : Nat) (x : Int32) : upd f k x k = x := if_pos rfl
theorem ck_tt {α : Type} (a : Option α) : ck true a = a := rfl
theorem bi_t : bi true = 1 := rfl
theorem bi_f : bi false = 0 := rfl
theorem inb_nI {k n : Nat} (h : k < n) (hn : n < 2 ^ 31) : inb (nI k) n = true := decide_eq_true (nI_in h hn)
theorem nz_nI {k : Nat} (h : 0 < k) (hk : k < 2 ^ 31) : nz (nI k) = true := decide_eq_true (nI_ne0 h hk)
theorem fI_a (f : Nat → Nat) (i : Nat) : fI f i = nI (f i) := rfl
theorem fI_u (f : Nat → Nat) (k x : Nat) : upd (fI f) k (nI x) = fI (uN f k x) := by
  funext j; unfold upd fI uN; by_cases h : j = k <;> simp [h]
theorem uN_s (f : Nat → Nat) (k x : Nat) : uN f k x k = x := by simp [uN]
theorem uN_o (f : Nat → Nat) {k j : Nat} (x : Nat) (h : j ≠ k) : uN f k x j = f j := by simp [uN, h]
theorem imin_nI {a b : Nat} (ha : a < 2 ^ 31) (hb : b < 2 ^ 31) : imin (nI a) (nI b) = nI (min a b) := by
  unfold imin
  by_cases h : b < a
  · rw [if_pos ((nI_ltI hb ha).mpr h), Nat.min_eq_right (by omega)]
  · rw [if_neg (fun z => h ((nI_ltI hb ha).mp z)), Nat.min_eq_left (by omega)]
theorem imax_nI {a b : Nat} (ha : a < 2 ^ 31) (hb : b < 2 ^ 31) : imax (nI a) (nI b) = nI (max a b) := by
  unfold imax
  by_cases h : a < b
  · rw [if_pos ((nI_ltI ha hb).mpr h), Nat.max_eq_right (by omega)]
  · rw [if_neg (fun z => h ((nI_ltI ha hb).mp z)), Nat.max_eq_left (by omega)]
theorem l_0 : (0 : Int32) = nI 0 := rfl
theorem l_1 : (1 : Int32) = nI 1 := rfl
theorem l_2 : (2 : Int32) = nI 2 := rfl
theorem l_3 : (3 : Int32) = nI 3 := rfl
theorem l_4 : (4 : Int32) = nI 4 := rfl
theorem l_5 : (5 : Int32) = nI 5 := rfl
theorem l_6 : (6 : Int32) = nI 6 := rfl
theorem l_7 : (7 : Int32) = nI 7 := rfl
theorem l_8 : (8 : Int32) = nI 8 := rfl
theorem l_9 : (9 : Int32) = nI 9 := rfl
theorem l_10 : (10 : Int32) = nI 10 := rfl
theorem l_20 : (20 : Int32) = nI 20 := rfl
theorem l_24 : (24 : Int32) = nI 24 := rfl
theorem l_47 : (47 : Int32) = nI 47 := rfl
theorem l_48 : (48 : Int32) = nI 48 := rfl
theorem l_50 : (50 : Int32) = nI 50 := rfl
theorem l_57 : (57 : Int32) = nI 57 := rfl
theorem l_58 : (58 : Int32) = nI 58 := rfl
theorem l_59 : (59 : Int32) = nI 59 := rfl
theorem l_60 : (60 : Int32) = nI 60 := rfl
theorem l_61 : (61 : Int32) = nI 61 := rfl
theorem l_83 : (83 : Int32) = nI 83 := rfl
theorem l_93 : (93 : Int32) = nI 93 := rfl
theorem l_99 : (99 : Int32) = nI 99 := rfl
theorem l_200 : (200 : Int32) = nI 200 := rfl
theorem l_581 : (581 : Int32) = nI 581 := rfl
theorem l_664 : (664 : Int32) = nI 664 := rfl
/-! strength, load: their numbers -/
def stN (J A L K : Nat) : Nat := J * min A 24 / L * (10 - K) / 10
def str (S : Br) (k : Nat) : Nat := stN (s_J S k) (s_A S k) (s_L S k) (s_K S k)
def ldU (W P : Nat → Nat) (k : Nat) : Nat → Nat
  | 0 => 0
  | i + 1 => if P i = k then ldU W P k i + W i else ldU W P k i
def ld (S : Br) (k : Nat) : Nat := ldU (s_W S) (s_P S) k (s_v S)
theorem ldU_le {W P : Nat → Nat} {k v : Nat} (h : ∀ j, j < v → W j ≤ 99) : ∀ i, i ≤ v → ldU W P k i ≤ 99 * i := by
  intro i
  induction i with
  | zero => intro _; exact Nat.le_refl _
  | succ i ih =>
    intro hi
    have h1 := ih (by omega)
    have h2 := h i (by omega)
    unfold ldU
    by_cases c : P i = k
    · rw [if_pos c]; omega
    · rw [if_neg c]; omega
theorem stN_le {J A L K : Nat} (hJ : J ≤ 50) : stN J A L K ≤ 1200 ∧ J * min A 24 ≤ 1200 ∧ J * min A 24 / L ≤ 1200 ∧ J * min A 24 / L * (10 - K) ≤ 12000 := by
  have h1 : J * min A 24 ≤ 50 * 24 := Nat.mul_le_mul hJ (Nat.min_le_right _ _)
  have h2 : J * min A 24 / L ≤ 1200 := Nat.le_trans (Nat.div_le_self _ _) h1
  have h3 : J * min A 24 / L * (10 - K) ≤ 1200 * 10 := Nat.mul_le_mul h2 (Nat.sub_le _ _)
  unfold stN
  refine ⟨by omega, h1, h2, h3⟩
/-- what holds of every bridge: H bounds the hours and the numbers -/
def Iv (H : Nat) (S : Br) : Prop :=
  (s_n S ≤ 10 ∧ s_v S ≤ 8 ∧ s_nx S ≤ H ∧ s_hr S ≤ H ∧ s_rt S ≤ 20 ∧ s_cr S + s_sk S + s_v S ≤ s_nx S ∧ s_pd S ≤ 198 * s_cr S ∧ s_tl S ≤ s_pd S ∧ H ≤ 900000) ∧
  (∀ k, k < s_n S → 1 ≤ s_L S k ∧ s_L S k ≤ 20 ∧ s_J S k ≤ 50 ∧ s_A S k ≤ s_hr S ∧ s_K S k ≤ 9 ∧ s_T S k ≤ 2) ∧
  (∀ j, j < s_v S → 1 ≤ s_W S j ∧ s_W S j ≤ 99 ∧ s_P S j < s_n S ∧ s_N S j < s_nx S) ∧
  (∀ j, j + 1 < s_v S → s_N S j < s_N S (j + 1) ∧ s_P S (j + 1) ≤ s_P S j)
theorem Iv.mono {H H1 : Nat} {S : Br} (h : Iv H S) (h1 : H ≤ H1) (h2 : H1 ≤ 900000) : Iv H1 S := by
  obtain ⟨⟨a1, a2, a3, a4, a5, a6, a7, a8, a9⟩, b, c, d⟩ := h
  exact ⟨⟨a1, a2, by omega, by omega, a5, a6, a7, a8, h2⟩, b, c, d⟩
theorem Iv.ldb {H : Nat} {S : Br} (h : Iv H S) (k : Nat) : ld S k ≤ 792 := by
  have h1 := ldU_le (W := s_W S) (P := s_P S) (k := k) (v := s_v S) (fun j hj => (h.2.2.1 j hj).2.1) (s_v S) (Nat.le_refl _)
  have h2 := h.1.2.1
  unfold ld
  omega
theorem Iv.strb {H : Nat} {S : Br} (h : Iv H S) {k : Nat} (hk : k < s_n S) : str S k ≤ 1200 := (stN_le (h.2.1 k hk).2.2.1).1
/-! the class: what reads -/
theorem hs_t {S : Br} {k : Nat} (h : k < s_n S) (hn : s_n S ≤ 10) : F_X0_hasSpan (toB S) (nI k) = some true := by
  unfold F_X0_hasSpan
  simp (disch := omega) only [B_spans_to, B_lengths_to, B_jars_to, B_ages_to, B_cracks_to, B_stresses_to, B_vehicles_to, B_numbers_to, B_weights_to, B_places_to, B_nextNumber_to, B_hour_to, B_rate_to, B_till_to, B_paid_to, B_crossed_to, B_sunk_to, Option.bind_some, ck_tt, inb_nI, nz_nI, fI_a, fI_u, nI_clamp, nI_add, pk_mul, pk_sub, pk_div, nI_ltI, nI_leI, nI_eq, imin_nI, imax_nI, bi_t, bi_f, if_pos, if_neg, l_0, l_1, l_2, l_3, l_4, l_5, l_6, l_7, l_8, l_9, l_10, l_20, l_24, l_47, l_48, l_50, l_57, l_58, l_59, l_60, l_61, l_83, l_93, l_99, l_200, l_581, l_664]
theorem hs_f {S : Br} {p : Int32} (h : p < 0 ∨ nI (s_n S) ≤ p) : F_X0_hasSpan (toB S) p = some false := by
  unfold F_X0_hasSpan
  rw [B_spans_to]
  by_cases c : p < 0
  · rw [if_pos c]
  · rw [if_neg c, if_pos (h.resolve_left c)]
theorem hp_t {S : Br} {k : Nat} (h : k < s_v S) (hn : s_v S ≤ 8) : F_X0_hasPosition (toB S) (nI k) = some true := by
  unfold F_X0_hasPosition
  simp (disch := omega) only [B_spans_to, B_lengths_to, B_jars_to, B_ages_to, B_cracks_to, B_stresses_to, B_vehicles_to, B_numbers_to, B_weights_to, B_places_to, B_nextNumber_to, B_hour_to, B_rate_to, B_till_to, B_paid_to, B_crossed_to, B_sunk_to, Option.bind_some, ck_tt, inb_nI, nz_nI, fI_a, fI_u, nI_clamp, nI_add, pk_mul, pk_sub, pk_div, nI_ltI, nI_leI, nI_eq, imin_nI, imax_nI, bi_t, bi_f, if_pos, if_neg, l_0, l_1, l_2, l_3, l_4, l_5, l_6, l_7, l_8, l_9, l_10, l_20, l_24, l_47, l_48, l_50, l_57, l_58, l_59, l_60, l_61, l_83, l_93, l_99, l_200, l_581, l_664]
theorem c_str {H : Nat} {S : Br} (hI : Iv H S) {k : Nat} (h : k < s_n S) : F_X0_strengthOf (toB S) (nI k) = some (nI (str S k)) := by
  obtain ⟨h1, h2, h3, h4, h5, h6⟩ := hI.2.1 k h
  have hn := hI.1.1
  have hH := hI.1.2.2.2.1
  have hH2 := hI.1.2.2.2.2.2.2.2.2
  obtain ⟨g1, g2, g3, g4⟩ := stN_le (A := s_A S k) (L := s_L S k) (K := s_K S k) h3
  unfold F_X0_strengthOf
  rw [hs_t h hn]
  simp (disch := omega) only [B_spans_to, B_lengths_to, B_jars_to, B_ages_to, B_cracks_to, B_stresses_to, B_vehicles_to, B_numbers_to, B_weights_to, B_places_to, B_nextNumber_to, B_hour_to, B_rate_to, B_till_to, B_paid_to, B_crossed_to, B_sunk_to, Option.bind_some, ck_tt, inb_nI, nz_nI, fI_a, fI_u, nI_clamp, nI_add, pk_mul, pk_sub, pk_div, nI_ltI, nI_leI, nI_eq, imin_nI, imax_nI, bi_t, bi_f, if_pos, if_neg, l_0, l_1, l_2, l_3, l_4, l_5, l_6, l_7, l_8, l_9, l_10, l_20, l_24, l_47, l_48, l_50, l_57, l_58, l_59, l_60, l_61, l_83, l_93, l_99, l_200, l_581, l_664]
  rfl
theorem c_str_f {S : Br} {p : Int32} (h : p < 0 ∨ nI (s_n S) ≤ p) : F_X0_strengthOf (toB S) p = some 0 := by
  unfold F_X0_strengthOf
  rw [hs_f h]
  rfl
theorem c_ld_L {S : Br} {k : Nat} (hv : s_v S ≤ 8) (hk : k < 2 ^ 31) (hP : ∀ j, j < s_v S → s_P S j < 2 ^ 31) (K : Int32 → Int32 → Option Int32) : ∀ (r fu i : Nat), i + r = s_v S → r < fu → F_X0_loadOf_L4 (toB S) (nI k) K fu (nI (ldU (s_W S) (s_P S) k i)) (nI i) = K (nI (ld S k)) (nI (s_v S)) := by
  intro r
  induction r with
  | zero =>
    intro fu i hi hr
    obtain ⟨fu, rfl⟩ : ∃ f2, fu = f2 + 1 := ⟨fu - 1, by omega⟩
    have : i = s_v S := by omega
    subst this
    unfold F_X0_loadOf_L4
    simp (disch := omega) only [B_spans_to, B_lengths_to, B_jars_to, B_ages_to, B_cracks_to, B_stresses_to, B_vehicles_to, B_numbers_to, B_weights_to, B_places_to, B_nextNumber_to, B_hour_to, B_rate_to, B_till_to, B_paid_to, B_crossed_to, B_sunk_to, Option.bind_some, ck_tt, inb_nI, nz_nI, fI_a, fI_u, nI_clamp, nI_add, pk_mul, pk_sub, pk_div, nI_ltI, nI_leI, nI_eq, imin_nI, imax_nI, bi_t, bi_f, if_pos, if_neg, l_0, l_1, l_2, l_3, l_4, l_5, l_6, l_7, l_8, l_9, l_10, l_20, l_24, l_47, l_48, l_50, l_57, l_58, l_59, l_60, l_61, l_83, l_93, l_99, l_200, l_581, l_664]
    rfl
  | succ r ih =>
    intro fu i hi hr
    obtain ⟨fu, rfl⟩ : ∃ f2, fu = f2 + 1 := ⟨fu - 1, by omega⟩
    have hp := hP i (by omega)
    have h9 := ih fu (i + 1) (by omega) (by omega)
    unfold F_X0_loadOf_L4
    by_cases c : s_P S i = k
    · have e : ldU (s_W S) (s_P S) k (i + 1) = ldU (s_W S) (s_P S) k i + s_W S i := by rw [ldU, if_pos c]
      rw [e] at h9
      simp (disch := omega) only [B_spans_to, B_lengths_to, B_jars_to, B_ages_to, B_cracks_to, B_stresses_to, B_vehicles_to, B_numbers_to, B_weights_to, B_places_to, B_nextNumber_to, B_hour_to, B_rate_to, B_till_to, B_paid_to, B_crossed_to, B_sunk_to, Option.bind_some, ck_tt, inb_nI, nz_nI, fI_a, fI_u, nI_clamp, nI_add, pk_mul, pk_sub, pk_div, nI_ltI, nI_leI, nI_eq, imin_nI, imax_nI, bi_t, bi_f, if_pos, if_neg, l_0, l_1, l_2, l_3, l_4, l_5, l_6, l_7, l_8, l_9, l_10, l_20, l_24, l_47, l_48, l_50, l_57, l_58, l_59, l_60, l_61, l_83, l_93, l_99, l_200, l_581, l_664]
      exact h9
    · have e : ldU (s_W S) (s_P S) k (i + 1) = ldU (s_W S) (s_P S) k i := by rw [ldU, if_neg c]
      rw [e] at h9
      simp (disch := omega) only [B_spans_to, B_lengths_to, B_jars_to, B_ages_to, B_cracks_to, B_stresses_to, B_vehicles_to, B_numbers_to, B_weights_to, B_places_to, B_nextNumber_to, B_hour_to, B_rate_to, B_till_to, B_paid_to, B_crossed_to, B_sunk_to, Option.bind_some, ck_tt, inb_nI, nz_nI, fI_a, fI_u, nI_clamp, nI_add, pk_mul, pk_sub, pk_div, nI_ltI, nI_leI, nI_eq, imin_nI, imax_nI, bi_t, bi_f, if_pos, if_neg, l_0, l_1, l_2, l_3, l_4, l_5, l_6, l_7, l_8, l_9, l_10, l_20, l_24, l_47, l_48, l_50, l_57, l_58, l_59, l_60, l_61, l_83, l_93, l_99, l_200, l_581, l_664]
      exact h9
theorem c_ld {H : Nat} {S : Br} (hI : Iv H S) {k : Nat} (hk : k < 2 ^ 31) : F_X0_loadOf (toB S) (nI k) = some (nI (ld S k)) :=
  c_ld_L hI.1.2.1 hk (fun j hj => by have := (hI.2.2.1 j hj).2.2.1; have := hI.1.1; omega) _ (s_v S) 1000 0 (by omega) (by have := hI.1.2.1; omega)
def stn (S : Br) (k : Nat) : Bool := decide (4 * str S k < 5 * ld S k)
theorem c_strains {H : Nat} {S : Br} (hI : Iv H S) {k : Nat} (h : k < s_n S) : F_X0_strains (toB S) (nI k) = some (stn S k) := by
  have h1 := hI.ldb k
  have h2 := hI.strb h
  have hn := hI.1.1
  unfold F_X0_strains
  rw [c_ld hI (by omega), Option.bind_some, c_str hI h, Option.bind_some]
  unfold stn
  by_cases c : 4 * str S k < 5 * ld S k
  · simp (disch := omega) only [Option.bind_some, ck_tt, inb_nI, nz_nI, fI_a, fI_u, nI_clamp, nI_add, pk_mul, pk_sub, pk_div, nI_ltI, nI_leI, nI_eq, imin_nI, imax_nI, bi_t, bi_f, if_pos, if_neg, l_0, l_1, l_2, l_3, l_4, l_5, l_6, l_7, l_8, l_9, l_10, l_20, l_24, l_47, l_48, l_50, l_57, l_58, l_59, l_60, l_61, l_83, l_93, l_99, l_200, l_581, l_664]
    rw [decide_eq_true c]
  · simp (disch := omega) only [Option.bind_some, ck_tt, inb_nI, nz_nI, fI_a, fI_u, nI_clamp, nI_add, pk_mul, pk_sub, pk_div, nI_ltI, nI_leI, nI_eq, imin_nI, imax_nI, bi_t, bi_f, if_pos, if_neg, l_0, l_1, l_2, l_3, l_4, l_5, l_6, l_7, l_8, l_9, l_10, l_20, l_24, l_47, l_48, l_50, l_57, l_58, l_59, l_60, l_61, l_83, l_93, l_99, l_200, l_581, l_664]
    rw [decide_eq_false c]
