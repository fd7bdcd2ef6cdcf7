theorem inX0 : ∀ w ∈ u_ws RX0 TX0 17, w ∈ WW := by
  intro w hw
  obtain ⟨k, hk, rfl⟩ := List.mem_map.mp hw
  have hk := List.mem_range.mp hk
  match k, hk with
  | 0, _ => exact WT_in 84 (by decide +kernel) (by decide +kernel)
  | 1, _ => exact WT_in 86 (by decide +kernel) (by decide +kernel)
  | 2, _ => exact WT_in 88 (by decide +kernel) (by decide +kernel)
  | 3, _ => exact WT_in 90 (by decide +kernel) (by decide +kernel)
  | 4, _ => exact WT_in 92 (by decide +kernel) (by decide +kernel)
  | 5, _ => exact WT_in 94 (by decide +kernel) (by decide +kernel)
  | 6, _ => exact WT_in 96 (by decide +kernel) (by decide +kernel)
  | 7, _ => exact WT_in 98 (by decide +kernel) (by decide +kernel)
  | 8, _ => exact WT_in 100 (by decide +kernel) (by decide +kernel)
  | 9, _ => exact WT_in 102 (by decide +kernel) (by decide +kernel)
  | 10, _ => exact WT_in 104 (by decide +kernel) (by decide +kernel)
  | 11, _ => exact WT_in 106 (by decide +kernel) (by decide +kernel)
  | 12, _ => exact WT_in 108 (by decide +kernel) (by decide +kernel)
  | 13, _ => exact WT_in 110 (by decide +kernel) (by decide +kernel)
  | 14, _ => exact WT_in 112 (by decide +kernel) (by decide +kernel)
  | 15, _ => exact WT_in 114 (by decide +kernel) (by decide +kernel)
  | 16, _ => exact WT_in 116 (by decide +kernel) (by decide +kernel)
  | k + 17, h => exact absurd h (by omega)
theorem inX1 : ∀ w ∈ u_ws RX1 TX1 3, w ∈ WW := by
  intro w hw
  obtain ⟨k, hk, rfl⟩ := List.mem_map.mp hw
  have hk := List.mem_range.mp hk
  match k, hk with
  | 0, _ => exact WT_in 133 (by decide +kernel) (by decide +kernel)
  | 1, _ => exact WT_in 135 (by decide +kernel) (by decide +kernel)
  | 2, _ => exact WT_in 137 (by decide +kernel) (by decide +kernel)
  | k + 3, h => exact absurd h (by omega)
theorem inX2 : ∀ w ∈ u_ws RX2 TX2 2, w ∈ WW := by
  intro w hw
  obtain ⟨k, hk, rfl⟩ := List.mem_map.mp hw
  have hk := List.mem_range.mp hk
  match k, hk with
  | 0, _ => exact WT_in 150 (by decide +kernel) (by decide +kernel)
  | 1, _ => exact WT_in 152 (by decide +kernel) (by decide +kernel)
  | k + 2, h => exact absurd h (by omega)
theorem inX3 : ∀ w ∈ u_ws RX3 TX3 7, w ∈ WW := by
  intro w hw
  obtain ⟨k, hk, rfl⟩ := List.mem_map.mp hw
  have hk := List.mem_range.mp hk
  match k, hk with
  | 0, _ => exact WT_in 174 (by decide +kernel) (by decide +kernel)
  | 1, _ => exact WT_in 176 (by decide +kernel) (by decide +kernel)
  | 2, _ => exact WT_in 178 (by decide +kernel) (by decide +kernel)
  | 3, _ => exact WT_in 180 (by decide +kernel) (by decide +kernel)
  | 4, _ => exact WT_in 182 (by decide +kernel) (by decide +kernel)
  | 5, _ => exact WT_in 184 (by decide +kernel) (by decide +kernel)
  | 6, _ => exact WT_in 186 (by decide +kernel) (by decide +kernel)
  | k + 7, h => exact absurd h (by omega)
theorem inX4 : ∀ w ∈ u_ws RX4 TX4 12, w ∈ WW := by
  intro w hw
  obtain ⟨k, hk, rfl⟩ := List.mem_map.mp hw
  have hk := List.mem_range.mp hk
  match k, hk with
  | 0, _ => exact WT_in 235 (by decide +kernel) (by decide +kernel)
  | 1, _ => exact WT_in 237 (by decide +kernel) (by decide +kernel)
  | 2, _ => exact WT_in 239 (by decide +kernel) (by decide +kernel)
  | 3, _ => exact WT_in 241 (by decide +kernel) (by decide +kernel)
  | 4, _ => exact WT_in 243 (by decide +kernel) (by decide +kernel)
  | 5, _ => exact WT_in 245 (by decide +kernel) (by decide +kernel)
  | 6, _ => exact WT_in 247 (by decide +kernel) (by decide +kernel)
  | 7, _ => exact WT_in 249 (by decide +kernel) (by decide +kernel)
  | 8, _ => exact WT_in 251 (by decide +kernel) (by decide +kernel)
  | 9, _ => exact WT_in 253 (by decide +kernel) (by decide +kernel)
  | 10, _ => exact WT_in 255 (by decide +kernel) (by decide +kernel)
  | 11, _ => exact WT_in 257 (by decide +kernel) (by decide +kernel)
  | k + 12, h => exact absurd h (by omega)
theorem inX5 : ∀ w ∈ u_ws RX5 TX5 23, w ∈ WW := by
  intro w hw
  obtain ⟨k, hk, rfl⟩ := List.mem_map.mp hw
  have hk := List.mem_range.mp hk
  match k, hk with
  | 0, _ => exact WT_in 1334 (by decide +kernel) (by decide +kernel)
  | 1, _ => exact WT_in 1336 (by decide +kernel) (by decide +kernel)
  | 2, _ => exact WT_in 1338 (by decide +kernel) (by decide +kernel)
  | 3, _ => exact WT_in 1340 (by decide +kernel) (by decide +kernel)
  | 4, _ => exact WT_in 1342 (by decide +kernel) (by decide +kernel)
  | 5, _ => exact WT_in 1344 (by decide +kernel) (by decide +kernel)
  | 6, _ => exact WT_in 1346 (by decide +kernel) (by decide +kernel)
  | 7, _ => exact WT_in 1348 (by decide +kernel) (by decide +kernel)
  | 8, _ => exact WT_in 1350 (by decide +kernel) (by decide +kernel)
  | 9, _ => exact WT_in 1352 (by decide +kernel) (by decide +kernel)
  | 10, _ => exact WT_in 1354 (by decide +kernel) (by decide +kernel)
  | 11, _ => exact WT_in 1356 (by decide +kernel) (by decide +kernel)
  | 12, _ => exact WT_in 1358 (by decide +kernel) (by decide +kernel)
  | 13, _ => exact WT_in 1360 (by decide +kernel) (by decide +kernel)
  | 14, _ => exact WT_in 1362 (by decide +kernel) (by decide +kernel)
  | 15, _ => exact WT_in 1364 (by decide +kernel) (by decide +kernel)
  | 16, _ => exact WT_in 1366 (by decide +kernel) (by decide +kernel)
  | 17, _ => exact WT_in 1368 (by decide +kernel) (by decide +kernel)
  | 18, _ => exact WT_in 1370 (by decide +kernel) (by decide +kernel)
  | 19, _ => exact WT_in 1372 (by decide +kernel) (by decide +kernel)
  | 20, _ => exact WT_in 1374 (by decide +kernel) (by decide +kernel)
  | 21, _ => exact WT_in 1376 (by decide +kernel) (by decide +kernel)
  | 22, _ => exact WT_in 1378 (by decide +kernel) (by decide +kernel)
  | k + 23, h => exact absurd h (by omega)
abbrev Bv : Type := Int32 × (Nat → Int32) × (Nat → Int32) × (Nat → Int32) × (Nat → Int32) × (Nat → Int32) × Int32 × (Nat → Int32) × (Nat → Int32) × (Nat → Int32) × Int32 × Int32 × Int32 × Int32 × Int32 × Int32 × Int32
def B_spans (x : Bv) : Int32 := x.1
def B_lengths (x : Bv) : Nat → Int32 := x.2.1
def B_jars (x : Bv) : Nat → Int32 := x.2.2.1
def B_ages (x : Bv) : Nat → Int32 := x.2.2.2.1
def B_cracks (x : Bv) : Nat → Int32 := x.2.2.2.2.1
def B_stresses (x : Bv) : Nat → Int32 := x.2.2.2.2.2.1
def B_vehicles (x : Bv) : Int32 := x.2.2.2.2.2.2.1
def B_numbers (x : Bv) : Nat → Int32 := x.2.2.2.2.2.2.2.1
def B_weights (x : Bv) : Nat → Int32 := x.2.2.2.2.2.2.2.2.1
def B_places (x : Bv) : Nat → Int32 := x.2.2.2.2.2.2.2.2.2.1
def B_nextNumber (x : Bv) : Int32 := x.2.2.2.2.2.2.2.2.2.2.1
def B_hour (x : Bv) : Int32 := x.2.2.2.2.2.2.2.2.2.2.2.1
def B_rate (x : Bv) : Int32 := x.2.2.2.2.2.2.2.2.2.2.2.2.1
def B_till (x : Bv) : Int32 := x.2.2.2.2.2.2.2.2.2.2.2.2.2.1
def B_paid (x : Bv) : Int32 := x.2.2.2.2.2.2.2.2.2.2.2.2.2.2.1
def B_crossed (x : Bv) : Int32 := x.2.2.2.2.2.2.2.2.2.2.2.2.2.2.2.1
def B_sunk (x : Bv) : Int32 := x.2.2.2.2.2.2.2.2.2.2.2.2.2.2.2.2
def mkB (x0 : Int32) (x1 : Nat → Int32) (x2 : Nat → Int32) (x3 : Nat → Int32) (x4 : Nat → Int32) (x5 : Nat → Int32) (x6 : Int32) (x7 : Nat → Int32) (x8 : Nat → Int32) (x9 : Nat → Int32) (x10 : Int32) (x11 : Int32) (x12 : Int32) (x13 : Int32) (x14 : Int32) (x15 : Int32) (x16 : Int32) : Bv := (x0, x1, x2, x3, x4, x5, x6, x7, x8, x9, x10, x11, x12, x13, x14, x15, x16)
def wBc (g : GG) (a : Nat → Nat) (x0 : Int32) (x1 : Nat → Int32) (x2 : Nat → Int32) (x3 : Nat → Int32) (x4 : Nat → Int32) (x5 : Nat → Int32) (x6 : Int32) (x7 : Nat → Int32) (x8 : Nat → Int32) (x9 : Nat → Int32) (x10 : Int32) (x11 : Int32) (x12 : Int32) (x13 : Int32) (x14 : Int32) (x15 : Int32) (x16 : Int32) : va_W := [(a 0, .inr (4, [.int x0, .ref (a 1), .ref (a 2), .ref (a 3), .ref (a 4), .ref (a 5), .int x6, .ref (a 6), .ref (a 7), .ref (a 8), .int x10, .int x11, .int x12, .int x13, .int x14, .int x15, .int x16])), (a 1, .inl (g.2.1 0, 10, .inl x1)), (a 2, .inl (g.2.1 0, 10, .inl x2)), (a 3, .inl (g.2.1 0, 10, .inl x3)), (a 4, .inl (g.2.1 0, 10, .inl x4)), (a 5, .inl (g.2.1 0, 10, .inl x5)), (a 6, .inl (g.2.1 0, 8, .inl x7)), (a 7, .inl (g.2.1 0, 8, .inl x8)), (a 8, .inl (g.2.1 0, 8, .inl x9))]
def wB (g : GG) (a : Nat → Nat) (x : Bv) : va_W := wBc g a (B_spans x) (B_lengths x) (B_jars x) (B_ages x) (B_cracks x) (B_stresses x) (B_vehicles x) (B_numbers x) (B_weights x) (B_places x) (B_nextNumber x) (B_hour x) (B_rate x) (B_till x) (B_paid x) (B_crossed x) (B_sunk x)
theorem B_spans_mk (x0 : Int32) (x1 : Nat → Int32) (x2 : Nat → Int32) (x3 : Nat → Int32) (x4 : Nat → Int32) (x5 : Nat → Int32) (x6 : Int32) (x7 : Nat → Int32) (x8 : Nat → Int32) (x9 : Nat → Int32) (x10 : Int32) (x11 : Int32) (x12 : Int32) (x13 : Int32) (x14 : Int32) (x15 : Int32) (x16 : Int32) : B_spans (mkB x0 x1 x2 x3 x4 x5 x6 x7 x8 x9 x10 x11 x12 x13 x14 x15 x16) = x0 := rfl
theorem B_lengths_mk (x0 : Int32) (x1 : Nat → Int32) (x2 : Nat → Int32) (x3 : Nat → Int32) (x4 : Nat → Int32) (x5 : Nat → Int32) (x6 : Int32) (x7 : Nat → Int32) (x8 : Nat → Int32) (x9 : Nat → Int32) (x10 : Int32) (x11 : Int32) (x12 : Int32) (x13 : Int32) (x14 : Int32) (x15 : Int32) (x16 : Int32) : B_lengths (mkB x0 x1 x2 x3 x4 x5 x6 x7 x8 x9 x10 x11 x12 x13 x14 x15 x16) = x1 := rfl
theorem B_jars_mk (x0 : Int32) (x1 : Nat → Int32) (x2 : Nat → Int32) (x3 : Nat → Int32) (x4 : Nat → Int32) (x5 : Nat → Int32) (x6 : Int32) (x7 : Nat → Int32) (x8 : Nat → Int32) (x9 : Nat → Int32) (x10 : Int32) (x11 : Int32) (x12 : Int32) (x13 : Int32) (x14 : Int32) (x15 : Int32) (x16 : Int32) : B_jars (mkB x0 x1 x2 x3 x4 x5 x6 x7 x8 x9 x10 x11 x12 x13 x14 x15 x16) = x2 := rfl
theorem B_ages_mk (x0 : Int32) (x1 : Nat → Int32) (x2 : Nat → Int32) (x3 : Nat → Int32) (x4 : Nat → Int32) (x5 : Nat → Int32) (x6 : Int32) (x7 : Nat → Int32) (x8 : Nat → Int32) (x9 : Nat → Int32) (x10 : Int32) (x11 : Int32) (x12 : Int32) (x13 : Int32) (x14 : Int32) (x15 : Int32) (x16 : Int32) : B_ages (mkB x0 x1 x2 x3 x4 x5 x6 x7 x8 x9 x10 x11 x12 x13 x14 x15 x16) = x3 := rfl
theorem B_cracks_mk (x0 : Int32) (x1 : Nat → Int32) (x2 : Nat → Int32) (x3 : Nat → Int32) (x4 : Nat → Int32) (x5 : Nat → Int32) (x6 : Int32) (x7 : Nat → Int32) (x8 : Nat → Int32) (x9 : Nat → Int32) (x10 : Int32) (x11 : Int32) (x12 : Int32) (x13 : Int32) (x14 : Int32) (x15 : Int32) (x16 : Int32) : B_cracks (mkB x0 x1 x2 x3 x4 x5 x6 x7 x8 x9 x10 x11 x12 x13 x14 x15 x16) = x4 := rfl
theorem B_stresses_mk (x0 : Int32) (x1 : Nat → Int32) (x2 : Nat → Int32) (x3 : Nat → Int32) (x4 : Nat → Int32) (x5 : Nat → Int32) (x6 : Int32) (x7 : Nat → Int32) (x8 : Nat → Int32) (x9 : Nat → Int32) (x10 : Int32) (x11 : Int32) (x12 : Int32) (x13 : Int32) (x14 : Int32) (x15 : Int32) (x16 : Int32) : B_stresses (mkB x0 x1 x2 x3 x4 x5 x6 x7 x8 x9 x10 x11 x12 x13 x14 x15 x16) = x5 := rfl
theorem B_vehicles_mk (x0 : Int32) (x1 : Nat → Int32) (x2 : Nat → Int32) (x3 : Nat → Int32) (x4 : Nat → Int32) (x5 : Nat → Int32) (x6 : Int32) (x7 : Nat → Int32) (x8 : Nat → Int32) (x9 : Nat → Int32) (x10 : Int32) (x11 : Int32) (x12 : Int32) (x13 : Int32) (x14 : Int32) (x15 : Int32) (x16 : Int32) : B_vehicles (mkB x0 x1 x2 x3 x4 x5 x6 x7 x8 x9 x10 x11 x12 x13 x14 x15 x16) = x6 := rfl
theorem B_numbers_mk (x0 : Int32) (x1 : Nat → Int32) (x2 : Nat → Int32) (x3 : Nat → Int32) (x4 : Nat → Int32) (x5 : Nat → Int32) (x6 : Int32) (x7 : Nat → Int32) (x8 : Nat → Int32) (x9 : Nat → Int32) (x10 : Int32) (x11 : Int32) (x12 : Int32) (x13 : Int32) (x14 : Int32) (x15 : Int32) (x16 : Int32) : B_numbers (mkB x0 x1 x2 x3 x4 x5 x6 x7 x8 x9 x10 x11 x12 x13 x14 x15 x16) = x7 := rfl
theorem B_weights_mk (x0 : Int32) (x1 : Nat → Int32) (x2 : Nat → Int32) (x3 : Nat → Int32) (x4 : Nat → Int32) (x5 : Nat → Int32) (x6 : Int32) (x7 : Nat → Int32) (x8 : Nat → Int32) (x9 : Nat → Int32) (x10 : Int32) (x11 : Int32) (x12 : Int32) (x13 : Int32) (x14 : Int32) (x15 : Int32) (x16 : Int32) : B_weights (mkB x0 x1 x2 x3 x4 x5 x6 x7 x8 x9 x10 x11 x12 x13 x14 x15 x16) = x8 := rfl
theorem B_places_mk (x0 : Int32) (x1 : Nat → Int32) (x2 : Nat → Int32) (x3 : Nat → Int32) (x4 : Nat → Int32) (x5 : Nat → Int32) (x6 : Int32) (x7 : Nat → Int32) (x8 : Nat → Int32) (x9 : Nat → Int32) (x10 : Int32) (x11 : Int32) (x12 : Int32) (x13 : Int32) (x14 : Int32) (x15 : Int32) (x16 : Int32) : B_places (mkB x0 x1 x2 x3 x4 x5 x6 x7 x8 x9 x10 x11 x12 x13 x14 x15 x16) = x9 := rfl
theorem B_nextNumber_mk (x0 : Int32) (x1 : Nat → Int32) (x2 : Nat → Int32) (x3 : Nat → Int32) (x4 : Nat → Int32) (x5 : Nat → Int32) (x6 : Int32) (x7 : Nat → Int32) (x8 : Nat → Int32) (x9 : Nat → Int32) (x10 : Int32) (x11 : Int32) (x12 : Int32) (x13 : Int32) (x14 : Int32) (x15 : Int32) (x16 : Int32) : B_nextNumber (mkB x0 x1 x2 x3 x4 x5 x6 x7 x8 x9 x10 x11 x12 x13 x14 x15 x16) = x10 := rfl
theorem B_hour_mk (x0 : Int32) (x1 : Nat → Int32) (x2 : Nat → Int32) (x3 : Nat → Int32) (x4 : Nat → Int32) (x5 : Nat → Int32) (x6 : Int32) (x7 : Nat → Int32) (x8 : Nat → Int32) (x9 : Nat → Int32) (x10 : Int32) (x11 : Int32) (x12 : Int32) (x13 : Int32) (x14 : Int32) (x15 : Int32) (x16 : Int32) : B_hour (mkB x0 x1 x2 x3 x4 x5 x6 x7 x8 x9 x10 x11 x12 x13 x14 x15 x16) = x11 := rfl
theorem B_rate_mk (x0 : Int32) (x1 : Nat → Int32) (x2 : Nat → Int32) (x3 : Nat → Int32) (x4 : Nat → Int32) (x5 : Nat → Int32) (x6 : Int32) (x7 : Nat → Int32) (x8 : Nat → Int32) (x9 : Nat → Int32) (x10 : Int32) (x11 : Int32) (x12 : Int32) (x13 : Int32) (x14 : Int32) (x15 : Int32) (x16 : Int32) : B_rate (mkB x0 x1 x2 x3 x4 x5 x6 x7 x8 x9 x10 x11 x12 x13 x14 x15 x16) = x12 := rfl
theorem B_till_mk (x0 : Int32) (x1 : Nat → Int32) (x2 : Nat → Int32) (x3 : Nat → Int32) (x4 : Nat → Int32) (x5 : Nat → Int32) (x6 : Int32) (x7 : Nat → Int32) (x8 : Nat → Int32) (x9 : Nat → Int32) (x10 : Int32) (x11 : Int32) (x12 : Int32) (x13 : Int32) (x14 : Int32) (x15 : Int32) (x16 : Int32) : B_till (mkB x0 x1 x2 x3 x4 x5 x6 x7 x8 x9 x10 x11 x12 x13 x14 x15 x16) = x13 := rfl
theorem B_paid_mk (x0 : Int32) (x1 : Nat → Int32) (x2 : Nat → Int32) (x3 : Nat → Int32) (x4 : Nat → Int32) (x5 : Nat → Int32) (x6 : Int32) (x7 : Nat → Int32) (x8 : Nat → Int32) (x9 : Nat → Int32) (x10 : Int32) (x11 : Int32) (x12 : Int32) (x13 : Int32) (x14 : Int32) (x15 : Int32) (x16 : Int32) : B_paid (mkB x0 x1 x2 x3 x4 x5 x6 x7 x8 x9 x10 x11 x12 x13 x14 x15 x16) = x14 := rfl
theorem B_crossed_mk (x0 : Int32) (x1 : Nat → Int32) (x2 : Nat → Int32) (x3 : Nat → Int32) (x4 : Nat → Int32) (x5 : Nat → Int32) (x6 : Int32) (x7 : Nat → Int32) (x8 : Nat → Int32) (x9 : Nat → Int32) (x10 : Int32) (x11 : Int32) (x12 : Int32) (x13 : Int32) (x14 : Int32) (x15 : Int32) (x16 : Int32) : B_crossed (mkB x0 x1 x2 x3 x4 x5 x6 x7 x8 x9 x10 x11 x12 x13 x14 x15 x16) = x15 := rfl
theorem B_sunk_mk (x0 : Int32) (x1 : Nat → Int32) (x2 : Nat → Int32) (x3 : Nat → Int32) (x4 : Nat → Int32) (x5 : Nat → Int32) (x6 : Int32) (x7 : Nat → Int32) (x8 : Nat → Int32) (x9 : Nat → Int32) (x10 : Int32) (x11 : Int32) (x12 : Int32) (x13 : Int32) (x14 : Int32) (x15 : Int32) (x16 : Int32) : B_sunk (mkB x0 x1 x2 x3 x4 x5 x6 x7 x8 x9 x10 x11 x12 x13 x14 x15 x16) = x16 := rfl
abbrev Jv : Type := Int32 × Int32
def J_reason (x : Jv) : Int32 := x.1
def J_detail (x : Jv) : Int32 := x.2
def mkJ (x0 : Int32) (x1 : Int32) : Jv := (x0, x1)
def wJc (g : GG) (a : Nat → Nat) (x0 : Int32) (x1 : Int32) : va_W := [(a 0, .inr (6, [.int x0, .int x1]))]
def wJ (g : GG) (a : Nat → Nat) (x : Jv) : va_W := wJc g a (J_reason x) (J_detail x)
theorem J_reason_mk (x0 : Int32) (x1 : Int32) : J_reason (mkJ x0 x1) = x0 := rfl
theorem J_detail_mk (x0 : Int32) (x1 : Int32) : J_detail (mkJ x0 x1) = x1 := rfl
abbrev Tv : Type := (Nat → Int32) × Int32 × Int32 × (Nat → Int32) × (Nat → Int32) × (Nat → Int32) × Int32
def T_signs (x : Tv) : Nat → Int32 := x.1
def T_length (x : Tv) : Int32 := x.2.1
def T_position (x : Tv) : Int32 := x.2.2.1
def T_kinds (x : Tv) : Nat → Int32 := x.2.2.2.1
def T_firsts (x : Tv) : Nat → Int32 := x.2.2.2.2.1
def T_seconds (x : Tv) : Nat → Int32 := x.2.2.2.2.2.1
def T_commands (x : Tv) : Int32 := x.2.2.2.2.2.2
def mkT (x0 : Nat → Int32) (x1 : Int32) (x2 : Int32) (x3 : Nat → Int32) (x4 : Nat → Int32) (x5 : Nat → Int32) (x6 : Int32) : Tv := (x0, x1, x2, x3, x4, x5, x6)
def wTc (g : GG) (a : Nat → Nat) (x0 : Nat → Int32) (x1 : Int32) (x2 : Int32) (x3 : Nat → Int32) (x4 : Nat → Int32) (x5 : Nat → Int32) (x6 : Int32) : va_W := [(a 0, .inr (7, [.ref (a 1), .int x1, .int x2, .ref (a 2), .ref (a 3), .ref (a 4), .int x6])), (a 1, .inl (g.2.1 1, 60, .inl x0)), (a 2, .inl (g.2.1 0, 60, .inl x3)), (a 3, .inl (g.2.1 0, 60, .inl x4)), (a 4, .inl (g.2.1 0, 60, .inl x5))]
def wT (g : GG) (a : Nat → Nat) (x : Tv) : va_W := wTc g a (T_signs x) (T_length x) (T_position x) (T_kinds x) (T_firsts x) (T_seconds x) (T_commands x)
theorem T_signs_mk (x0 : Nat → Int32) (x1 : Int32) (x2 : Int32) (x3 : Nat → Int32) (x4 : Nat → Int32) (x5 : Nat → Int32) (x6 : Int32) : T_signs (mkT x0 x1 x2 x3 x4 x5 x6) = x0 := rfl
theorem T_length_mk (x0 : Nat → Int32) (x1 : Int32) (x2 : Int32) (x3 : Nat → Int32) (x4 : Nat → Int32) (x5 : Nat → Int32) (x6 : Int32) : T_length (mkT x0 x1 x2 x3 x4 x5 x6) = x1 := rfl
theorem T_position_mk (x0 : Nat → Int32) (x1 : Int32) (x2 : Int32) (x3 : Nat → Int32) (x4 : Nat → Int32) (x5 : Nat → Int32) (x6 : Int32) : T_position (mkT x0 x1 x2 x3 x4 x5 x6) = x2 := rfl
theorem T_kinds_mk (x0 : Nat → Int32) (x1 : Int32) (x2 : Int32) (x3 : Nat → Int32) (x4 : Nat → Int32) (x5 : Nat → Int32) (x6 : Int32) : T_kinds (mkT x0 x1 x2 x3 x4 x5 x6) = x3 := rfl
theorem T_firsts_mk (x0 : Nat → Int32) (x1 : Int32) (x2 : Int32) (x3 : Nat → Int32) (x4 : Nat → Int32) (x5 : Nat → Int32) (x6 : Int32) : T_firsts (mkT x0 x1 x2 x3 x4 x5 x6) = x4 := rfl
theorem T_seconds_mk (x0 : Nat → Int32) (x1 : Int32) (x2 : Int32) (x3 : Nat → Int32) (x4 : Nat → Int32) (x5 : Nat → Int32) (x6 : Int32) : T_seconds (mkT x0 x1 x2 x3 x4 x5 x6) = x5 := rfl
theorem T_commands_mk (x0 : Nat → Int32) (x1 : Int32) (x2 : Int32) (x3 : Nat → Int32) (x4 : Nat → Int32) (x5 : Nat → Int32) (x6 : Int32) : T_commands (mkT x0 x1 x2 x3 x4 x5 x6) = x6 := rfl
abbrev Mv : Type := (Nat → Int32) × (Nat → Int32) × (Nat → Int32) × (Nat → Int32) × (Nat → Int32) × (Nat → Int32) × Int32 × Int32 × Int32 × Int32 × Int32 × Int32 × Int32 × Int32 × (Nat → Int32) × Int32 × Int32 × (Nat → Int32) × Int32 × Int32 × Int32 × (Nat → Int32) × Int32
def M_g (x : Mv) : Nat → Int32 := x.1
def M_kept (x : Mv) : Nat → Int32 := x.2.1
def M_saved (x : Mv) : Nat → Int32 := x.2.2.1
def M_before (x : Mv) : Nat → Int32 := x.2.2.2.1
def M_trial (x : Mv) : Nat → Int32 := x.2.2.2.2.1
def M_counted (x : Mv) : Nat → Int32 := x.2.2.2.2.2.1
def M_isSaved (x : Mv) : Int32 := x.2.2.2.2.2.2.1
def M_changes (x : Mv) : Int32 := x.2.2.2.2.2.2.2.1
def M_isWithin (x : Mv) : Int32 := x.2.2.2.2.2.2.2.2.1
def M_isDenied (x : Mv) : Int32 := x.2.2.2.2.2.2.2.2.2.1
def M_code (x : Mv) : Int32 := x.2.2.2.2.2.2.2.2.2.2.1
def M_why (x : Mv) : Int32 := x.2.2.2.2.2.2.2.2.2.2.2.1
def M_detail (x : Mv) : Int32 := x.2.2.2.2.2.2.2.2.2.2.2.2.1
def M_cause (x : Mv) : Int32 := x.2.2.2.2.2.2.2.2.2.2.2.2.2.1
def M_input (x : Mv) : Nat → Int32 := x.2.2.2.2.2.2.2.2.2.2.2.2.2.2.1
def M_length (x : Mv) : Int32 := x.2.2.2.2.2.2.2.2.2.2.2.2.2.2.2.1
def M_fault (x : Mv) : Int32 := x.2.2.2.2.2.2.2.2.2.2.2.2.2.2.2.2.1
def M_signs (x : Mv) : Nat → Int32 := x.2.2.2.2.2.2.2.2.2.2.2.2.2.2.2.2.2.1
def M_signMany (x : Mv) : Int32 := x.2.2.2.2.2.2.2.2.2.2.2.2.2.2.2.2.2.2.1
def M_lastOver (x : Mv) : Int32 := x.2.2.2.2.2.2.2.2.2.2.2.2.2.2.2.2.2.2.2.1
def M_at (x : Mv) : Int32 := x.2.2.2.2.2.2.2.2.2.2.2.2.2.2.2.2.2.2.2.2.1
def M_told (x : Mv) : Nat → Int32 := x.2.2.2.2.2.2.2.2.2.2.2.2.2.2.2.2.2.2.2.2.2.1
def M_toldMany (x : Mv) : Int32 := x.2.2.2.2.2.2.2.2.2.2.2.2.2.2.2.2.2.2.2.2.2.2
def mkM (x0 : Nat → Int32) (x1 : Nat → Int32) (x2 : Nat → Int32) (x3 : Nat → Int32) (x4 : Nat → Int32) (x5 : Nat → Int32) (x6 : Int32) (x7 : Int32) (x8 : Int32) (x9 : Int32) (x10 : Int32) (x11 : Int32) (x12 : Int32) (x13 : Int32) (x14 : Nat → Int32) (x15 : Int32) (x16 : Int32) (x17 : Nat → Int32) (x18 : Int32) (x19 : Int32) (x20 : Int32) (x21 : Nat → Int32) (x22 : Int32) : Mv := (x0, x1, x2, x3, x4, x5, x6, x7, x8, x9, x10, x11, x12, x13, x14, x15, x16, x17, x18, x19, x20, x21, x22)
def wMc (g : GG) (a : Nat → Nat) (x0 : Nat → Int32) (x1 : Nat → Int32) (x2 : Nat → Int32) (x3 : Nat → Int32) (x4 : Nat → Int32) (x5 : Nat → Int32) (x6 : Int32) (x7 : Int32) (x8 : Int32) (x9 : Int32) (x10 : Int32) (x11 : Int32) (x12 : Int32) (x13 : Int32) (x14 : Nat → Int32) (x15 : Int32) (x16 : Int32) (x17 : Nat → Int32) (x18 : Int32) (x19 : Int32) (x20 : Int32) (x21 : Nat → Int32) (x22 : Int32) : va_W := [(a 0, .inr (9, [.ref (a 1), .ref (a 2), .ref (a 3), .ref (a 4), .ref (a 5), .ref (a 6), .int x6, .int x7, .int x8, .int x9, .int x10, .int x11, .int x12, .int x13, .ref (a 7), .int x15, .int x16, .ref (a 8), .int x18, .int x19, .int x20, .ref (a 9), .int x22])), (a 1, .inl (g.2.1 0, 83, .inl x0)), (a 2, .inl (g.2.1 0, 664, .inl x1)), (a 3, .inl (g.2.1 0, 83, .inl x2)), (a 4, .inl (g.2.1 0, 83, .inl x3)), (a 5, .inl (g.2.1 0, 83, .inl x4)), (a 6, .inl (g.2.1 0, 10, .inl x5)), (a 7, .inl (g.2.1 0, 60, .inl x14)), (a 8, .inl (g.2.1 1, 200, .inl x17)), (a 9, .inl (g.2.1 0, 93, .inl x21))]
def wM (g : GG) (a : Nat → Nat) (x : Mv) : va_W := wMc g a (M_g x) (M_kept x) (M_saved x) (M_before x) (M_trial x) (M_counted x) (M_isSaved x) (M_changes x) (M_isWithin x) (M_isDenied x) (M_code x) (M_why x) (M_detail x) (M_cause x) (M_input x) (M_length x) (M_fault x) (M_signs x) (M_signMany x) (M_lastOver x) (M_at x) (M_told x) (M_toldMany x)
theorem M_g_mk (x0 : Nat → Int32) (x1 : Nat → Int32) (x2 : Nat → Int32) (x3 : Nat → Int32) (x4 : Nat → Int32) (x5 : Nat → Int32) (x6 : Int32) (x7 : Int32) (x8 : Int32) (x9 : Int32) (x10 : Int32) (x11 : Int32) (x12 : Int32) (x13 : Int32) (x14 : Nat → Int32) (x15 : Int32) (x16 : Int32) (x17 : Nat → Int32) (x18 : Int32) (x19 : Int32) (x20 : Int32) (x21 : Nat → Int32) (x22 : Int32) : M_g (mkM x0 x1 x2 x3 x4 x5 x6 x7 x8 x9 x10 x11 x12 x13 x14 x15 x16 x17 x18 x19 x20 x21 x22) = x0 := rfl
theorem M_kept_mk (x0 : Nat → Int32) (x1 : Nat → Int32) (x2 : Nat → Int32) (x3 : Nat → Int32) (x4 : Nat → Int32) (x5 : Nat → Int32) (x6 : Int32) (x7 : Int32) (x8 : Int32) (x9 : Int32) (x10 : Int32) (x11 : Int32) (x12 : Int32) (x13 : Int32) (x14 : Nat → Int32) (x15 : Int32) (x16 : Int32) (x17 : Nat → Int32) (x18 : Int32) (x19 : Int32) (x20 : Int32) (x21 : Nat → Int32) (x22 : Int32) : M_kept (mkM x0 x1 x2 x3 x4 x5 x6 x7 x8 x9 x10 x11 x12 x13 x14 x15 x16 x17 x18 x19 x20 x21 x22) = x1 := rfl
theorem M_saved_mk (x0 : Nat → Int32) (x1 : Nat → Int32) (x2 : Nat → Int32) (x3 : Nat → Int32) (x4 : Nat → Int32) (x5 : Nat → Int32) (x6 : Int32) (x7 : Int32) (x8 : Int32) (x9 : Int32) (x10 : Int32) (x11 : Int32) (x12 : Int32) (x13 : Int32) (x14 : Nat → Int32) (x15 : Int32) (x16 : Int32) (x17 : Nat → Int32) (x18 : Int32) (x19 : Int32) (x20 : Int32) (x21 : Nat → Int32) (x22 : Int32) : M_saved (mkM x0 x1 x2 x3 x4 x5 x6 x7 x8 x9 x10 x11 x12 x13 x14 x15 x16 x17 x18 x19 x20 x21 x22) = x2 := rfl
theorem M_before_mk (x0 : Nat → Int32) (x1 : Nat → Int32) (x2 : Nat → Int32) (x3 : Nat → Int32) (x4 : Nat → Int32) (x5 : Nat → Int32) (x6 : Int32) (x7 : Int32) (x8 : Int32) (x9 : Int32) (x10 : Int32) (x11 : Int32) (x12 : Int32) (x13 : Int32) (x14 : Nat → Int32) (x15 : Int32) (x16 : Int32) (x17 : Nat → Int32) (x18 : Int32) (x19 : Int32) (x20 : Int32) (x21 : Nat → Int32) (x22 : Int32) : M_before (mkM x0 x1 x2 x3 x4 x5 x6 x7 x8 x9 x10 x11 x12 x13 x14 x15 x16 x17 x18 x19 x20 x21 x22) = x3 := rfl
theorem M_trial_mk (x0 : Nat → Int32) (x1 : Nat → Int32) (x2 : Nat → Int32) (x3 : Nat → Int32) (x4 : Nat → Int32) (x5 : Nat → Int32) (x6 : Int32) (x7 : Int32) (x8 : Int32) (x9 : Int32) (x10 : Int32) (x11 : Int32) (x12 : Int32) (x13 : Int32) (x14 : Nat → Int32) (x15 : Int32) (x16 : Int32) (x17 : Nat → Int32) (x18 : Int32) (x19 : Int32) (x20 : Int32) (x21 : Nat → Int32) (x22 : Int32) : M_trial (mkM x0 x1 x2 x3 x4 x5 x6 x7 x8 x9 x10 x11 x12 x13 x14 x15 x16 x17 x18 x19 x20 x21 x22) = x4 := rfl
theorem M_counted_mk (x0 : Nat → Int32) (x1 : Nat → Int32) (x2 : Nat → Int32) (x3 : Nat → Int32) (x4 : Nat → Int32) (x5 : Nat → Int32) (x6 : Int32) (x7 : Int32) (x8 : Int32) (x9 : Int32) (x10 : Int32) (x11 : Int32) (x12 : Int32) (x13 : Int32) (x14 : Nat → Int32) (x15 : Int32) (x16 : Int32) (x17 : Nat → Int32) (x18 : Int32) (x19 : Int32) (x20 : Int32) (x21 : Nat → Int32) (x22 : Int32) : M_counted (mkM x0 x1 x2 x3 x4 x5 x6 x7 x8 x9 x10 x11 x12 x13 x14 x15 x16 x17 x18 x19 x20 x21 x22) = x5 := rfl
theorem M_isSaved_mk (x0 : Nat → Int32) (x1 : Nat → Int32) (x2 : Nat → Int32) (x3 : Nat → Int32) (x4 : Nat → Int32) (x5 : Nat → Int32) (x6 : Int32) (x7 : Int32) (x8 : Int32) (x9 : Int32) (x10 : Int32) (x11 : Int32) (x12 : Int32) (x13 : Int32) (x14 : Nat → Int32) (x15 : Int32) (x16 : Int32) (x17 : Nat → Int32) (x18 : Int32) (x19 : Int32) (x20 : Int32) (x21 : Nat → Int32) (x22 : Int32) : M_isSaved (mkM x0 x1 x2 x3 x4 x5 x6 x7 x8 x9 x10 x11 x12 x13 x14 x15 x16 x17 x18 x19 x20 x21 x22) = x6 := rfl
theorem M_changes_mk (x0 : Nat → Int32) (x1 : Nat → Int32) (x2 : Nat → Int32) (x3 : Nat → Int32) (x4 : Nat → Int32) (x5 : Nat → Int32) (x6 : Int32) (x7 : Int32) (x8 : Int32) (x9 : Int32) (x10 : Int32) (x11 : Int32) (x12 : Int32) (x13 : Int32) (x14 : Nat → Int32) (x15 : Int32) (x16 : Int32) (x17 : Nat → Int32) (x18 : Int32) (x19 : Int32) (x20 : Int32) (x21 : Nat → Int32) (x22 : Int32) : M_changes (mkM x0 x1 x2 x3 x4 x5 x6 x7 x8 x9 x10 x11 x12 x13 x14 x15 x16 x17 x18 x19 x20 x21 x22) = x7 := rfl
theorem M_isWithin_mk (x0 : Nat → Int32) (x1 : Nat → Int32) (x2 : Nat → Int32) (x3 : Nat → Int32) (x4 : Nat → Int32) (x5 : Nat → Int32) (x6 : Int32) (x7 : Int32) (x8 : Int32) (x9 : Int32) (x10 : Int32) (x11 : Int32) (x12 : Int32) (x13 : Int32) (x14 : Nat → Int32) (x15 : Int32) (x16 : Int32) (x17 : Nat → Int32) (x18 : Int32) (x19 : Int32) (x20 : Int32) (x21 : Nat → Int32) (x22 : Int32) : M_isWithin (mkM x0 x1 x2 x3 x4 x5 x6 x7 x8 x9 x10 x11 x12 x13 x14 x15 x16 x17 x18 x19 x20 x21 x22) = x8 := rfl
theorem M_isDenied_mk (x0 : Nat → Int32) (x1 : Nat → Int32) (x2 : Nat → Int32) (x3 : Nat → Int32) (x4 : Nat → Int32) (x5 : Nat → Int32) (x6 : Int32) (x7 : Int32) (x8 : Int32) (x9 : Int32) (x10 : Int32) (x11 : Int32) (x12 : Int32) (x13 : Int32) (x14 : Nat → Int32) (x15 : Int32) (x16 : Int32) (x17 : Nat → Int32) (x18 : Int32) (x19 : Int32) (x20 : Int32) (x21 : Nat → Int32) (x22 : Int32) : M_isDenied (mkM x0 x1 x2 x3 x4 x5 x6 x7 x8 x9 x10 x11 x12 x13 x14 x15 x16 x17 x18 x19 x20 x21 x22) = x9 := rfl
theorem M_code_mk (x0 : Nat → Int32) (x1 : Nat → Int32) (x2 : Nat → Int32) (x3 : Nat → Int32) (x4 : Nat → Int32) (x5 : Nat → Int32) (x6 : Int32) (x7 : Int32) (x8 : Int32) (x9 : Int32) (x10 : Int32) (x11 : Int32) (x12 : Int32) (x13 : Int32) (x14 : Nat → Int32) (x15 : Int32) (x16 : Int32) (x17 : Nat → Int32) (x18 : Int32) (x19 : Int32) (x20 : Int32) (x21 : Nat → Int32) (x22 : Int32) : M_code (mkM x0 x1 x2 x3 x4 x5 x6 x7 x8 x9 x10 x11 x12 x13 x14 x15 x16 x17 x18 x19 x20 x21 x22) = x10 := rfl
theorem M_why_mk (x0 : Nat → Int32) (x1 : Nat → Int32) (x2 : Nat → Int32) (x3 : Nat → Int32) (x4 : Nat → Int32) (x5 : Nat → Int32) (x6 : Int32) (x7 : Int32) (x8 : Int32) (x9 : Int32) (x10 : Int32) (x11 : Int32) (x12 : Int32) (x13 : Int32) (x14 : Nat → Int32) (x15 : Int32) (x16 : Int32) (x17 : Nat → Int32) (x18 : Int32) (x19 : Int32) (x20 : Int32) (x21 : Nat → Int32) (x22 : Int32) : M_why (mkM x0 x1 x2 x3 x4 x5 x6 x7 x8 x9 x10 x11 x12 x13 x14 x15 x16 x17 x18 x19 x20 x21 x22) = x11 := rfl
theorem M_detail_mk (x0 : Nat → Int32) (x1 : Nat → Int32) (x2 : Nat → Int32) (x3 : Nat → Int32) (x4 : Nat → Int32) (x5 : Nat → Int32) (x6 : Int32) (x7 : Int32) (x8 : Int32) (x9 : Int32) (x10 : Int32) (x11 : Int32) (x12 : Int32) (x13 : Int32) (x14 : Nat → Int32) (x15 : Int32) (x16 : Int32) (x17 : Nat → Int32) (x18 : Int32) (x19 : Int32) (x20 : Int32) (x21 : Nat → Int32) (x22 : Int32) : M_detail (mkM x0 x1 x2 x3 x4 x5 x6 x7 x8 x9 x10 x11 x12 x13 x14 x15 x16 x17 x18 x19 x20 x21 x22) = x12 := rfl
theorem M_cause_mk (x0 : Nat → Int32) (x1 : Nat → Int32) (x2 : Nat → Int32) (x3 : Nat → Int32) (x4 : Nat → Int32) (x5 : Nat → Int32) (x6 : Int32) (x7 : Int32) (x8 : Int32) (x9 : Int32) (x10 : Int32) (x11 : Int32) (x12 : Int32) (x13 : Int32) (x14 : Nat → Int32) (x15 : Int32) (x16 : Int32) (x17 : Nat → Int32) (x18 : Int32) (x19 : Int32) (x20 : Int32) (x21 : Nat → Int32) (x22 : Int32) : M_cause (mkM x0 x1 x2 x3 x4 x5 x6 x7 x8 x9 x10 x11 x12 x13 x14 x15 x16 x17 x18 x19 x20 x21 x22) = x13 := rfl
theorem M_input_mk (x0 : Nat → Int32) (x1 : Nat → Int32) (x2 : Nat → Int32) (x3 : Nat → Int32) (x4 : Nat → Int32) (x5 : Nat → Int32) (x6 : Int32) (x7 : Int32) (x8 : Int32) (x9 : Int32) (x10 : Int32) (x11 : Int32) (x12 : Int32) (x13 : Int32) (x14 : Nat → Int32) (x15 : Int32) (x16 : Int32) (x17 : Nat → Int32) (x18 : Int32) (x19 : Int32) (x20 : Int32) (x21 : Nat → Int32) (x22 : Int32) : M_input (mkM x0 x1 x2 x3 x4 x5 x6 x7 x8 x9 x10 x11 x12 x13 x14 x15 x16 x17 x18 x19 x20 x21 x22) = x14 := rfl
theorem M_length_mk (x0 : Nat → Int32) (x1 : Nat → Int32) (x2 : Nat → Int32) (x3 : Nat → Int32) (x4 : Nat → Int32) (x5 : Nat → Int32) (x6 : Int32) (x7 : Int32) (x8 : Int32) (x9 : Int32) (x10 : Int32) (x11 : Int32) (x12 : Int32) (x13 : Int32) (x14 : Nat → Int32) (x15 : Int32) (x16 : Int32) (x17 : Nat → Int32) (x18 : Int32) (x19 : Int32) (x20 : Int32) (x21 : Nat → Int32) (x22 : Int32) : M_length (mkM x0 x1 x2 x3 x4 x5 x6 x7 x8 x9 x10 x11 x12 x13 x14 x15 x16 x17 x18 x19 x20 x21 x22) = x15 := rfl
theorem M_fault_mk (x0 : Nat → Int32) (x1 : Nat → Int32) (x2 : Nat → Int32) (x3 : Nat → Int32) (x4 : Nat → Int32) (x5 : Nat → Int32) (x6 : Int32) (x7 : Int32) (x8 : Int32) (x9 : Int32) (x10 : Int32) (x11 : Int32) (x12 : Int32) (x13 : Int32) (x14 : Nat → Int32) (x15 : Int32) (x16 : Int32) (x17 : Nat → Int32) (x18 : Int32) (x19 : Int32) (x20 : Int32) (x21 : Nat → Int32) (x22 : Int32) : M_fault (mkM x0 x1 x2 x3 x4 x5 x6 x7 x8 x9 x10 x11 x12 x13 x14 x15 x16 x17 x18 x19 x20 x21 x22) = x16 := rfl
theorem M_signs_mk (x0 : Nat → Int32) (x1 : Nat → Int32) (x2 : Nat → Int32) (x3 : Nat → Int32) (x4 : Nat → Int32) (x5 : Nat → Int32) (x6 : Int32) (x7 : Int32) (x8 : Int32) (x9 : Int32) (x10 : Int32) (x11 : Int32) (x12 : Int32) (x13 : Int32) (x14 : Nat → Int32) (x15 : Int32) (x16 : Int32) (x17 : Nat → Int32) (x18 : Int32) (x19 : Int32) (x20 : Int32) (x21 : Nat → Int32) (x22 : Int32) : M_signs (mkM x0 x1 x2 x3 x4 x5 x6 x7 x8 x9 x10 x11 x12 x13 x14 x15 x16 x17 x18 x19 x20 x21 x22) = x17 := rfl
theorem M_signMany_mk (x0 : Nat → Int32) (x1 : Nat → Int32) (x2 : Nat → Int32) (x3 : Nat → Int32) (x4 : Nat → Int32) (x5 : Nat → Int32) (x6 : Int32) (x7 : Int32) (x8 : Int32) (x9 : Int32) (x10 : Int32) (x11 : Int32) (x12 : Int32) (x13 : Int32) (x14 : Nat → Int32) (x15 : Int32) (x16 : Int32) (x17 : Nat → Int32) (x18 : Int32) (x19 : Int32) (x20 : Int32) (x21 : Nat → Int32) (x22 : Int32) : M_signMany (mkM x0 x1 x2 x3 x4 x5 x6 x7 x8 x9 x10 x11 x12 x13 x14 x15 x16 x17 x18 x19 x20 x21 x22) = x18 := rfl
theorem M_lastOver_mk (x0 : Nat → Int32) (x1 : Nat → Int32) (x2 : Nat → Int32) (x3 : Nat → Int32) (x4 : Nat → Int32) (x5 : Nat → Int32) (x6 : Int32) (x7 : Int32) (x8 : Int32) (x9 : Int32) (x10 : Int32) (x11 : Int32) (x12 : Int32) (x13 : Int32) (x14 : Nat → Int32) (x15 : Int32) (x16 : Int32) (x17 : Nat → Int32) (x18 : Int32) (x19 : Int32) (x20 : Int32) (x21 : Nat → Int32) (x22 : Int32) : M_lastOver (mkM x0 x1 x2 x3 x4 x5 x6 x7 x8 x9 x10 x11 x12 x13 x14 x15 x16 x17 x18 x19 x20 x21 x22) = x19 := rfl
theorem M_at_mk (x0 : Nat → Int32) (x1 : Nat → Int32) (x2 : Nat → Int32) (x3 : Nat → Int32) (x4 : Nat → Int32) (x5 : Nat → Int32) (x6 : Int32) (x7 : Int32) (x8 : Int32) (x9 : Int32) (x10 : Int32) (x11 : Int32) (x12 : Int32) (x13 : Int32) (x14 : Nat → Int32) (x15 : Int32) (x16 : Int32) (x17 : Nat → Int32) (x18 : Int32) (x19 : Int32) (x20 : Int32) (x21 : Nat → Int32) (x22 : Int32) : M_at (mkM x0 x1 x2 x3 x4 x5 x6 x7 x8 x9 x10 x11 x12 x13 x14 x15 x16 x17 x18 x19 x20 x21 x22) = x20 := rfl
theorem M_told_mk (x0 : Nat → Int32) (x1 : Nat → Int32) (x2 : Nat → Int32) (x3 : Nat → Int32) (x4 : Nat → Int32) (x5 : Nat → Int32) (x6 : Int32) (x7 : Int32) (x8 : Int32) (x9 : Int32) (x10 : Int32) (x11 : Int32) (x12 : Int32) (x13 : Int32) (x14 : Nat → Int32) (x15 : Int32) (x16 : Int32) (x17 : Nat → Int32) (x18 : Int32) (x19 : Int32) (x20 : Int32) (x21 : Nat → Int32) (x22 : Int32) : M_told (mkM x0 x1 x2 x3 x4 x5 x6 x7 x8 x9 x10 x11 x12 x13 x14 x15 x16 x17 x18 x19 x20 x21 x22) = x21 := rfl
theorem M_toldMany_mk (x0 : Nat → Int32) (x1 : Nat → Int32) (x2 : Nat → Int32) (x3 : Nat → Int32) (x4 : Nat → Int32) (x5 : Nat → Int32) (x6 : Int32) (x7 : Int32) (x8 : Int32) (x9 : Int32) (x10 : Int32) (x11 : Int32) (x12 : Int32) (x13 : Int32) (x14 : Nat → Int32) (x15 : Int32) (x16 : Int32) (x17 : Nat → Int32) (x18 : Int32) (x19 : Int32) (x20 : Int32) (x21 : Nat → Int32) (x22 : Int32) : M_toldMany (mkM x0 x1 x2 x3 x4 x5 x6 x7 x8 x9 x10 x11 x12 x13 x14 x15 x16 x17 x18 x19 x20 x21 x22) = x22 := rfl
abbrev Xv : Type := Int32 × Int32 × Int32 × Int32 × Int32
def X_snapshotSaved (x : Xv) : Int32 := x.1
def X_faultKept (x : Xv) : Int32 := x.2.1
def X_deniedNumber (x : Xv) : Int32 := x.2.2.1
def X_deniedDetail (x : Xv) : Int32 := x.2.2.2.1
def X_deniedCause (x : Xv) : Int32 := x.2.2.2.2
def mkX (x0 : Int32) (x1 : Int32) (x2 : Int32) (x3 : Int32) (x4 : Int32) : Xv := (x0, x1, x2, x3, x4)
def wXc (g : GG) (a a1 a2 a3 a4 a5 a6 a7 : Nat → Nat) (x0 : Int32) (x1 : Int32) (x2 : Int32) (x3 : Int32) (x4 : Int32) : va_W := [(a 0, .inr (8, [.ref (a1 0), .ref (a2 0), .ref (a3 0), .ref (a4 0), .ref (a5 0), .ref (a6 0), .ref (a7 0), .int x0, .int x1, .int x2, .int x3, .int x4]))]
def wX (g : GG) (a a1 a2 a3 a4 a5 a6 a7 : Nat → Nat) (x : Xv) : va_W := wXc g a a1 a2 a3 a4 a5 a6 a7 (X_snapshotSaved x) (X_faultKept x) (X_deniedNumber x) (X_deniedDetail x) (X_deniedCause x)
abbrev Hv : Type := Int32 × Int32 × (Nat → Bv)
def H_newest (x : Hv) : Int32 := x.1
def H_count (x : Hv) : Int32 := x.2.1
def H_st (x : Hv) : Nat → Bv := x.2.2
def mkH (x0 : Int32) (x1 : Int32) (x2 : Nat → Bv) : Hv := (x0, x1, x2)
def wHb (g : GG) (a : Nat → Nat) (i : Nat) (b : Bv) : va_W := wB g (fun k => a (2 + 9 * i + k)) b
def wH0 (g : GG) (a : Nat → Nat) (x0 x1 : Int32) : va_W := [(a 0, .inr (5, [.ref (a 1), .int x0, .int x1])), (a 1, .inl (g.2.1 3, 8, .inr (.inr (.inr (.inr fun i => some (a (2 + 9 * i)))))))]
def wHc (g : GG) (a : Nat → Nat) (x0 x1 : Int32) (x2 : Nat → Bv) : va_W := [wH0 g a x0 x1, wHb g a 0 (x2 0), wHb g a 1 (x2 1), wHb g a 2 (x2 2), wHb g a 3 (x2 3), wHb g a 4 (x2 4), wHb g a 5 (x2 5), wHb g a 6 (x2 6), wHb g a 7 (x2 7)].flatten
def wH (g : GG) (a : Nat → Nat) (x : Hv) : va_W := wHc g a (H_newest x) (H_count x) (H_st x)
abbrev Av : Type := Nat → Int32
def nn64 (r : UInt64) : Bool := decide (r &&& 0x7fffffffffffffff ≤ 0x7ff0000000000000)
def nn32 (r : UInt32) : Bool := decide (r &&& 0x7fffffff ≤ 0x7f800000)
theorem nn64_ne {r : UInt64} (h : nn64 r = true) : vf_n64 r := (of_decide_eq_true h : r &&& 0x7fffffffffffffff ≤ 0x7ff0000000000000)
theorem nn32_ne {r : UInt32} (h : nn32 r = true) : vf_n32 r := (of_decide_eq_true h : r &&& 0x7fffffff ≤ 0x7f800000)
