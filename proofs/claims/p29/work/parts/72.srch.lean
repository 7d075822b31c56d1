/-! The class's search: what it reads and writes. -/
section CSB
variable {C : Nat} {V : mr_R} {PR PZ X : Nat → mr_R} {σ : ri_S} {K : Int}
theorem r140_315 {i : Int} (h1 : 0 ≤ i) (h2 : i < 15) : cal 140 [.ref (C + 315), .int (Int32.ofInt i)] (cs C V PR PZ X σ) = some (some (.int (Int32.ofInt (X 2 i))), cs C V PR PZ X σ) := c140 csx_315 h1 (by omega) (by omega)
theorem w141_315 {i v : Int} (h1 : 0 ≤ i) (h2 : i < 15) : cal 141 [.ref (C + 315), .int (Int32.ofInt i), .int (Int32.ofInt v)] (cs C V PR PZ X σ) = some (none, cs C V PR PZ (ms_a X 2 (mr_st (X 2) i v)) σ) := by rw [c141 csx_315 h1 (by omega) (by omega), csa_315]
theorem w229_315 {v : Int} : cal 229 [.ref (C + 315), .int (Int32.ofInt v)] (cs C V PR PZ X σ) = some (none, cs C V PR PZ (ms_a X 2 (mc_fl (X 2) 15 v)) σ) := by
  have e := c229 (a := C + 315) (v := v) (σ := cs C V PR PZ X σ) csx_315 (by omega)
  rw [show ma (C + 315) 15 (mc_fl (X 2) (15 : Nat) v) (cs C V PR PZ X σ) = cs C V PR PZ (ms_a X 2 (mc_fl (X 2) (15 : Nat) v)) σ from csa_315] at e
  exact e
theorem r140_316 {i : Int} (h1 : 0 ≤ i) (h2 : i < 15) : cal 140 [.ref (C + 316), .int (Int32.ofInt i)] (cs C V PR PZ X σ) = some (some (.int (Int32.ofInt (X 3 i))), cs C V PR PZ X σ) := c140 csx_316 h1 (by omega) (by omega)
theorem w141_316 {i v : Int} (h1 : 0 ≤ i) (h2 : i < 15) : cal 141 [.ref (C + 316), .int (Int32.ofInt i), .int (Int32.ofInt v)] (cs C V PR PZ X σ) = some (none, cs C V PR PZ (ms_a X 3 (mr_st (X 3) i v)) σ) := by rw [c141 csx_316 h1 (by omega) (by omega), csa_316]
theorem w229_316 {v : Int} : cal 229 [.ref (C + 316), .int (Int32.ofInt v)] (cs C V PR PZ X σ) = some (none, cs C V PR PZ (ms_a X 3 (mc_fl (X 3) 15 v)) σ) := by
  have e := c229 (a := C + 316) (v := v) (σ := cs C V PR PZ X σ) csx_316 (by omega)
  rw [show ma (C + 316) 15 (mc_fl (X 3) (15 : Nat) v) (cs C V PR PZ X σ) = cs C V PR PZ (ms_a X 3 (mc_fl (X 3) (15 : Nat) v)) σ from csa_316] at e
  exact e
theorem r140_317 {i : Int} (h1 : 0 ≤ i) (h2 : i < 15) : cal 140 [.ref (C + 317), .int (Int32.ofInt i)] (cs C V PR PZ X σ) = some (some (.int (Int32.ofInt (X 4 i))), cs C V PR PZ X σ) := c140 csx_317 h1 (by omega) (by omega)
theorem w141_317 {i v : Int} (h1 : 0 ≤ i) (h2 : i < 15) : cal 141 [.ref (C + 317), .int (Int32.ofInt i), .int (Int32.ofInt v)] (cs C V PR PZ X σ) = some (none, cs C V PR PZ (ms_a X 4 (mr_st (X 4) i v)) σ) := by rw [c141 csx_317 h1 (by omega) (by omega), csa_317]
theorem w229_317 {v : Int} : cal 229 [.ref (C + 317), .int (Int32.ofInt v)] (cs C V PR PZ X σ) = some (none, cs C V PR PZ (ms_a X 4 (mc_fl (X 4) 15 v)) σ) := by
  have e := c229 (a := C + 317) (v := v) (σ := cs C V PR PZ X σ) csx_317 (by omega)
  rw [show ma (C + 317) 15 (mc_fl (X 4) (15 : Nat) v) (cs C V PR PZ X σ) = cs C V PR PZ (ms_a X 4 (mc_fl (X 4) (15 : Nat) v)) σ from csa_317] at e
  exact e
theorem r140_318 {i : Int} (h1 : 0 ≤ i) (h2 : i < 1875) : cal 140 [.ref (C + 318), .int (Int32.ofInt i)] (cs C V PR PZ X σ) = some (some (.int (Int32.ofInt (X 5 i))), cs C V PR PZ X σ) := c140 csx_318 h1 (by omega) (by omega)
theorem w141_318 {i v : Int} (h1 : 0 ≤ i) (h2 : i < 1875) : cal 141 [.ref (C + 318), .int (Int32.ofInt i), .int (Int32.ofInt v)] (cs C V PR PZ X σ) = some (none, cs C V PR PZ (ms_a X 5 (mr_st (X 5) i v)) σ) := by rw [c141 csx_318 h1 (by omega) (by omega), csa_318]
theorem w229_318 {v : Int} : cal 229 [.ref (C + 318), .int (Int32.ofInt v)] (cs C V PR PZ X σ) = some (none, cs C V PR PZ (ms_a X 5 (mc_fl (X 5) 1875 v)) σ) := by
  have e := c229 (a := C + 318) (v := v) (σ := cs C V PR PZ X σ) csx_318 (by omega)
  rw [show ma (C + 318) 1875 (mc_fl (X 5) (1875 : Nat) v) (cs C V PR PZ X σ) = cs C V PR PZ (ms_a X 5 (mc_fl (X 5) (1875 : Nat) v)) σ from csa_318] at e
  exact e
theorem r140_319 {i : Int} (h1 : 0 ≤ i) (h2 : i < 150) : cal 140 [.ref (C + 319), .int (Int32.ofInt i)] (cs C V PR PZ X σ) = some (some (.int (Int32.ofInt (X 6 i))), cs C V PR PZ X σ) := c140 csx_319 h1 (by omega) (by omega)
theorem w141_319 {i v : Int} (h1 : 0 ≤ i) (h2 : i < 150) : cal 141 [.ref (C + 319), .int (Int32.ofInt i), .int (Int32.ofInt v)] (cs C V PR PZ X σ) = some (none, cs C V PR PZ (ms_a X 6 (mr_st (X 6) i v)) σ) := by rw [c141 csx_319 h1 (by omega) (by omega), csa_319]
theorem w229_319 {v : Int} : cal 229 [.ref (C + 319), .int (Int32.ofInt v)] (cs C V PR PZ X σ) = some (none, cs C V PR PZ (ms_a X 6 (mc_fl (X 6) 150 v)) σ) := by
  have e := c229 (a := C + 319) (v := v) (σ := cs C V PR PZ X σ) csx_319 (by omega)
  rw [show ma (C + 319) 150 (mc_fl (X 6) (150 : Nat) v) (cs C V PR PZ X σ) = cs C V PR PZ (ms_a X 6 (mc_fl (X 6) (150 : Nat) v)) σ from csa_319] at e
  exact e
theorem r140_320 {i : Int} (h1 : 0 ≤ i) (h2 : i < 15) : cal 140 [.ref (C + 320), .int (Int32.ofInt i)] (cs C V PR PZ X σ) = some (some (.int (Int32.ofInt (X 7 i))), cs C V PR PZ X σ) := c140 csx_320 h1 (by omega) (by omega)
theorem w141_320 {i v : Int} (h1 : 0 ≤ i) (h2 : i < 15) : cal 141 [.ref (C + 320), .int (Int32.ofInt i), .int (Int32.ofInt v)] (cs C V PR PZ X σ) = some (none, cs C V PR PZ (ms_a X 7 (mr_st (X 7) i v)) σ) := by rw [c141 csx_320 h1 (by omega) (by omega), csa_320]
theorem w229_320 {v : Int} : cal 229 [.ref (C + 320), .int (Int32.ofInt v)] (cs C V PR PZ X σ) = some (none, cs C V PR PZ (ms_a X 7 (mc_fl (X 7) 15 v)) σ) := by
  have e := c229 (a := C + 320) (v := v) (σ := cs C V PR PZ X σ) csx_320 (by omega)
  rw [show ma (C + 320) 15 (mc_fl (X 7) (15 : Nat) v) (cs C V PR PZ X σ) = cs C V PR PZ (ms_a X 7 (mc_fl (X 7) (15 : Nat) v)) σ from csa_320] at e
  exact e
theorem r140_321 {i : Int} (h1 : 0 ≤ i) (h2 : i < 1875) : cal 140 [.ref (C + 321), .int (Int32.ofInt i)] (cs C V PR PZ X σ) = some (some (.int (Int32.ofInt (X 8 i))), cs C V PR PZ X σ) := c140 csx_321 h1 (by omega) (by omega)
theorem w141_321 {i v : Int} (h1 : 0 ≤ i) (h2 : i < 1875) : cal 141 [.ref (C + 321), .int (Int32.ofInt i), .int (Int32.ofInt v)] (cs C V PR PZ X σ) = some (none, cs C V PR PZ (ms_a X 8 (mr_st (X 8) i v)) σ) := by rw [c141 csx_321 h1 (by omega) (by omega), csa_321]
theorem w229_321 {v : Int} : cal 229 [.ref (C + 321), .int (Int32.ofInt v)] (cs C V PR PZ X σ) = some (none, cs C V PR PZ (ms_a X 8 (mc_fl (X 8) 1875 v)) σ) := by
  have e := c229 (a := C + 321) (v := v) (σ := cs C V PR PZ X σ) csx_321 (by omega)
  rw [show ma (C + 321) 1875 (mc_fl (X 8) (1875 : Nat) v) (cs C V PR PZ X σ) = cs C V PR PZ (ms_a X 8 (mc_fl (X 8) (1875 : Nat) v)) σ from csa_321] at e
  exact e
theorem r140_322 {i : Int} (h1 : 0 ≤ i) (h2 : i < 1875) : cal 140 [.ref (C + 322), .int (Int32.ofInt i)] (cs C V PR PZ X σ) = some (some (.int (Int32.ofInt (X 9 i))), cs C V PR PZ X σ) := c140 csx_322 h1 (by omega) (by omega)
theorem w141_322 {i v : Int} (h1 : 0 ≤ i) (h2 : i < 1875) : cal 141 [.ref (C + 322), .int (Int32.ofInt i), .int (Int32.ofInt v)] (cs C V PR PZ X σ) = some (none, cs C V PR PZ (ms_a X 9 (mr_st (X 9) i v)) σ) := by rw [c141 csx_322 h1 (by omega) (by omega), csa_322]
theorem w229_322 {v : Int} : cal 229 [.ref (C + 322), .int (Int32.ofInt v)] (cs C V PR PZ X σ) = some (none, cs C V PR PZ (ms_a X 9 (mc_fl (X 9) 1875 v)) σ) := by
  have e := c229 (a := C + 322) (v := v) (σ := cs C V PR PZ X σ) csx_322 (by omega)
  rw [show ma (C + 322) 1875 (mc_fl (X 9) (1875 : Nat) v) (cs C V PR PZ X σ) = cs C V PR PZ (ms_a X 9 (mc_fl (X 9) (1875 : Nat) v)) σ from csa_322] at e
  exact e
theorem r140_323 {i : Int} (h1 : 0 ≤ i) (h2 : i < 15) : cal 140 [.ref (C + 323), .int (Int32.ofInt i)] (cs C V PR PZ X σ) = some (some (.int (Int32.ofInt (X 10 i))), cs C V PR PZ X σ) := c140 csx_323 h1 (by omega) (by omega)
theorem w141_323 {i v : Int} (h1 : 0 ≤ i) (h2 : i < 15) : cal 141 [.ref (C + 323), .int (Int32.ofInt i), .int (Int32.ofInt v)] (cs C V PR PZ X σ) = some (none, cs C V PR PZ (ms_a X 10 (mr_st (X 10) i v)) σ) := by rw [c141 csx_323 h1 (by omega) (by omega), csa_323]
theorem w229_323 {v : Int} : cal 229 [.ref (C + 323), .int (Int32.ofInt v)] (cs C V PR PZ X σ) = some (none, cs C V PR PZ (ms_a X 10 (mc_fl (X 10) 15 v)) σ) := by
  have e := c229 (a := C + 323) (v := v) (σ := cs C V PR PZ X σ) csx_323 (by omega)
  rw [show ma (C + 323) 15 (mc_fl (X 10) (15 : Nat) v) (cs C V PR PZ X σ) = cs C V PR PZ (ms_a X 10 (mc_fl (X 10) (15 : Nat) v)) σ from csa_323] at e
  exact e
theorem s140_2 {i : Int} (h1 : 0 ≤ i) (h2 : i < 3) : cal 140 [.ref (C + 3 + 2), .int (Int32.ofInt i)] (cs C V PR PZ X σ) = some (some (.int (Int32.ofInt (mp_w (PR 0) (PZ 0) 0 i))), cs C V PR PZ X σ) := by
  have e := q140_2 (B := C + 3) (R := PR 0) (Z := PZ 0) (σ := cs C V PR PZ X σ) h1 h2
  rw [cm_0] at e
  exact e
theorem s140_3 {i : Int} (h1 : 0 ≤ i) (h2 : i < 3) : cal 140 [.ref (C + 3 + 3), .int (Int32.ofInt i)] (cs C V PR PZ X σ) = some (some (.int (Int32.ofInt (mp_w (PR 0) (PZ 0) 1 i))), cs C V PR PZ X σ) := by
  have e := q140_3 (B := C + 3) (R := PR 0) (Z := PZ 0) (σ := cs C V PR PZ X σ) h1 h2
  rw [cm_0] at e
  exact e
theorem s140_4 {i : Int} (h1 : 0 ≤ i) (h2 : i < 3) : cal 140 [.ref (C + 3 + 4), .int (Int32.ofInt i)] (cs C V PR PZ X σ) = some (some (.int (Int32.ofInt (mp_w (PR 0) (PZ 0) 2 i))), cs C V PR PZ X σ) := by
  have e := q140_4 (B := C + 3) (R := PR 0) (Z := PZ 0) (σ := cs C V PR PZ X σ) h1 h2
  rw [cm_0] at e
  exact e
theorem s140_5 {i : Int} (h1 : 0 ≤ i) (h2 : i < 3) : cal 140 [.ref (C + 3 + 5), .int (Int32.ofInt i)] (cs C V PR PZ X σ) = some (some (.int (Int32.ofInt (mp_w (PR 0) (PZ 0) 3 i))), cs C V PR PZ X σ) := by
  have e := q140_5 (B := C + 3) (R := PR 0) (Z := PZ 0) (σ := cs C V PR PZ X σ) h1 h2
  rw [cm_0] at e
  exact e
theorem s140_6 {i : Int} (h1 : 0 ≤ i) (h2 : i < 3) : cal 140 [.ref (C + 3 + 6), .int (Int32.ofInt i)] (cs C V PR PZ X σ) = some (some (.int (Int32.ofInt (mp_w (PR 0) (PZ 0) 4 i))), cs C V PR PZ X σ) := by
  have e := q140_6 (B := C + 3) (R := PR 0) (Z := PZ 0) (σ := cs C V PR PZ X σ) h1 h2
  rw [cm_0] at e
  exact e
theorem s140_7 {i : Int} (h1 : 0 ≤ i) (h2 : i < 15) : cal 140 [.ref (C + 3 + 7), .int (Int32.ofInt i)] (cs C V PR PZ X σ) = some (some (.int (Int32.ofInt (mp_y (PR 0) (PZ 0) i))), cs C V PR PZ X σ) := by
  have e := q140_7 (B := C + 3) (R := PR 0) (Z := PZ 0) (σ := cs C V PR PZ X σ) h1 h2
  rw [cm_0] at e
  exact e
theorem s140_9 {i : Int} (h1 : 0 ≤ i) (h2 : i < 8) : cal 140 [.ref (C + 3 + 9), .int (Int32.ofInt i)] (cs C V PR PZ X σ) = some (some (.int (Int32.ofInt (mp_l (PR 0) (PZ 0) 0 i))), cs C V PR PZ X σ) := by
  have e := q140_9 (B := C + 3) (R := PR 0) (Z := PZ 0) (σ := cs C V PR PZ X σ) h1 h2
  rw [cm_0] at e
  exact e
theorem s140_10 {i : Int} (h1 : 0 ≤ i) (h2 : i < 8) : cal 140 [.ref (C + 3 + 10), .int (Int32.ofInt i)] (cs C V PR PZ X σ) = some (some (.int (Int32.ofInt (mp_l (PR 0) (PZ 0) 2 i))), cs C V PR PZ X σ) := by
  have e := q140_10 (B := C + 3) (R := PR 0) (Z := PZ 0) (σ := cs C V PR PZ X σ) h1 h2
  rw [cm_0] at e
  exact e
theorem s140_12 {i : Int} (h1 : 0 ≤ i) (h2 : i < 5) : cal 140 [.ref (C + 3 + 12), .int (Int32.ofInt i)] (cs C V PR PZ X σ) = some (some (.int (Int32.ofInt (mp_f (PR 0) (PZ 0) 0 i))), cs C V PR PZ X σ) := by
  have e := q140_12 (B := C + 3) (R := PR 0) (Z := PZ 0) (σ := cs C V PR PZ X σ) h1 h2
  rw [cm_0] at e
  exact e
theorem s140_13 {i : Int} (h1 : 0 ≤ i) (h2 : i < 5) : cal 140 [.ref (C + 3 + 13), .int (Int32.ofInt i)] (cs C V PR PZ X σ) = some (some (.int (Int32.ofInt (mp_f (PR 0) (PZ 0) 1 i))), cs C V PR PZ X σ) := by
  have e := q140_13 (B := C + 3) (R := PR 0) (Z := PZ 0) (σ := cs C V PR PZ X σ) h1 h2
  rw [cm_0] at e
  exact e
theorem s140_14 {i : Int} (h1 : 0 ≤ i) (h2 : i < 5) : cal 140 [.ref (C + 3 + 14), .int (Int32.ofInt i)] (cs C V PR PZ X σ) = some (some (.int (Int32.ofInt (mp_f (PR 0) (PZ 0) 2 i))), cs C V PR PZ X σ) := by
  have e := q140_14 (B := C + 3) (R := PR 0) (Z := PZ 0) (σ := cs C V PR PZ X σ) h1 h2
  rw [cm_0] at e
  exact e
theorem spo_1_0 {K : Value → Option ri_R} : tv_o 7 0 ((cs C V PR PZ X σ).1 (C + 3 + 1)) K = K (.int (Int32.ofInt (PR 0 0))) := by
  have e := mpo_1_0 (B := C + 3) (R := PR 0) (Z := PZ 0) (σ := cs C V PR PZ X σ) (K := K)
  rw [cm_0] at e
  exact e
theorem spo_1_1 {K : Value → Option ri_R} : tv_o 7 1 ((cs C V PR PZ X σ).1 (C + 3 + 1)) K = K (.ref (C + 3 + 2)) := by
  have e := mpo_1_1 (B := C + 3) (R := PR 0) (Z := PZ 0) (σ := cs C V PR PZ X σ) (K := K)
  rw [cm_0] at e
  exact e
theorem spo_1_2 {K : Value → Option ri_R} : tv_o 7 2 ((cs C V PR PZ X σ).1 (C + 3 + 1)) K = K (.ref (C + 3 + 3)) := by
  have e := mpo_1_2 (B := C + 3) (R := PR 0) (Z := PZ 0) (σ := cs C V PR PZ X σ) (K := K)
  rw [cm_0] at e
  exact e
theorem spo_1_3 {K : Value → Option ri_R} : tv_o 7 3 ((cs C V PR PZ X σ).1 (C + 3 + 1)) K = K (.ref (C + 3 + 4)) := by
  have e := mpo_1_3 (B := C + 3) (R := PR 0) (Z := PZ 0) (σ := cs C V PR PZ X σ) (K := K)
  rw [cm_0] at e
  exact e
theorem spo_1_4 {K : Value → Option ri_R} : tv_o 7 4 ((cs C V PR PZ X σ).1 (C + 3 + 1)) K = K (.ref (C + 3 + 5)) := by
  have e := mpo_1_4 (B := C + 3) (R := PR 0) (Z := PZ 0) (σ := cs C V PR PZ X σ) (K := K)
  rw [cm_0] at e
  exact e
theorem spo_1_5 {K : Value → Option ri_R} : tv_o 7 5 ((cs C V PR PZ X σ).1 (C + 3 + 1)) K = K (.ref (C + 3 + 6)) := by
  have e := mpo_1_5 (B := C + 3) (R := PR 0) (Z := PZ 0) (σ := cs C V PR PZ X σ) (K := K)
  rw [cm_0] at e
  exact e
theorem spo_1_6 {K : Value → Option ri_R} : tv_o 7 6 ((cs C V PR PZ X σ).1 (C + 3 + 1)) K = K (.ref (C + 3 + 7)) := by
  have e := mpo_1_6 (B := C + 3) (R := PR 0) (Z := PZ 0) (σ := cs C V PR PZ X σ) (K := K)
  rw [cm_0] at e
  exact e
theorem spo_8_0 {K : Value → Option ri_R} : tv_o 2 0 ((cs C V PR PZ X σ).1 (C + 3 + 8)) K = K (.int (Int32.ofInt (PR 0 1))) := by
  have e := mpo_8_0 (B := C + 3) (R := PR 0) (Z := PZ 0) (σ := cs C V PR PZ X σ) (K := K)
  rw [cm_0] at e
  exact e
theorem spo_8_1 {K : Value → Option ri_R} : tv_o 2 1 ((cs C V PR PZ X σ).1 (C + 3 + 8)) K = K (.ref (C + 3 + 9)) := by
  have e := mpo_8_1 (B := C + 3) (R := PR 0) (Z := PZ 0) (σ := cs C V PR PZ X σ) (K := K)
  rw [cm_0] at e
  exact e
theorem spo_8_2 {K : Value → Option ri_R} : tv_o 2 2 ((cs C V PR PZ X σ).1 (C + 3 + 8)) K = K (.ref (C + 3 + 10)) := by
  have e := mpo_8_2 (B := C + 3) (R := PR 0) (Z := PZ 0) (σ := cs C V PR PZ X σ) (K := K)
  rw [cm_0] at e
  exact e
theorem spo_11_0 {K : Value → Option ri_R} : tv_o 0 0 ((cs C V PR PZ X σ).1 (C + 3 + 11)) K = K (.int (Int32.ofInt (PR 0 2))) := by
  have e := mpo_11_0 (B := C + 3) (R := PR 0) (Z := PZ 0) (σ := cs C V PR PZ X σ) (K := K)
  rw [cm_0] at e
  exact e
theorem spo_11_1 {K : Value → Option ri_R} : tv_o 0 1 ((cs C V PR PZ X σ).1 (C + 3 + 11)) K = K (.ref (C + 3 + 12)) := by
  have e := mpo_11_1 (B := C + 3) (R := PR 0) (Z := PZ 0) (σ := cs C V PR PZ X σ) (K := K)
  rw [cm_0] at e
  exact e
theorem spo_11_2 {K : Value → Option ri_R} : tv_o 0 2 ((cs C V PR PZ X σ).1 (C + 3 + 11)) K = K (.ref (C + 3 + 13)) := by
  have e := mpo_11_2 (B := C + 3) (R := PR 0) (Z := PZ 0) (σ := cs C V PR PZ X σ) (K := K)
  rw [cm_0] at e
  exact e
theorem spo_11_3 {K : Value → Option ri_R} : tv_o 0 3 ((cs C V PR PZ X σ).1 (C + 3 + 11)) K = K (.ref (C + 3 + 14)) := by
  have e := mpo_11_3 (B := C + 3) (R := PR 0) (Z := PZ 0) (σ := cs C V PR PZ X σ) (K := K)
  rw [cm_0] at e
  exact e
theorem spo_11_4 {K : Value → Option ri_R} : tv_o 0 4 ((cs C V PR PZ X σ).1 (C + 3 + 11)) K = K (.ref (C + 3 + 15)) := by
  have e := mpo_11_4 (B := C + 3) (R := PR 0) (Z := PZ 0) (σ := cs C V PR PZ X σ) (K := K)
  rw [cm_0] at e
  exact e
theorem spo_11_5 {K : Value → Option ri_R} : tv_o 0 5 ((cs C V PR PZ X σ).1 (C + 3 + 11)) K = K (.ref (C + 3 + 16)) := by
  have e := mpo_11_5 (B := C + 3) (R := PR 0) (Z := PZ 0) (σ := cs C V PR PZ X σ) (K := K)
  rw [cm_0] at e
  exact e
theorem s97 {w : Int} (h1 : -2147483648 ≤ w) (h2 : w < 2147483648) (h3 : 0 ≤ PR 0 0 ∧ PR 0 0 ≤ 100) : cal 97 [.ref (C + 3 + 1), .int (Int32.ofInt w)] (cs C V PR PZ X σ) = if 0 ≤ w ∧ w < PR 0 0 then some (some (.int (Int32.ofInt 1)), cs C V PR PZ X σ) else some (some (.int (Int32.ofInt 0)), cs C V PR PZ X σ) := by
  have e := c97 (B := C + 3) (R := PR 0) (Z := PZ 0) (σ := cs C V PR PZ X σ) h1 h2 h3
  rw [cm_0] at e
  exact e
theorem s98 {w p : Int} (h1 : -2147483648 ≤ w) (h2 : w < 2147483648) (h3 : -2147483648 ≤ p) (h4 : p < 2147483648) (hi : mi K (PR 0)) : cal 98 [.ref (C + 3 + 1), .int (Int32.ofInt w), .int (Int32.ofInt p)] (cs C V PR PZ X σ) = if 0 ≤ w ∧ w < PR 0 0 ∧ 0 ≤ p ∧ p < PR 0 (9 + 10 * w + 0) then some (some (.int (Int32.ofInt 1)), cs C V PR PZ X σ) else some (some (.int (Int32.ofInt 0)), cs C V PR PZ X σ) := by
  have e := c98 (B := C + 3) (R := PR 0) (Z := PZ 0) (σ := cs C V PR PZ X σ) h1 h2 h3 h4 hi
  rw [cm_0] at e
  exact e
theorem s4 {w pad : Int} (hi : mi K (PR 0)) (h1 : -1000 ≤ w) (h2 : w ≤ 1000) (h3 : -1000 ≤ pad) (h4 : pad ≤ 1000) : cal 4 [.ref (C + 3 + 11), .int (Int32.ofInt w), .int (Int32.ofInt pad)] (cs C V PR PZ X σ) = some (some (.int (Int32.ofInt (mf_on (PR 0) w pad))), cs C V PR PZ X σ) := by
  have e := c4 (B := C + 3) (Z := PZ 0) (σ := cs C V PR PZ X σ) hi h1 h2 h3 h4
  rw [cm_0] at e
  exact e
theorem s5 {w g : Int} (hi : mi K (PR 0)) (h1 : -1000 ≤ w) (h2 : w ≤ 1000) (h3 : -1000 ≤ g) (h4 : g ≤ 1000) : cal 5 [.ref (C + 3 + 11), .int (Int32.ofInt w), .int (Int32.ofInt g)] (cs C V PR PZ X σ) = some (some (.int (Int32.ofInt (mf_wg (PR 0) w g))), cs C V PR PZ X σ) := by
  have e := c5 (B := C + 3) (Z := PZ 0) (σ := cs C V PR PZ X σ) hi h1 h2 h3 h4
  rw [cm_0] at e
  exact e
theorem s38 {f : Int} (hi : mi K (PR 0)) (h1 : 0 ≤ f) (h2 : f < PR 0 2) : cal 38 [.ref (C + 3), .int (Int32.ofInt f)] (cs C V PR PZ X σ) = some (some (.int (Int32.ofInt (PR 0 (71 + 5 * f + 1) * 5 + mf_place (PR 0) f))), cs C V PR PZ X σ) := by
  have e := c38 (B := C + 3) (Z := PZ 0) (σ := cs C V PR PZ X σ) hi h1 h2
  rw [cm_0] at e
  exact e
/-- turns as one number -/
def sg_t (T w : Int) : Int := if w = 0 then T / 25 else if w = 1 then T / 5 % 5 else T % 5
def sg_u (w : Int) : Int := if w = 0 then 25 else if w = 1 then 5 else 1
theorem c58 {w : Int} (h1 : 0 ≤ w) (h2 : w < 3) : cal 58 [.int (Int32.ofInt w)] σ = some (some (.int (Int32.ofInt (sg_u w))), σ) := by
  have e : w = 0 ∨ w = 1 ∨ w = 2 := by omega
  rw [E_58]
  unfold sg_u
  rcases e with e | e | e <;> subst e <;> simp (disch := omega) only [Int.reduceAdd, Int.reduceMul, Int.reduceSub, Int.reduceNeg, na_add, na_sub, na_mul, na_neg, na_lt, na_le, na_eq, na_ofNat, bo_some, tl_some, tl_none, rc_int, rc_ref, rc_null, rc_none, rc_long, tb_0, tb_1, ↓mr_g0, mr_r0, mr_get, mr_upd, mr_at, mr_wr, Classical.not_not, not_true_eq_false, not_false_eq_true, na_l0, na_l1, na_l2, na_l3, na_l4, na_l5, na_l6, na_l7, na_l8, na_l9, na_l10, na_l14, na_l15, na_l16, na_l25, na_l30, na_l31, na_l32, na_l33, na_l39, na_l43, na_l45, na_l48, na_l49, na_l50, na_l51, na_l52, na_l53, na_l55, na_l56, na_l57, na_l60, na_l64, na_l71, na_l80, na_l96, na_l100, na_l101, na_l102, na_l103, na_l104, na_l105, na_l106, na_l107, na_l108, na_l109, na_l110, na_l111, na_l112, na_l113, na_l114, na_l115, na_l116, na_l117, na_l118, na_l119, na_l120, na_l121, na_l125, na_l128, na_l150, na_l192, na_l255, na_l999, na_l1000, na_l1248, na_l1344, na_l1875, na_l10000, ↓reduceIte, pf_and, pe_le, pf_le, pe_lt, pf_lt, pe_eq, pf_eq, true_and, and_true, false_and, and_false, true_or, or_true, false_or, or_false, I_58]
theorem c59 {T w : Int} (h0 : 0 ≤ T) (h00 : T < 100000) (h1 : 0 ≤ w) (h2 : w < 3) : cal 59 [.int (Int32.ofInt T), .int (Int32.ofInt w)] σ = some (some (.int (Int32.ofInt (sg_t T w))), σ) := by
  have e : w = 0 ∨ w = 1 ∨ w = 2 := by omega
  rw [E_59]
  unfold sg_t
  rcases e with e | e | e <;> subst e <;> simp (disch := omega) only [Int.reduceAdd, Int.reduceMul, Int.reduceSub, Int.reduceNeg, na_add, na_sub, na_mul, na_neg, na_lt, na_le, na_eq, na_ofNat, bo_some, tl_some, tl_none, rc_int, rc_ref, rc_null, rc_none, rc_long, tb_0, tb_1, ↓mr_g0, mr_r0, mr_get, mr_upd, mr_at, mr_wr, Classical.not_not, not_true_eq_false, not_false_eq_true, na_l0, na_l1, na_l2, na_l3, na_l4, na_l5, na_l6, na_l7, na_l8, na_l9, na_l10, na_l14, na_l15, na_l16, na_l25, na_l30, na_l31, na_l32, na_l33, na_l39, na_l43, na_l45, na_l48, na_l49, na_l50, na_l51, na_l52, na_l53, na_l55, na_l56, na_l57, na_l60, na_l64, na_l71, na_l80, na_l96, na_l100, na_l101, na_l102, na_l103, na_l104, na_l105, na_l106, na_l107, na_l108, na_l109, na_l110, na_l111, na_l112, na_l113, na_l114, na_l115, na_l116, na_l117, na_l118, na_l119, na_l120, na_l121, na_l125, na_l128, na_l150, na_l192, na_l255, na_l999, na_l1000, na_l1248, na_l1344, na_l1875, na_l10000, ↓reduceIte, pf_and, pe_le, pf_le, pe_lt, pf_lt, pe_eq, pf_eq, true_and, and_true, false_and, and_false, true_or, or_true, false_or, or_false, na_div, na_rem, I_59]
theorem sg_t_bd {T w : Int} (h0 : 0 ≤ T) (h00 : T < 125) : 0 ≤ sg_t T w ∧ sg_t T w < 5 := by
  unfold sg_t
  repeat' split
  all_goals omega
/-- the spots to which ways go -/
def sw_in (X : Nat → mr_R) (a b : Int) : Prop := ∃ k, 0 ≤ k ∧ k < X 7 a ∧ X 6 (a * 10 + k) = b
def sw_ok (X : Nat → mr_R) : Prop := ∀ a, 0 ≤ a → a < 15 → (0 ≤ X 7 a ∧ X 7 a ≤ 10) ∧ ∀ k, 0 ≤ k → k < X 7 a → 0 ≤ X 6 (a * 10 + k) ∧ X 6 (a * 10 + k) < 15
/-- only ways and wayCount differ -/
def sw_ch (X X2 : Nat → mr_R) : Prop := ∀ j, j ≠ 6 → j ≠ 7 → X2 j = X j
theorem h61 {a b c : Int} (hok : sw_ok X) (h1 : 0 ≤ a) (h2 : a < 15) (h3 : 0 ≤ b) (h4 : b < 15) (hc : X 7 a = c) : ∀ (n : Nat) (k : Int) (Y : Option ri_R), 0 ≤ k → k + n = c → ((∃ j, k ≤ j ∧ j < c ∧ X 6 (a * 10 + j) = b) → Y = some (none, cs C V PR PZ X σ)) → ((∀ j, k ≤ j → j < c → X 6 (a * 10 + j) ≠ b) → Y = ev 61 (43, [some (.ref (C + 314)), some (.int (Int32.ofInt a)), some (.int (Int32.ofInt b)), some (.int (Int32.ofInt c)), some (.int (Int32.ofInt c))], []) (cs C V PR PZ X σ)) → ev 61 (12, [some (.ref (C + 314)), some (.int (Int32.ofInt a)), some (.int (Int32.ofInt b)), some (.int (Int32.ofInt c)), some (.int (Int32.ofInt k))], []) (cs C V PR PZ X σ) = Y := by
  have hk := (hok a h1 h2).1
  intro n
  induction n with
  | zero =>
    intro k Y h5 h6 g1 g2
    obtain rfl : k = c := by omega
    rw [g2 (fun j a1 a2 => by omega)]
    rw [H_61_12]
    simp (disch := omega) only [Int.reduceAdd, Int.reduceMul, Int.reduceSub, Int.reduceNeg, na_add, na_sub, na_mul, na_neg, na_lt, na_le, na_eq, na_ofNat, bo_some, tl_some, tl_none, rc_int, rc_ref, rc_null, rc_none, rc_long, tb_0, tb_1, ↓mr_g0, mr_r0, mr_get, mr_upd, mr_at, mr_wr, Classical.not_not, not_true_eq_false, not_false_eq_true, na_l0, na_l1, na_l2, na_l3, na_l4, na_l5, na_l6, na_l7, na_l8, na_l9, na_l10, na_l14, na_l15, na_l16, na_l25, na_l30, na_l31, na_l32, na_l33, na_l39, na_l43, na_l45, na_l48, na_l49, na_l50, na_l51, na_l52, na_l53, na_l55, na_l56, na_l57, na_l60, na_l64, na_l71, na_l80, na_l96, na_l100, na_l101, na_l102, na_l103, na_l104, na_l105, na_l106, na_l107, na_l108, na_l109, na_l110, na_l111, na_l112, na_l113, na_l114, na_l115, na_l116, na_l117, na_l118, na_l119, na_l120, na_l121, na_l125, na_l128, na_l150, na_l192, na_l255, na_l999, na_l1000, na_l1248, na_l1344, na_l1875, na_l10000, ↓reduceIte, pf_and, pe_le, pf_le, pe_lt, pf_lt, pe_eq, pf_eq, true_and, and_true, false_and, and_false, true_or, or_true, false_or, or_false, I_61_0, I_61_1]
  | succ n ih =>
    intro k Y h5 h6 g1 g2
    have hb := (hok a h1 h2).2 k h5 (by omega)
    rw [H_61_12]
    by_cases q : X 6 (a * 10 + k) = b
    · rw [g1 ⟨k, by omega, by omega, q⟩]
      simp (disch := omega) only [Int.reduceAdd, Int.reduceMul, Int.reduceSub, Int.reduceNeg, na_add, na_sub, na_mul, na_neg, na_lt, na_le, na_eq, na_ofNat, bo_some, tl_some, tl_none, rc_int, rc_ref, rc_null, rc_none, rc_long, tb_0, tb_1, ↓mr_g0, mr_r0, mr_get, mr_upd, mr_at, mr_wr, Classical.not_not, not_true_eq_false, not_false_eq_true, na_l0, na_l1, na_l2, na_l3, na_l4, na_l5, na_l6, na_l7, na_l8, na_l9, na_l10, na_l14, na_l15, na_l16, na_l25, na_l30, na_l31, na_l32, na_l33, na_l39, na_l43, na_l45, na_l48, na_l49, na_l50, na_l51, na_l52, na_l53, na_l55, na_l56, na_l57, na_l60, na_l64, na_l71, na_l80, na_l96, na_l100, na_l101, na_l102, na_l103, na_l104, na_l105, na_l106, na_l107, na_l108, na_l109, na_l110, na_l111, na_l112, na_l113, na_l114, na_l115, na_l116, na_l117, na_l118, na_l119, na_l120, na_l121, na_l125, na_l128, na_l150, na_l192, na_l255, na_l999, na_l1000, na_l1248, na_l1344, na_l1875, na_l10000, ↓reduceIte, pf_and, pe_le, pf_le, pe_lt, pf_lt, pe_eq, pf_eq, true_and, and_true, false_and, and_false, true_or, or_true, false_or, or_false, ↓csk_0, ↓cso_0_0, ↓cso_0_1, ↓cso_0_2, ↓cso_0_3, ↓cso_0_4, ↓cso_0_5, ↓csk_1, ↓cso_1_0, ↓cso_1_1, ↓csk_37, ↓cso_37_0, ↓cso_37_1, ↓cso_37_2, ↓csk_277, ↓cso_277_0, ↓cso_277_1, ↓csk_314, ↓cso_314_0, ↓cso_314_1, ↓cso_314_2, ↓cso_314_3, ↓cso_314_4, ↓cso_314_5, ↓cso_314_6, ↓cso_314_7, ↓cso_314_8, ↓cso_314_9, ↓csg_2, ↓csn_2, ↓csg_279, ↓csn_279, ↓csg_315, ↓csn_315, ↓csg_316, ↓csn_316, ↓csg_317, ↓csn_317, ↓csg_318, ↓csn_318, ↓csg_319, ↓csn_319, ↓csg_320, ↓csn_320, ↓csg_321, ↓csn_321, ↓csg_322, ↓csn_322, ↓csg_323, ↓csn_323, ↓csq_38, ↓csm_38, ↓csq_278, ↓csm_278, r140_319, I_61_0, I_61_1]
    · have hn := ih (k + 1) Y (by omega) (by omega) (fun ⟨j, a1, a2, a3⟩ => g1 ⟨j, by omega, a2, a3⟩) (fun g => g2 fun j a1 a2 => by
        by_cases e : j = k
        · rw [e]; exact q
        · exact g j (by omega) a2)
      simp (disch := omega) only [Int.reduceAdd, Int.reduceMul, Int.reduceSub, Int.reduceNeg, na_add, na_sub, na_mul, na_neg, na_lt, na_le, na_eq, na_ofNat, bo_some, tl_some, tl_none, rc_int, rc_ref, rc_null, rc_none, rc_long, tb_0, tb_1, ↓mr_g0, mr_r0, mr_get, mr_upd, mr_at, mr_wr, Classical.not_not, not_true_eq_false, not_false_eq_true, na_l0, na_l1, na_l2, na_l3, na_l4, na_l5, na_l6, na_l7, na_l8, na_l9, na_l10, na_l14, na_l15, na_l16, na_l25, na_l30, na_l31, na_l32, na_l33, na_l39, na_l43, na_l45, na_l48, na_l49, na_l50, na_l51, na_l52, na_l53, na_l55, na_l56, na_l57, na_l60, na_l64, na_l71, na_l80, na_l96, na_l100, na_l101, na_l102, na_l103, na_l104, na_l105, na_l106, na_l107, na_l108, na_l109, na_l110, na_l111, na_l112, na_l113, na_l114, na_l115, na_l116, na_l117, na_l118, na_l119, na_l120, na_l121, na_l125, na_l128, na_l150, na_l192, na_l255, na_l999, na_l1000, na_l1248, na_l1344, na_l1875, na_l10000, ↓reduceIte, pf_and, pe_le, pf_le, pe_lt, pf_lt, pe_eq, pf_eq, true_and, and_true, false_and, and_false, true_or, or_true, false_or, or_false, ↓csk_0, ↓cso_0_0, ↓cso_0_1, ↓cso_0_2, ↓cso_0_3, ↓cso_0_4, ↓cso_0_5, ↓csk_1, ↓cso_1_0, ↓cso_1_1, ↓csk_37, ↓cso_37_0, ↓cso_37_1, ↓cso_37_2, ↓csk_277, ↓cso_277_0, ↓cso_277_1, ↓csk_314, ↓cso_314_0, ↓cso_314_1, ↓cso_314_2, ↓cso_314_3, ↓cso_314_4, ↓cso_314_5, ↓cso_314_6, ↓cso_314_7, ↓cso_314_8, ↓cso_314_9, ↓csg_2, ↓csn_2, ↓csg_279, ↓csn_279, ↓csg_315, ↓csn_315, ↓csg_316, ↓csn_316, ↓csg_317, ↓csn_317, ↓csg_318, ↓csn_318, ↓csg_319, ↓csn_319, ↓csg_320, ↓csn_320, ↓csg_321, ↓csn_321, ↓csg_322, ↓csn_322, ↓csg_323, ↓csn_323, ↓csq_38, ↓csm_38, ↓csq_278, ↓csm_278, r140_319, I_61_0, I_61_1, hn]
theorem c61 {a b : Int} (hok : sw_ok X) (h1 : 0 ≤ a) (h2 : a < 15) (h3 : 0 ≤ b) (h4 : b < 15) (hc : X 7 a ≤ 9) : ∃ X2, cal 61 [.ref (C + 314), .int (Int32.ofInt a), .int (Int32.ofInt b)] (cs C V PR PZ X σ) = some (none, cs C V PR PZ X2 σ) ∧ sw_ch X X2 ∧ sw_ok X2 ∧ (∀ a2 b2, 0 ≤ a2 → a2 < 15 → (sw_in X2 a2 b2 ↔ sw_in X a2 b2 ∨ (a2 = a ∧ b2 = b))) ∧ (∀ a2, a2 ≠ a → X2 7 a2 = X 7 a2) ∧ X2 7 a ≤ X 7 a + 1 := by
  have hk := (hok a h1 h2).1
  by_cases q : ∃ j, 0 ≤ j ∧ j < X 7 a ∧ X 6 (a * 10 + j) = b
  · refine ⟨X, ?_, fun j _ _ => rfl, hok, fun a2 b2 _ _ => ⟨Or.inl, ?_⟩, fun _ _ => rfl, by omega⟩
    · have h := h61 (C := C) (V := V) (PR := PR) (PZ := PZ) (σ := σ) hok h1 h2 h3 h4 rfl (X 7 a).toNat 0 (some (none, cs C V PR PZ X σ)) (by omega) (by omega) (fun _ => rfl) (fun g => by
        obtain ⟨j, a1, a2, a3⟩ := q
        exact absurd a3 (g j a1 a2))
      rw [E_61]
      simp (disch := omega) only [Int.reduceAdd, Int.reduceMul, Int.reduceSub, Int.reduceNeg, na_add, na_sub, na_mul, na_neg, na_lt, na_le, na_eq, na_ofNat, bo_some, tl_some, tl_none, rc_int, rc_ref, rc_null, rc_none, rc_long, tb_0, tb_1, ↓mr_g0, mr_r0, mr_get, mr_upd, mr_at, mr_wr, Classical.not_not, not_true_eq_false, not_false_eq_true, na_l0, na_l1, na_l2, na_l3, na_l4, na_l5, na_l6, na_l7, na_l8, na_l9, na_l10, na_l14, na_l15, na_l16, na_l25, na_l30, na_l31, na_l32, na_l33, na_l39, na_l43, na_l45, na_l48, na_l49, na_l50, na_l51, na_l52, na_l53, na_l55, na_l56, na_l57, na_l60, na_l64, na_l71, na_l80, na_l96, na_l100, na_l101, na_l102, na_l103, na_l104, na_l105, na_l106, na_l107, na_l108, na_l109, na_l110, na_l111, na_l112, na_l113, na_l114, na_l115, na_l116, na_l117, na_l118, na_l119, na_l120, na_l121, na_l125, na_l128, na_l150, na_l192, na_l255, na_l999, na_l1000, na_l1248, na_l1344, na_l1875, na_l10000, ↓reduceIte, pf_and, pe_le, pf_le, pe_lt, pf_lt, pe_eq, pf_eq, true_and, and_true, false_and, and_false, true_or, or_true, false_or, or_false, ↓csk_0, ↓cso_0_0, ↓cso_0_1, ↓cso_0_2, ↓cso_0_3, ↓cso_0_4, ↓cso_0_5, ↓csk_1, ↓cso_1_0, ↓cso_1_1, ↓csk_37, ↓cso_37_0, ↓cso_37_1, ↓cso_37_2, ↓csk_277, ↓cso_277_0, ↓cso_277_1, ↓csk_314, ↓cso_314_0, ↓cso_314_1, ↓cso_314_2, ↓cso_314_3, ↓cso_314_4, ↓cso_314_5, ↓cso_314_6, ↓cso_314_7, ↓cso_314_8, ↓cso_314_9, ↓csg_2, ↓csn_2, ↓csg_279, ↓csn_279, ↓csg_315, ↓csn_315, ↓csg_316, ↓csn_316, ↓csg_317, ↓csn_317, ↓csg_318, ↓csn_318, ↓csg_319, ↓csn_319, ↓csg_320, ↓csn_320, ↓csg_321, ↓csn_321, ↓csg_322, ↓csn_322, ↓csg_323, ↓csn_323, ↓csq_38, ↓csm_38, ↓csq_278, ↓csm_278, r140_320, I_61_0, I_61_1, h]
    · rintro (h | ⟨e1, e2⟩)
      · exact h
      · rw [e1, e2]; exact q
  · refine ⟨ms_a (ms_a X 6 (mr_st (X 6) (a * 10 + X 7 a) b)) 7 (mr_st (X 7) a (X 7 a + 1)), ?_, ?_, ?_, ?_, ?_, ?_⟩
    · have h := h61 (C := C) (V := V) (PR := PR) (PZ := PZ) (σ := σ) hok h1 h2 h3 h4 rfl (X 7 a).toNat 0 _ (by omega) (by omega) (fun g => absurd g q) (fun _ => rfl)
      rw [E_61]
      simp (disch := omega) only [Int.reduceAdd, Int.reduceMul, Int.reduceSub, Int.reduceNeg, na_add, na_sub, na_mul, na_neg, na_lt, na_le, na_eq, na_ofNat, bo_some, tl_some, tl_none, rc_int, rc_ref, rc_null, rc_none, rc_long, tb_0, tb_1, ↓mr_g0, mr_r0, mr_get, mr_upd, mr_at, mr_wr, Classical.not_not, not_true_eq_false, not_false_eq_true, na_l0, na_l1, na_l2, na_l3, na_l4, na_l5, na_l6, na_l7, na_l8, na_l9, na_l10, na_l14, na_l15, na_l16, na_l25, na_l30, na_l31, na_l32, na_l33, na_l39, na_l43, na_l45, na_l48, na_l49, na_l50, na_l51, na_l52, na_l53, na_l55, na_l56, na_l57, na_l60, na_l64, na_l71, na_l80, na_l96, na_l100, na_l101, na_l102, na_l103, na_l104, na_l105, na_l106, na_l107, na_l108, na_l109, na_l110, na_l111, na_l112, na_l113, na_l114, na_l115, na_l116, na_l117, na_l118, na_l119, na_l120, na_l121, na_l125, na_l128, na_l150, na_l192, na_l255, na_l999, na_l1000, na_l1248, na_l1344, na_l1875, na_l10000, ↓reduceIte, pf_and, pe_le, pf_le, pe_lt, pf_lt, pe_eq, pf_eq, true_and, and_true, false_and, and_false, true_or, or_true, false_or, or_false, ↓csk_0, ↓cso_0_0, ↓cso_0_1, ↓cso_0_2, ↓cso_0_3, ↓cso_0_4, ↓cso_0_5, ↓csk_1, ↓cso_1_0, ↓cso_1_1, ↓csk_37, ↓cso_37_0, ↓cso_37_1, ↓cso_37_2, ↓csk_277, ↓cso_277_0, ↓cso_277_1, ↓csk_314, ↓cso_314_0, ↓cso_314_1, ↓cso_314_2, ↓cso_314_3, ↓cso_314_4, ↓cso_314_5, ↓cso_314_6, ↓cso_314_7, ↓cso_314_8, ↓cso_314_9, ↓csg_2, ↓csn_2, ↓csg_279, ↓csn_279, ↓csg_315, ↓csn_315, ↓csg_316, ↓csn_316, ↓csg_317, ↓csn_317, ↓csg_318, ↓csn_318, ↓csg_319, ↓csn_319, ↓csg_320, ↓csn_320, ↓csg_321, ↓csn_321, ↓csg_322, ↓csn_322, ↓csg_323, ↓csn_323, ↓csq_38, ↓csm_38, ↓csq_278, ↓csm_278, ↓csv_1_1, ↓csv_37_1, ↓csv_37_2, ↓csv_314_9, csa_2, csa_279, csa_315, csa_316, csa_317, csa_318, csa_319, csa_320, csa_321, csa_322, csa_323, csu_1_1, csu_37_1, csu_37_2, csu_314_9, sa_eq, sa_ne, sa_up, r140_320, r140_319, w141_319, w141_320, I_61_0, I_61_1, h]
    · intro j j6 j7
      rw [sa_ne j7, sa_ne j6]
    · intro a2 b1 b2
      have ha2 := hok a2 b1 b2
      simp (disch := omega) only [sa_eq, sa_ne]
      by_cases e : a2 = a
      · subst e
        rw [ms_eq rfl]
        refine ⟨by omega, fun k k1 k2 => ?_⟩
        by_cases ek : k = X 7 a2
        · rw [ms_eq (by omega)]; exact ⟨h3, h4⟩
        · rw [ms_ne (by omega)]; exact ha2.2 k k1 (by omega)
      · rw [ms_ne e]
        refine ⟨ha2.1, fun k k1 k2 => ?_⟩
        rw [ms_ne (by omega)]
        exact ha2.2 k k1 k2
    · intro a2 b2 b1 b3
      have ha2 := hok a2 b1 b3
      unfold sw_in
      simp (disch := omega) only [sa_eq, sa_ne]
      by_cases e : a2 = a
      · subst e
        rw [ms_eq rfl]
        constructor
        · rintro ⟨k, k1, k2, k3⟩
          by_cases ek : k = X 7 a2
          · rw [ms_eq (by omega)] at k3
            exact Or.inr ⟨rfl, k3.symm⟩
          · rw [ms_ne (by omega)] at k3
            exact Or.inl ⟨k, k1, by omega, k3⟩
        · rintro (⟨k, k1, k2, k3⟩ | ⟨-, e2⟩)
          · exact ⟨k, k1, by omega, by rw [ms_ne (by omega)]; exact k3⟩
          · exact ⟨X 7 a2, by omega, by omega, by rw [ms_eq rfl]; exact e2.symm⟩
      · rw [ms_ne e]
        constructor
        · rintro ⟨k, k1, k2, k3⟩
          rw [ms_ne (by omega)] at k3
          exact Or.inl ⟨k, k1, k2, k3⟩
        · rintro (⟨k, k1, k2, k3⟩ | ⟨e2, -⟩)
          · exact ⟨k, k1, k2, by rw [ms_ne (by omega)]; exact k3⟩
          · exact absurd e2 e
    · intro a2 e
      simp (disch := omega) only [sa_eq]
      exact ms_ne e
    · simp (disch := omega) only [sa_eq]
      rw [ms_eq rfl]
      omega
end CSB
