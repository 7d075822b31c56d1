/-! The class's calls that do not throw. -/
section CSB
variable {C : Nat} {V : mr_R} {PR PZ X : Nat → mr_R} {σ : ri_S}
theorem cm_0 : mp (C + 3) (PR 0) (PZ 0) (cs C V PR PZ X σ) = cs C V PR PZ X σ := css (i := 0) (by decide)
theorem cw_0 {R : mr_R} : mp (C + 3) R (PZ 0) (cs C V PR PZ X σ) = cs C V (ms_a PR 0 R) PZ X σ := by
  have e := csr (C := C) (V := V) (PR := PR) (PZ := PZ) (X := X) (σ := σ) (i := 0) (R := R) (Z := PZ 0) (by decide)
  rw [sa_id] at e
  exact e
theorem cpk0_0 {Y : Option ri_R} : tv_k 3 ((cs C V PR PZ X σ).1 (C + 3)) Y = Y := by rw [← cm_0]; exact mpk_0
theorem cpk0_1 {Y : Option ri_R} : tv_k 7 ((cs C V PR PZ X σ).1 (C + 3 + 1)) Y = Y := by rw [← cm_0]; exact mpk_1
theorem cpk0_8 {Y : Option ri_R} : tv_k 2 ((cs C V PR PZ X σ).1 (C + 3 + 8)) Y = Y := by rw [← cm_0]; exact mpk_8
theorem cpk0_11 {Y : Option ri_R} : tv_k 0 ((cs C V PR PZ X σ).1 (C + 3 + 11)) Y = Y := by rw [← cm_0]; exact mpk_11
theorem cpo0_0 {K : Value → Option ri_R} : tv_o 3 0 ((cs C V PR PZ X σ).1 (C + 3)) K = K (.ref (C + 3 + 1)) := by
  have e := mpo_0_0 (B := C + 3) (R := PR 0) (Z := PZ 0) (σ := cs C V PR PZ X σ) (K := K)
  rw [cm_0] at e
  exact e
theorem cpo0_1 {K : Value → Option ri_R} : tv_o 3 1 ((cs C V PR PZ X σ).1 (C + 3)) K = K (.ref (C + 3 + 8)) := by
  have e := mpo_0_1 (B := C + 3) (R := PR 0) (Z := PZ 0) (σ := cs C V PR PZ X σ) (K := K)
  rw [cm_0] at e
  exact e
theorem cpo0_2 {K : Value → Option ri_R} : tv_o 3 2 ((cs C V PR PZ X σ).1 (C + 3)) K = K (.ref (C + 3 + 11)) := by
  have e := mpo_0_2 (B := C + 3) (R := PR 0) (Z := PZ 0) (σ := cs C V PR PZ X σ) (K := K)
  rw [cm_0] at e
  exact e
theorem cpo0_3 {K : Value → Option ri_R} : tv_o 3 3 ((cs C V PR PZ X σ).1 (C + 3)) K = K (.int (Int32.ofInt (PR 0 3))) := by
  have e := mpo_0_3 (B := C + 3) (R := PR 0) (Z := PZ 0) (σ := cs C V PR PZ X σ) (K := K)
  rw [cm_0] at e
  exact e
theorem cpo0_4 {K : Value → Option ri_R} : tv_o 3 4 ((cs C V PR PZ X σ).1 (C + 3)) K = K (.int (Int32.ofInt (PR 0 4))) := by
  have e := mpo_0_4 (B := C + 3) (R := PR 0) (Z := PZ 0) (σ := cs C V PR PZ X σ) (K := K)
  rw [cm_0] at e
  exact e
theorem cpo0_5 {K : Value → Option ri_R} : tv_o 3 5 ((cs C V PR PZ X σ).1 (C + 3)) K = K (.int (Int32.ofInt (PR 0 5))) := by
  have e := mpo_0_5 (B := C + 3) (R := PR 0) (Z := PZ 0) (σ := cs C V PR PZ X σ) (K := K)
  rw [cm_0] at e
  exact e
theorem cpo0_6 {K : Value → Option ri_R} : tv_o 3 6 ((cs C V PR PZ X σ).1 (C + 3)) K = K (.int (Int32.ofInt (PR 0 6))) := by
  have e := mpo_0_6 (B := C + 3) (R := PR 0) (Z := PZ 0) (σ := cs C V PR PZ X σ) (K := K)
  rw [cm_0] at e
  exact e
theorem cpo0_7 {K : Value → Option ri_R} : tv_o 3 7 ((cs C V PR PZ X σ).1 (C + 3)) K = K (.int (Int32.ofInt (PR 0 7 - 1))) := by
  have e := mpo_0_7 (B := C + 3) (R := PR 0) (Z := PZ 0) (σ := cs C V PR PZ X σ) (K := K)
  rw [cm_0] at e
  exact e
theorem cpo0_8 {K : Value → Option ri_R} : tv_o 3 8 ((cs C V PR PZ X σ).1 (C + 3)) K = K (.int (Int32.ofInt (PR 0 8))) := by
  have e := mpo_0_8 (B := C + 3) (R := PR 0) (Z := PZ 0) (σ := cs C V PR PZ X σ) (K := K)
  rw [cm_0] at e
  exact e
theorem cm_1 : mp (C + 20) (PR 1) (PZ 1) (cs C V PR PZ X σ) = cs C V PR PZ X σ := css (i := 1) (by decide)
theorem cw_1 {R : mr_R} : mp (C + 20) R (PZ 1) (cs C V PR PZ X σ) = cs C V (ms_a PR 1 R) PZ X σ := by
  have e := csr (C := C) (V := V) (PR := PR) (PZ := PZ) (X := X) (σ := σ) (i := 1) (R := R) (Z := PZ 1) (by decide)
  rw [sa_id] at e
  exact e
theorem cpk1_0 {Y : Option ri_R} : tv_k 3 ((cs C V PR PZ X σ).1 (C + 20)) Y = Y := by rw [← cm_1]; exact mpk_0
theorem cpk1_1 {Y : Option ri_R} : tv_k 7 ((cs C V PR PZ X σ).1 (C + 20 + 1)) Y = Y := by rw [← cm_1]; exact mpk_1
theorem cpk1_8 {Y : Option ri_R} : tv_k 2 ((cs C V PR PZ X σ).1 (C + 20 + 8)) Y = Y := by rw [← cm_1]; exact mpk_8
theorem cpk1_11 {Y : Option ri_R} : tv_k 0 ((cs C V PR PZ X σ).1 (C + 20 + 11)) Y = Y := by rw [← cm_1]; exact mpk_11
theorem cpo1_0 {K : Value → Option ri_R} : tv_o 3 0 ((cs C V PR PZ X σ).1 (C + 20)) K = K (.ref (C + 20 + 1)) := by
  have e := mpo_0_0 (B := C + 20) (R := PR 1) (Z := PZ 1) (σ := cs C V PR PZ X σ) (K := K)
  rw [cm_1] at e
  exact e
theorem cpo1_1 {K : Value → Option ri_R} : tv_o 3 1 ((cs C V PR PZ X σ).1 (C + 20)) K = K (.ref (C + 20 + 8)) := by
  have e := mpo_0_1 (B := C + 20) (R := PR 1) (Z := PZ 1) (σ := cs C V PR PZ X σ) (K := K)
  rw [cm_1] at e
  exact e
theorem cpo1_2 {K : Value → Option ri_R} : tv_o 3 2 ((cs C V PR PZ X σ).1 (C + 20)) K = K (.ref (C + 20 + 11)) := by
  have e := mpo_0_2 (B := C + 20) (R := PR 1) (Z := PZ 1) (σ := cs C V PR PZ X σ) (K := K)
  rw [cm_1] at e
  exact e
theorem cpo1_3 {K : Value → Option ri_R} : tv_o 3 3 ((cs C V PR PZ X σ).1 (C + 20)) K = K (.int (Int32.ofInt (PR 1 3))) := by
  have e := mpo_0_3 (B := C + 20) (R := PR 1) (Z := PZ 1) (σ := cs C V PR PZ X σ) (K := K)
  rw [cm_1] at e
  exact e
theorem cpo1_4 {K : Value → Option ri_R} : tv_o 3 4 ((cs C V PR PZ X σ).1 (C + 20)) K = K (.int (Int32.ofInt (PR 1 4))) := by
  have e := mpo_0_4 (B := C + 20) (R := PR 1) (Z := PZ 1) (σ := cs C V PR PZ X σ) (K := K)
  rw [cm_1] at e
  exact e
theorem cpo1_5 {K : Value → Option ri_R} : tv_o 3 5 ((cs C V PR PZ X σ).1 (C + 20)) K = K (.int (Int32.ofInt (PR 1 5))) := by
  have e := mpo_0_5 (B := C + 20) (R := PR 1) (Z := PZ 1) (σ := cs C V PR PZ X σ) (K := K)
  rw [cm_1] at e
  exact e
theorem cpo1_6 {K : Value → Option ri_R} : tv_o 3 6 ((cs C V PR PZ X σ).1 (C + 20)) K = K (.int (Int32.ofInt (PR 1 6))) := by
  have e := mpo_0_6 (B := C + 20) (R := PR 1) (Z := PZ 1) (σ := cs C V PR PZ X σ) (K := K)
  rw [cm_1] at e
  exact e
theorem cpo1_7 {K : Value → Option ri_R} : tv_o 3 7 ((cs C V PR PZ X σ).1 (C + 20)) K = K (.int (Int32.ofInt (PR 1 7 - 1))) := by
  have e := mpo_0_7 (B := C + 20) (R := PR 1) (Z := PZ 1) (σ := cs C V PR PZ X σ) (K := K)
  rw [cm_1] at e
  exact e
theorem cpo1_8 {K : Value → Option ri_R} : tv_o 3 8 ((cs C V PR PZ X σ).1 (C + 20)) K = K (.int (Int32.ofInt (PR 1 8))) := by
  have e := mpo_0_8 (B := C + 20) (R := PR 1) (Z := PZ 1) (σ := cs C V PR PZ X σ) (K := K)
  rw [cm_1] at e
  exact e
end CSB
