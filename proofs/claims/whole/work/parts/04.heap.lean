/-! fields, arrays, new cells -/
def tyk (kd k : Nat) : FieldType := (parseFieldDescriptor (ctb kd k).2.2.1).getD .int
theorem tyk_ok (kd : Nat) (h0 : 0 < kd) (h8 : kd ≤ 8) : ∀ k, k < nf kd → parseFieldDescriptor (ctb kd k).2.2.1 = some (tyk kd k) := by
  have : kd = 1 ∨ kd = 2 ∨ kd = 3 ∨ kd = 4 ∨ kd = 5 ∨ kd = 6 ∨ kd = 7 ∨ kd = 8 := by omega
  rcases this with rfl | rfl | rfl | rfl | rfl | rfl | rfl | rfl <;> decide +kernel
theorem nmk_ok (kd : Nat) (h0 : 0 < kd) (h8 : kd ≤ 8) : ∀ a, a < nf kd → ∀ b, b < nf kd → a ≠ b → (ctb kd a).2.1 ≠ (ctb kd b).2.1 := by
  have : kd = 1 ∨ kd = 2 ∨ kd = 3 ∨ kd = 4 ∨ kd = 5 ∨ kd = 6 ∨ kd = 7 ∨ kd = 8 := by omega
  rcases this with rfl | rfl | rfl | rfl | rfl | rfl | rfl | rfl <;> decide +kernel
theorem dfk_ok (kd : Nat) (h0 : 0 < kd) (h8 : kd ≤ 8) : ∀ k, k < nf kd → defaultValue (tyk kd k) = if rfk (32 * kd + k) = true then .null else .int 0 := by
  have : kd = 1 ∨ kd = 2 ∨ kd = 3 ∨ kd = 4 ∨ kd = 5 ∨ kd = 6 ∨ kd = 7 ∨ kd = 8 := by omega
  rcases this with rfl | rfl | rfl | rfl | rfl | rfl | rfl | rfl <;> decide +kernel
theorem lys_1 : ∀ w ∈ u_ws (cnm 1) (ctb 1) (nf 1), w ∈ TB := by decide +kernel
theorem lys_2 : ∀ w ∈ u_ws (cnm 2) (ctb 2) (nf 2), w ∈ TB := by decide +kernel
theorem lys_3 : ∀ w ∈ u_ws (cnm 3) (ctb 3) (nf 3), w ∈ TB := by decide +kernel
theorem lys_4 : ∀ w ∈ u_ws (cnm 4) (ctb 4) (nf 4), w ∈ TB := by decide +kernel
theorem lys_5 : ∀ w ∈ u_ws (cnm 5) (ctb 5) (nf 5), w ∈ TB := by decide +kernel
theorem lys_6 : ∀ w ∈ u_ws (cnm 6) (ctb 6) (nf 6), w ∈ TB := by decide +kernel
theorem lys_7 : ∀ w ∈ u_ws (cnm 7) (ctb 7) (nf 7), w ∈ TB := by decide +kernel
theorem lys_8 : ∀ w ∈ u_ws (cnm 8) (ctb 8) (nf 8), w ∈ TB := by decide +kernel
