/-! ===== the String constants, letter by letter ===== -/
theorem st_all : ∀ i, i < 54 → ((txL.getD i []).length = strN (3000 + i) ∧ (txL.getD i []).length < 2 ^ 31) ∧ ∀ k, k < (txL.getD i []).length → strC (3000 + i) k < 256 ∧ (txL.getD i []).getD k 0 = sb_b (strC (3000 + i) k) := by decide +kernel
