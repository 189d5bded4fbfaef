set_option maxRecDepth 100000 in
theorem i2f_fin : ∀ n, n < 1601 → fin0 (FP.Core.val32 (FP.i2f (nI n))) = true ∧ (n ≠ 0 → fin1 (FP.Core.val32 (FP.i2f (nI n))) = true) := by decide +kernel
set_option maxRecDepth 100000 in
theorem i2d_fin : ∀ n, n < 801 → fin0 (FP.Core.val64 (FP.i2d (nI n))) = true ∧ (n ≠ 0 → fin1 (FP.Core.val64 (FP.i2d (nI n))) = true) := by decide +kernel
theorem fdiv_num {a b : Nat} (ha : a < 1601) (hb : b < 1601) (h0 : b ≠ 0) : FP.Core.val32 (FP.fdiv (FP.i2f (nI a)) (FP.i2f (nI b))) ≠ .nan := fdiv_ok (i2f_fin a ha).1 ((i2f_fin b hb).2 h0)
theorem ddiv_num {a b : Nat} (ha : a < 801) (hb : b < 801) (h0 : b ≠ 0) : FP.Core.val64 (FP.ddiv (FP.i2d (nI a)) (FP.i2d (nI b))) ≠ .nan := ddiv_ok (i2d_fin a ha).1 ((i2d_fin b hb).2 h0)
