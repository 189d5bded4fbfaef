theorem n32_of {x : UInt32} (h : FP.Core.val32 x ≠ .nan) : vf_n32 x := by
  unfold vf_n32
  rw [UInt32.le_iff_toNat_le]
  have e : (x &&& 0x7fffffff).toNat = x.toNat % 2 ^ 31 := by
    rw [UInt32.toNat_and, show (0x7fffffff : UInt32).toNat = 2 ^ 31 - 1 from rfl, Nat.and_two_pow_sub_one_eq_mod]
  rw [e, show (0x7f800000 : UInt32).toNat = 255 * 2 ^ 23 from rfl]
  have hx := x.toNat_lt
  unfold FP.Core.val32 FP.Core.decode FP.Core.fieldE FP.Core.fieldT at h
  rw [show FP.Core.b32.tails = 2 ^ 23 from by decide, show FP.Core.b32.exps = 256 from by decide] at h
  by_cases h1 : x.toNat / 2 ^ 23 % 256 = 256 - 1
  · rw [if_pos h1] at h
    by_cases h2 : x.toNat % 2 ^ 23 = 0
    · omega
    · rw [if_neg h2] at h; exact absurd rfl h
  · omega
theorem n64_of {x : UInt64} (h : FP.Core.val64 x ≠ .nan) : vf_n64 x := by
  unfold vf_n64
  rw [UInt64.le_iff_toNat_le]
  have e : (x &&& 0x7fffffffffffffff).toNat = x.toNat % 2 ^ 63 := by
    rw [UInt64.toNat_and, show (0x7fffffffffffffff : UInt64).toNat = 2 ^ 63 - 1 from rfl, Nat.and_two_pow_sub_one_eq_mod]
  rw [e, show (0x7ff0000000000000 : UInt64).toNat = 2047 * 2 ^ 52 from rfl]
  have hx := x.toNat_lt
  unfold FP.Core.val64 FP.Core.decode FP.Core.fieldE FP.Core.fieldT at h
  rw [show FP.Core.b64.tails = 2 ^ 52 from by decide, show FP.Core.b64.exps = 2048 from by decide] at h
  by_cases h1 : x.toNat / 2 ^ 52 % 2048 = 2048 - 1
  · rw [if_pos h1] at h
    by_cases h2 : x.toNat % 2 ^ 52 = 0
    · omega
    · rw [if_neg h2] at h; exact absurd rfl h
  · omega
/-- a finite number, not 0 -/
def fin1 : FP.Core.Datum → Bool
  | .fin _ c _ => decide (c ≠ 0)
  | _ => false
def fin0 : FP.Core.Datum → Bool
  | .fin _ _ _ => true
  | _ => false
theorem rr_fin (f : FP.Core.Fmt) (s : Bool) (num den : Nat) (e : Int) : FP.Core.roundRatio f s num den e ≠ .nan := by
  unfold FP.Core.roundRatio
  split
  · exact fun q => by cases q
  · unfold FP.Core.roundAt FP.Core.settle FP.Core.bound
    repeat' split
    all_goals exact fun q => by cases q
theorem quo_fin {f : FP.Core.Fmt} {x y : FP.Core.Datum} (hx : fin0 x = true) (hy : fin1 y = true) : FP.Core.quotient f x y ≠ .nan := by
  rcases x with _ | _ | ⟨s, c, q⟩ <;> rcases y with _ | _ | ⟨s', c', q'⟩ <;> try (first | (exact absurd hx (by decide)) | (exact absurd hy (by decide)))
  unfold FP.Core.quotient
  have hc : c' ≠ 0 := of_decide_eq_true hy
  rw [if_neg hc]
  exact rr_fin _ _ _ _ _
theorem round_fin {f : FP.Core.Fmt} {x : FP.Core.Datum} (hx : x ≠ .nan) : FP.Core.round f x ≠ .nan := by
  rcases x with _ | _ | ⟨s, c, q⟩
  · exact absurd rfl hx
  · exact fun q => by cases q
  · exact rr_fin _ _ _ _ _
set_option maxRecDepth 100000 in
theorem i2f_fin : ∀ n, n < 1601 → fin0 (FP.Core.val32 (FP.i2f (nI n))) = true ∧ (n ≠ 0 → fin1 (FP.Core.val32 (FP.i2f (nI n))) = true) := by decide +kernel
set_option maxRecDepth 100000 in
theorem i2d_fin : ∀ n, n < 801 → fin0 (FP.Core.val64 (FP.i2d (nI n))) = true ∧ (n ≠ 0 → fin1 (FP.Core.val64 (FP.i2d (nI n))) = true) := by decide +kernel
theorem fdiv_num {a b : Nat} (ha : a < 1601) (hb : b < 1601) (h0 : b ≠ 0) : FP.Core.val32 (FP.fdiv (FP.i2f (nI a)) (FP.i2f (nI b))) ≠ .nan := by
  rw [FP.Core.val32_fdiv]
  exact quo_fin (i2f_fin a ha).1 ((i2f_fin b hb).2 h0)
theorem ddiv_num {a b : Nat} (ha : a < 801) (hb : b < 801) (h0 : b ≠ 0) : FP.Core.val64 (FP.ddiv (FP.i2d (nI a)) (FP.i2d (nI b))) ≠ .nan := by
  rw [FP.Core.val64_ddiv]
  exact quo_fin (i2d_fin a ha).1 ((i2d_fin b hb).2 h0)
theorem f2d_num {x : UInt32} (h : FP.Core.val32 x ≠ .nan) : FP.Core.val64 (FP.f2d x) ≠ .nan := by
  unfold FP.f2d FP.Core.fIsNaN FP.Core.isNaN
  rw [if_neg (by rw [decide_eq_true_eq]; exact h), FP.Core.val64_f2d]
  exact round_fin h
