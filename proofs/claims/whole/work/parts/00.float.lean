theorem n32_of {x : UInt32} (h : FP.Core.val32 x ≠ .nan) : vf_n32 x := by
  unfold vf_n32
  rw [UInt32.le_iff_toNat_le]
  have e : (x &&& 0x7fffffff).toNat = x.toNat % 2 ^ 31 := by
    rw [UInt32.toNat_and, show (0x7fffffff : UInt32).toNat = 2 ^ 31 - 1 from rfl, Nat.and_two_pow_sub_one_eq_mod]
  rw [e, show (0x7f800000 : UInt32).toNat = 255 * 2 ^ 23 from rfl]
  have hx := x.toNat_lt
  unfold FP.Core.val32 FP.Core.decode FP.Core.fieldE FP.Core.fieldT at h
  rw [show FP.Core.b32.tails = 2 ^ 23 from by decide, show FP.Core.b32.exps = 256 from by decide] at h
  by_cases h1 : x.toNat / 2 ^ 23 % 256 = 256 - 1
  · rw [if_pos h1] at h
    by_cases h2 : x.toNat % 2 ^ 23 = 0
    · omega
    · rw [if_neg h2] at h; exact absurd rfl h
  · omega
theorem n64_of {x : UInt64} (h : FP.Core.val64 x ≠ .nan) : vf_n64 x := by
  unfold vf_n64
  rw [UInt64.le_iff_toNat_le]
  have e : (x &&& 0x7fffffffffffffff).toNat = x.toNat % 2 ^ 63 := by
    rw [UInt64.toNat_and, show (0x7fffffffffffffff : UInt64).toNat = 2 ^ 63 - 1 from rfl, Nat.and_two_pow_sub_one_eq_mod]
  rw [e, show (0x7ff0000000000000 : UInt64).toNat = 2047 * 2 ^ 52 from rfl]
  have hx := x.toNat_lt
  unfold FP.Core.val64 FP.Core.decode FP.Core.fieldE FP.Core.fieldT at h
  rw [show FP.Core.b64.tails = 2 ^ 52 from by decide, show FP.Core.b64.exps = 2048 from by decide] at h
  by_cases h1 : x.toNat / 2 ^ 52 % 2048 = 2048 - 1
  · rw [if_pos h1] at h
    by_cases h2 : x.toNat % 2 ^ 52 = 0
    · omega
    · rw [if_neg h2] at h; exact absurd rfl h
  · omega
/-- a finite number, not 0 -/
def fin1 : FP.Core.Datum → Bool
  | .fin _ c _ => decide (c ≠ 0)
  | _ => false
def fin0 : FP.Core.Datum → Bool
  | .fin _ _ _ => true
  | _ => false
theorem rr_fin (f : FP.Core.Fmt) (s : Bool) (num den : Nat) (e : Int) : FP.Core.roundRatio f s num den e ≠ .nan := by
  unfold FP.Core.roundRatio
  split
  · exact fun q => by cases q
  · unfold FP.Core.roundAt FP.Core.settle FP.Core.bound
    repeat' split
    all_goals exact fun q => by cases q
theorem quo_fin {f : FP.Core.Fmt} {x y : FP.Core.Datum} (hx : fin0 x = true) (hy : fin1 y = true) : FP.Core.quotient f x y ≠ .nan := by
  cases x with
  | nan => exact absurd (show false = true from hx) (by decide)
  | inf s => exact absurd (show false = true from hx) (by decide)
  | fin s c q =>
    cases y with
    | nan => exact absurd (show false = true from hy) (by decide)
    | inf t => exact absurd (show false = true from hy) (by decide)
    | fin t d r =>
      unfold FP.Core.quotient
      have hc : d ≠ 0 := of_decide_eq_true hy
      dsimp only
      rw [if_neg hc]
      exact rr_fin _ _ _ _ _
theorem round_fin {f : FP.Core.Fmt} {x : FP.Core.Datum} (hx : x ≠ .nan) : FP.Core.round f x ≠ .nan := by
  rcases x with _ | _ | ⟨s, c, q⟩
  · exact absurd rfl hx
  · exact fun q => by cases q
  · exact rr_fin _ _ _ _ _
theorem fdiv_ok {a b : UInt32} (ha : fin0 (FP.Core.val32 a) = true) (hb : fin1 (FP.Core.val32 b) = true) : FP.Core.val32 (FP.fdiv a b) ≠ .nan := by
  rw [FP.Core.val32_fdiv]
  exact quo_fin ha hb
theorem ddiv_ok {a b : UInt64} (ha : fin0 (FP.Core.val64 a) = true) (hb : fin1 (FP.Core.val64 b) = true) : FP.Core.val64 (FP.ddiv a b) ≠ .nan := by
  rw [FP.Core.val64_ddiv]
  exact quo_fin ha hb
theorem f2d_num {x : UInt32} (h : FP.Core.val32 x ≠ .nan) : FP.Core.val64 (FP.f2d x) ≠ .nan := by
  unfold FP.f2d FP.Core.fIsNaN FP.Core.isNaN
  rw [if_neg (by rw [decide_eq_true_eq]; exact h), FP.Core.val64_f2d]
  exact round_fin h
