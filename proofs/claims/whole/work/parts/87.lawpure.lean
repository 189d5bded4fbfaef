section LCASE
variable {Lv : Nat → Bool} {C : ME}
theorem lg_of {f : Nat → Int64} {x y : Int32} (h : x = y) : lg_cmp (va_up f 0 x.toInt64 0) y.toInt64 = 0 := by rw [va_up_self, h]; exact lg_self _
theorem ch_ok (y : Int32) : vp_nar .char ((y.toUInt32 % 65536).toInt32) = (y.toUInt32 % 65536).toInt32 := pk_vc y
theorem lwP.R (h : lwP Lv C) : Rel C C := h.2.2.2.2.1
theorem lwP.cC (h : lwP Lv C) : rC C := h.2.2.2.2.2
theorem lwP.mm (h : lwP Lv C) : mL Lv := h.2.2.2.1
theorem lwP.b6 (h : lwP Lv C) : ∀ i, C 6 i = 0 ∨ C 6 i = 1 := by
  obtain ⟨t, -, -, -, hT⟩ := h.R
  exact hT.2.1.2.2.1
theorem lwP.c8 (h : lwP Lv C) : ∀ j, j < cNp C → narrow .char (.int (C (40 + j) 8)) = .int (C (40 + j) 8) := fun j hj => by
  obtain ⟨t, -, -, -, hT⟩ := h.R
  rcases (hT.2.2.2.1 j hj).2.2.2.2.1 with ⟨-, a2, -⟩ | ⟨-, -, -, a5⟩
  · rw [a2]; decide +kernel
  · rcases a5 with a5 | a5 | a5 <;> rw [a5] <;> decide +kernel
theorem lwP.c81 (h : lwP Lv C) : ∀ p, p < mNp C → narrow .char (.int (C 81 p)) = .int (C 81 p) := fun p hp => by
  rw [← h.R.np] at hp
  obtain ⟨t, -, -, -, hT⟩ := h.R
  rcases (hT.2.2.2.1 p hp).2.2.2.2.1 with ⟨-, -, a3⟩ | ⟨-, a2, -, a5⟩
  · rw [a3]; decide +kernel
  · rw [a2]; rcases a5 with a5 | a5 | a5 <;> rw [a5] <;> decide +kernel
theorem lwP.c81p (h : lwP Lv C) {j x : Int32} (hk : kPut C j x = 0) : ∀ p, p < mNp (up2 C (40 + tn j) 8 x) → narrow .char (.int (up2 C (40 + tn j) 8 x 81 p)) = .int (up2 C (40 + tn j) 8 x 81 p) := fun p hp => by
  have hj := (prop_lt h (by unfold kPut at hk; exact (if0 hk (by decide)).1)).2
  have e : mNp (up2 C (40 + tn j) 8 x) = mNp C := by unfold mNp; rw [up2_ne (by omega)]
  rw [e] at hp
  rw [up2_ne (by omega)]
  exact h.c81 p hp
theorem lwP.share (h : lwP Lv C) (h0 : ¬ cAllD C = 0) : FP.Core.val32 (cShare C) ≠ .nan := by
  obtain ⟨a, b, h1, h2, h3, h4⟩ := share_small h.R h.1
  unfold cShare
  rw [h3, h4]
  refine fdiv_num h1 h2 (fun q => h0 ?_)
  rw [h4, q]; rfl
theorem lwP.mean (h : lwP Lv C) (h0 : ¬ cNum C = 0) : FP.Core.val64 (cMean C) ≠ .nan := by
  obtain ⟨a, b, h1, h2, h3, h4⟩ := mean_small h.R h.1
  unfold cMean
  rw [h3, h4]
  refine ddiv_num h1 h2 (fun q => h0 ?_)
  rw [h4, q]; rfl
theorem kS0 (hk : kShare C = 0) : ¬ cAllD C = 0 := fun q => by unfold kShare at hk; rw [if_pos q] at hk; exact absurd hk (by decide)
theorem kM9 (hk : kMean C = 0) : ¬ cNum C = 0 := fun q => by unfold kMean at hk; rw [if_pos q] at hk; exact absurd hk (by decide)
end LCASE
