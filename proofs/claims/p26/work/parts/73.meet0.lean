section MEET0
variable {Lv : Nat → Bool} {A B : ME} {T : Nat → Nat}
/-- the panel's first step keeps the relation -/
theorem meet_0 (hT : RelT A B T) (hI : cI Lv A) {b : Nat} (hb : b < cNb A) (hm : A (10 + 10 * b) 9 = 0) : RelT (up2 A (10 + 10 * b) 9 1) (mMeet0 B b) T := by
  have hb2 := (cI_lin hI hb).2
  have hl := hT.2.2.1 b hb
  obtain ⟨p1, p2, p3, p4, p5, p6⟩ := hl
  obtain ⟨m1, m2, m3⟩ := p3.1 hm
  have hq : cNq (up2 A (10 + 10 * b) 9 1) b = cNq A b := by unfold cNq; rw [up2_row (by omega)]
  have bne : ∀ r k, ¬ (r = 68 ∧ k = b) → ¬ (r = 65 ∧ k = b) → mMeet0 B b r k = B r k := fun r k h1 h2 => by unfold mMeet0; rw [up2_ne h2, up2_ne h1]
  refine hT.line hI hb (cE.put (by unfold cT; omega)) (fun r k h1 h2 => up2_ne (by omega)) (fun r k h1 h2 h3 => bne r k (by omega) (by omega)) (fun k h1 h2 => bne 60 k (by omega) (by omega)) ⟨?_, ?_, ?_, ?_, ?_, ?_⟩
  · obtain ⟨a1, a2, a3, a4, a5, a6⟩ := p1
    unfold rL1
    rw [bne 61 b (by omega) (by omega), bne 62 b (by omega) (by omega), bne 63 b (by omega) (by omega), bne 64 b (by omega) (by omega), bne 69 b (by omega) (by omega)]
    unfold mMeet0
    simp (disch := omega) only [up2_ne, up2_eq]
    exact ⟨a1, a2, a3, a4, trivial, a6⟩
  · unfold rL2 at *
    simp (disch := omega) only [up2_ne]
    exact p2
  · unfold rL3
    refine ⟨fun q => ?_, fun _ => ?_⟩
    · rw [up2_eq] at q; exact absurd q (by decide)
    · unfold mMeet0
      rw [up2_eq, up2_ne (by omega), m3]
      exact p1.1
  · unfold rL4
    rw [hq, m1]
    refine ⟨?_, fun k hk => absurd hk (Nat.not_lt_zero k)⟩
    unfold mNq
    rw [bne 66 b (by omega) (by omega)]
    have := p4.1
    rw [m1] at this
    exact this
  · unfold rL5 at *; rw [up2_ne (by omega)]; exact p5
  · unfold rL6 at *
    rw [hq, up2_row (by omega : 14 + 10 * b ≠ 10 + 10 * b), up2_row (by omega : 13 + 10 * b ≠ 10 + 10 * b)]
    exact (rep_cong hI hb hq (up2_row (by omega)) (up2_row (by omega)) (up2_ne (by omega)) (up2_ne (by omega)) (fun j hj => up2_ne (by omega))).trans p6
end MEET0
