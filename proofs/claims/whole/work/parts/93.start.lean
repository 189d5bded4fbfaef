section START0
def lv0 : Nat → Bool := fun r => decide (r = 0 ∨ r = 1 ∨ r = 3 ∨ r = 5 ∨ r = 6 ∨ (60 ≤ r ∧ r < 84))
def c00 : ME := fun r => if r = 81 then pl0 else fun _ => 0
theorem c00_0 {r k : Nat} (h : r ≠ 81) : c00 r k = 0 := by unfold c00; rw [if_neg h]
theorem pl0_at {j : Nat} (h : j < 8) : pl0 j = 110 := by
  rcases (show j = 0 ∨ j = 1 ∨ j = 2 ∨ j = 3 ∨ j = 4 ∨ j = 5 ∨ j = 6 ∨ j = 7 by omega) with q | q | q | q | q | q | q | q <;> subst q <;> rfl
theorem tn_0 : tn 0 = 0 := rfl
theorem cI_00 : cI lv0 c00 := by
  have hnb : cNb c00 = 0 := rfl
  have hnp : cNp c00 = 0 := rfl
  unfold cI
  rw [hnb, hnp]
  refine ⟨Nat.zero_le _, Nat.zero_le _, rfl, rfl, rfl, ⟨rfl, rfl, rfl, rfl, fun k _ h => absurd h (Nat.lt_irrefl 0)⟩, ⟨rfl, rfl, rfl, rfl, fun k _ h => absurd h (Nat.lt_irrefl 0)⟩, fun i h => absurd h (Nat.not_lt_zero i), fun i h => absurd h (Nat.not_lt_zero i), fun i h => absurd h (Nat.not_lt_zero i), fun b k _ h1 h2 => decide_eq_false (by omega), fun i h => absurd h (Nat.not_lt_zero i), fun j _ h => decide_eq_false (by omega)⟩
theorem mI_00 : mI c00 := by
  have hnb : mNb c00 = 0 := rfl
  have hnp : mNp c00 = 0 := rfl
  unfold mI
  rw [hnb, hnp]
  refine ⟨rfl, Nat.zero_le _, rfl, Nat.zero_le _, fun b _ => ?_, fun i h => absurd h (Nat.not_lt_zero i)⟩
  have hq : mNq c00 b = 0 := by unfold mNq; rw [c00_0 (by decide)]; rfl
  rw [hq, c00_0 (by decide)]
  exact ⟨rfl, Nat.zero_le _, fun k h => absurd h (Nat.not_lt_zero k)⟩
theorem Rel_00 : Rel c00 c00 := by
  refine ⟨0, Nat.zero_le _, rfl, rfl, ⟨rfl, rfl⟩, ⟨fun i _ => ?_, fun i => Or.inl (c00_0 (by decide)), fun i => Or.inl (c00_0 (by decide)), ?_⟩, fun i h => absurd h (Nat.not_lt_zero i), fun i h => absurd h (Nat.not_lt_zero i), fun b _ _ => ?_, fun j _ h => ?_⟩
  · rw [c00_0 (by decide), c00_0 (by decide), c00_0 (by decide), c00_0 (by decide)]; exact ⟨rfl, rfl⟩
  · decide +kernel
  · rw [c00_0 (by decide), c00_0 (by decide), c00_0 (by decide), c00_0 (by decide), c00_0 (by decide)]
    exact ⟨rfl, rfl, rfl, rfl, rfl⟩
  · rw [c00_0 (by decide), c00_0 (by decide), c00_0 (by decide), c00_0 (by decide), c00_0 (by decide)]
    exact ⟨rfl, rfl, rfl, rfl, rfl, pl0_at h⟩
theorem lwP_00 : lwP lv0 c00 := ⟨cI_00, mI_00, fun x hx => decide_eq_false (by omega), fun r h1 h2 => decide_eq_true (by omega), Rel_00, Nat.zero_le _⟩
theorem ob_mod {g : GW} {ad ad2 : AD} {w : Nat → Int32} (h : ∀ r, 60 ≤ r → r < 84 → ad2 r = ad r) {r : Nat} (h1 : 60 ≤ r) (h2 : r < 84) : ob g ad2 r w = ob g ad r w := by
  by_cases h0 : r = 60
  · subst h0
    show moO ad2 w = moO ad w
    unfold moO
    simp (disch := omega) only [h]
  · rcases rng23 (x := r) ⟨by omega, h2⟩ with q | q | q | q | q | q | q | q | q | q | q | q | q | q | q | q | q | q | q | q | q | q | q <;> subst q <;> rfl
/-- the heap behind the two constructors and the two rows -/
theorem HH_00 {g : GW} {ad1 ad2 ad : AD} {X Y Z V : va_E} (h1 : ad1 1 = ad 1) (h3 : ad1 3 = ad 3) (h5 : ad1 5 = ad 5) (h6 : ad1 6 = ad 6) (h2 : ∀ r, 60 ≤ r → r < 84 → ad2 r = ad r) : HH g ad lv0 c00 (va_up (va_up (tMod g ad2 (va_up (tOff g ad1 (va_up (fun _ => none) 0 X)) 60 Y)) 90 Z) 91 V) (va_up (va_up (tMod g ad2 (va_up (tOff g ad1 (va_up (fun _ => none) 0 X)) 60 Y)) 90 Z) 91 V) := by
  refine ⟨fun r hr => ?_, fun _ _ => rfl⟩
  rw [va_up_ne _ _ (by omega), va_up_ne _ _ (by omega)]
  by_cases h60 : 60 ≤ r
  · rw [show lv0 r = true from decide_eq_true (by omega), if_pos rfl]
    unfold tMod
    by_cases hr60 : r = 60
    · subst hr60
      rw [if_pos rfl]
      have k := ob_mod (g := g) (w := fun _ => 0) h2 (Nat.le_refl 60) (by decide)
      exact congrArg some k
    · rw [if_neg hr60, if_pos ⟨by omega, hr⟩]
      exact congrArg some (ob_mod h2 h60 hr)
  · unfold tMod
    rw [if_neg (by omega), if_neg (by omega), va_up_ne _ _ (by omega)]
    unfold tOff
    rcases (show r = 0 ∨ r = 1 ∨ r = 3 ∨ r = 5 ∨ r = 6 ∨ (r ≠ 0 ∧ r ≠ 1 ∧ r ≠ 3 ∧ r ≠ 5 ∧ r ≠ 6) by omega) with q | q | q | q | q | ⟨q0, q1, q3, q5, q6⟩
    · subst q
      rw [va_up_self]
      show some (offO ad1 (fun _ => 0)) = some (offO ad (c00 0))
      unfold offO
      rw [h1, h3, h5, h6]
      rfl
    · subst q
      rw [va_up_ne _ _ (by decide), va_up_ne _ _ (by decide), va_up_ne _ _ (by decide), va_up_ne _ _ (by decide), va_up_self]
      rfl
    · subst q
      rw [va_up_ne _ _ (by decide), va_up_ne _ _ (by decide), va_up_ne _ _ (by decide), va_up_self]
      rfl
    · subst q
      rw [va_up_ne _ _ (by decide), va_up_ne _ _ (by decide), va_up_self]
      rfl
    · subst q
      rw [va_up_ne _ _ (by decide), va_up_self]
      rfl
    · rw [va_up_ne _ _ q0, va_up_ne _ _ q6, va_up_ne _ _ q5, va_up_ne _ _ q3, va_up_ne _ _ q1, va_up_ne _ _ q0, show lv0 r = false from decide_eq_false (by omega)]
      rfl
end START0
