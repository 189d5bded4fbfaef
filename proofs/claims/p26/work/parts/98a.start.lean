section START0
def lv0 : Nat → Bool := fun r => decide (r = 0 ∨ r = 1 ∨ r = 3 ∨ r = 5 ∨ r = 6)
def c00 : ME := fun r => if r = 81 then pl0 else fun _ => 0
theorem c00_0 {r k : Nat} (h : r ≠ 81) : c00 r k = 0 := by unfold c00; rw [if_neg h]
theorem pl0_at {j : Nat} (h : j < 8) : pl0 j = 110 := by
  rcases (show j = 0 ∨ j = 1 ∨ j = 2 ∨ j = 3 ∨ j = 4 ∨ j = 5 ∨ j = 6 ∨ j = 7 by omega) with q | q | q | q | q | q | q | q <;> subst q <;> rfl
theorem tn_0 : tn 0 = 0 := rfl
theorem cI_00 : cI lv0 c00 := by
  have hnb : cNb c00 = 0 := rfl
  have hnp : cNp c00 = 0 := rfl
  unfold cI
  rw [hnb, hnp]
  refine ⟨Nat.zero_le _, Nat.zero_le _, rfl, rfl, rfl, ⟨rfl, rfl, rfl, rfl, fun k _ h => absurd h (Nat.lt_irrefl 0)⟩, ⟨rfl, rfl, rfl, rfl, fun k _ h => absurd h (Nat.lt_irrefl 0)⟩, fun i h => absurd h (Nat.not_lt_zero i), fun i h => absurd h (Nat.not_lt_zero i), fun i h => absurd h (Nat.not_lt_zero i), fun b k _ h1 h2 => decide_eq_false (by omega), fun i h => absurd h (Nat.not_lt_zero i), fun j _ h => decide_eq_false (by omega)⟩
theorem mI_00 : mI c00 := by
  have hnb : mNb c00 = 0 := rfl
  have hnp : mNp c00 = 0 := rfl
  unfold mI
  rw [hnb, hnp]
  refine ⟨rfl, Nat.zero_le _, rfl, Nat.zero_le _, fun b _ => ?_, fun i h => absurd h (Nat.not_lt_zero i)⟩
  have hq : mNq c00 b = 0 := by unfold mNq; rw [c00_0 (by decide)]; rfl
  rw [hq, c00_0 (by decide)]
  exact ⟨rfl, Nat.zero_le _, fun k h => absurd h (Nat.not_lt_zero k)⟩
theorem Rel_00 : Rel c00 c00 := by
  refine ⟨0, Nat.zero_le _, rfl, rfl, ⟨rfl, rfl⟩, ⟨fun i _ => ?_, fun i => Or.inl (c00_0 (by decide)), fun i => Or.inl (c00_0 (by decide)), ?_⟩, fun i h => absurd h (Nat.not_lt_zero i), fun i h => absurd h (Nat.not_lt_zero i), fun b _ _ => ?_, fun j _ h => ?_⟩
  · rw [c00_0 (by decide), c00_0 (by decide), c00_0 (by decide), c00_0 (by decide)]; exact ⟨rfl, rfl⟩
  · decide +kernel
  · rw [c00_0 (by decide), c00_0 (by decide), c00_0 (by decide), c00_0 (by decide), c00_0 (by decide)]
    exact ⟨rfl, rfl, rfl, rfl, rfl⟩
  · rw [c00_0 (by decide), c00_0 (by decide), c00_0 (by decide), c00_0 (by decide), c00_0 (by decide)]
    exact ⟨rfl, rfl, rfl, rfl, rfl, pl0_at h⟩
theorem sA_00 {W : ME} : sA 0 W lv0 c00 c00 := ⟨⟨cI_00, fun x hx => decide_eq_false (by omega), Rel_00, mI_00, Nat.zero_le _⟩, rfl, rfl, fun i hi => absurd hi (Nat.not_lt_zero i), fun u _ => ⟨c00_0 (by decide), c00_0 (by decide)⟩, c00_0 (by decide)⟩
theorem HH_00 {g : GW} {ad ad1 : AD} {X : va_E} (h1 : ad1 1 = ad 1) (h3 : ad1 3 = ad 3) (h5 : ad1 5 = ad 5) (h6 : ad1 6 = ad 6) : HH g ad lv0 c00 (fun _ => none) (tOff g ad1 (va_up (fun _ => none) 0 X)) := by
  refine ⟨fun r hr => ?_, fun r hr => ?_⟩
  · unfold tOff
    rcases (show r = 0 ∨ r = 1 ∨ r = 3 ∨ r = 5 ∨ r = 6 ∨ (r ≠ 0 ∧ r ≠ 1 ∧ r ≠ 3 ∧ r ≠ 5 ∧ r ≠ 6) by omega) with q | q | q | q | q | ⟨q0, q1, q3, q5, q6⟩
    · subst q
      rw [va_up_self]
      show some (offO ad1 (fun _ => 0)) = some (offO ad (c00 0))
      unfold offO
      rw [h1, h3, h5, h6]
      rfl
    · subst q
      rw [va_up_ne _ _ (by decide), va_up_ne _ _ (by decide), va_up_ne _ _ (by decide), va_up_ne _ _ (by decide), va_up_self]
      rfl
    · subst q
      rw [va_up_ne _ _ (by decide), va_up_ne _ _ (by decide), va_up_ne _ _ (by decide), va_up_self]
      rfl
    · subst q
      rw [va_up_ne _ _ (by decide), va_up_ne _ _ (by decide), va_up_self]
      rfl
    · subst q
      rw [va_up_ne _ _ (by decide), va_up_self]
      rfl
    · rw [va_up_ne _ _ q0, va_up_ne _ _ q6, va_up_ne _ _ q5, va_up_ne _ _ q3, va_up_ne _ _ q1, va_up_ne _ _ q0, show lv0 r = false from decide_eq_false (by omega)]
      rfl
  · unfold tOff
    rw [va_up_ne _ _ (by omega), va_up_ne _ _ (by omega), va_up_ne _ _ (by omega), va_up_ne _ _ (by omega), va_up_ne _ _ (by omega), va_up_ne _ _ (by omega)]
/-- the runs alone -/
def rn (g : GW) (W : ME) : RH := va_up (fun _ => none) 84 (some (arI g 2 (W 84)))
theorem rn_p {g : GW} {ad : AD} {τ : RH} {Lv : Nat → Bool} {C W : ME} (hH : HH g ad Lv C (rn g W) τ) (i : Nat) (x : Int32) : HH g ad Lv C (rn g (up2 W 84 i x)) (va_up τ 84 (some (arI g 2 (va_up (W 84) i x)))) := by
  have h := hH.rho (r := 84) (by decide) (some (arI g 2 (va_up (W 84) i x)))
  have e : va_up (rn g W) 84 (some (arI g 2 (va_up (W 84) i x))) = rn g (up2 W 84 i x) := by
    unfold rn up2
    rw [up_up, va_up_self]
  rw [e] at h
  exact h
def w0 (W : ME) : ME := fun r => if r = 84 then W 84 else fun _ => 0
theorem la_new {g : GW} {n : Nat} {W : ME} : va_up (va_up (va_up (va_up (va_up (va_up (rn g W) 85 (some (arI g n (fun _ => 0)))) 86 (some (arI g n (fun _ => 0)))) 87 (some (arI g n (fun _ => 0)))) 88 (some (arZ g 10 (fun _ => 0)))) 89 (some (arZ g 10 (fun _ => 0)))) 90 (some (arC g n (fun _ => 0))) = laR g n (w0 W) := by
  funext r
  rcases (show r = 84 ∨ r = 85 ∨ r = 86 ∨ r = 87 ∨ r = 88 ∨ r = 89 ∨ r = 90 ∨ (r ≠ 84 ∧ r ≠ 85 ∧ r ≠ 86 ∧ r ≠ 87 ∧ r ≠ 88 ∧ r ≠ 89 ∧ r ≠ 90) by omega) with q | q | q | q | q | q | q | ⟨q1, q2, q3, q4, q5, q6, q7⟩
  · subst q; rfl
  · subst q; rfl
  · subst q; rfl
  · subst q; rfl
  · subst q; rfl
  · subst q; rfl
  · subst q; rfl
  · unfold laR rn
    rw [va_up_ne _ _ q7, va_up_ne _ _ q6, va_up_ne _ _ q5, va_up_ne _ _ q4, va_up_ne _ _ q3, va_up_ne _ _ q2, va_up_ne _ _ q1, if_neg q1, if_neg q2, if_neg q3, if_neg q4, if_neg q5, if_neg q6, if_neg q7]
theorem tn_lt (x : Int32) : tn x < 2 ^ 31 := by
  have h := x.toInt_lt
  show x.toInt.toNat < 2 ^ 31
  omega
end START0
