section TICK
variable {Lv : Nat → Bool} {A B : ME}
/-- the hour strikes -/
theorem tick {t : Nat} (hT : RelT A B (fun _ => t + 1)) (hI : cI Lv A) (ht : t < 200) (h1 : A 0 4 = nI t) (h2 : B 60 3 = nI t) : Rel (up2 A 0 4 (A 0 4 + 1)) (mTick B) := by
  have hq : ∀ r k, 61 ≤ r → mTick B r k = B r k := fun r k h => by unfold mTick; exact up2_ne (by omega)
  obtain ⟨r1, r2, r3, r4, r5⟩ := hT
  have h12 := hI.1
  have hn8 := hI.2.1
  have row : ∀ r, r ≠ 0 → up2 A 0 4 (A 0 4 + 1) r = A r := fun r h => up2_row h
  have e0 : ∀ k, k ≠ 3 → mTick B 60 k = B 60 k := fun k h => by unfold mTick; exact up2_ne (by omega)
  refine ⟨t + 1, by omega, by rw [up2_eq, h1]; exact nI_1 t, by unfold mTick; rw [up2_eq, h2]; exact nI_1 t, r1.cong (by unfold cNb; rw [row 1 (by decide)]) (by unfold cNp; rw [row 3 (by decide)]) (e0 1 (by decide)) (e0 2 (by decide)), r2.cong (row 5 (by decide)) (row 6 (by decide)) (fun k _ => hq 82 k (by decide)) (fun k _ => hq 83 k (by decide)) (e0 4 (by decide)), fun b hb => ?_, fun j hj => ?_, r5.cong (fun r k h1 _ _ _ => hq r k h1) (e0 1 (by decide)) (e0 2 (by decide))⟩
  · replace hb : b < cNb A := by unfold cNb at hb ⊢; rw [row 1 (by decide)] at hb; exact hb
    exact (r3 b hb).cong hI hb ⟨fun r k h1 h2 _ _ => by rw [row r (by omega)], fun j hj => by rw [row (40 + j) (by omega)]; exact ⟨rfl, rfl, rfl⟩⟩ ⟨fun r h1 _ => hq r b h1, hq 68 b (by decide), hq 69 b (by decide), fun k => hq 67 k (by decide), fun k => hq 75 k (by decide)⟩
  · replace hj : j < cNp A := by unfold cNp at hj ⊢; rw [row 3 (by decide)] at hj; exact hj
    exact (r4 j hj).cong (by omega) (by unfold cNb; rw [row 1 (by decide)]) h12 (ln_lt hI hj).2.1 (fun b _ => ⟨by unfold cNq; rw [row _ (by omega)], row _ (by omega)⟩) (row _ (by omega)) (fun r h1 _ => hq r j (by omega))
end TICK
