section MINV
variable {B : ME}
theorem mI_beam (hM : mI B) (hn : mNb B < 2) {s m : Int32} : mI (up2 (up2 (up2 B 61 (mNb B) s) 62 (mNb B) m) 60 1 (B 60 1 + 1)) := by
  obtain ⟨h1, h2, h3, h4, h5, h6⟩ := hM
  obtain ⟨B', hB'⟩ : ∃ B', B' = up2 (up2 (up2 B 61 (mNb B) s) 62 (mNb B) m) 60 1 (B 60 1 + 1) := ⟨_, rfl⟩
  rw [← hB']
  have bne : ∀ r k, r ≠ 61 → r ≠ 62 → ¬ (r = 60 ∧ k = 1) → B' r k = B r k := fun r k a b c => by rw [hB', up2_ne c, up2_ne (by omega), up2_ne (by omega)]
  have b60 : B' 60 1 = nI (mNb B + 1) := by rw [hB', up2_eq, h1]; exact nI_1 _
  have enb : mNb B' = mNb B + 1 := by unfold mNb at b60 hn ⊢; rw [b60, tn_nI (by omega)]
  have enp : mNp B' = mNp B := by unfold mNp; rw [bne 60 2 (by omega) (by omega) (by omega)]
  unfold mI
  rw [enb, enp, b60, bne 60 2 (by omega) (by omega) (by omega)]
  refine ⟨rfl, by omega, h3, h4, fun b hb => ?_, fun p hp => ?_⟩
  · have e : mNq B' b = mNq B b := by unfold mNq; rw [bne 66 b (by omega) (by omega) (by omega)]
    rw [e, bne 66 b (by omega) (by omega) (by omega)]
    exact ⟨(h5 b hb).1, (h5 b hb).2.1, fun k hk => by rw [bne 67 _ (by omega) (by omega) (by omega)]; exact (h5 b hb).2.2 k hk⟩
  · rw [bne 70 p (by omega) (by omega) (by omega), bne 71 p (by omega) (by omega) (by omega)]
    obtain ⟨⟨ln, a1, a2⟩, a3⟩ := h6 p hp
    exact ⟨⟨ln, by omega, a2⟩, a3⟩
end MINV
