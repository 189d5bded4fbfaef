section MINV
variable {B : ME}
theorem mI_beam (hM : mI B) (hn : mNb B < 2) {s m : Int32} : mI (up2 (up2 (up2 B 61 (mNb B) s) 62 (mNb B) m) 60 1 (B 60 1 + 1)) := by
  obtain ⟨h1, h2, h3, h4, h5, h6⟩ := hM
  obtain ⟨B', hB'⟩ : ∃ B', B' = up2 (up2 (up2 B 61 (mNb B) s) 62 (mNb B) m) 60 1 (B 60 1 + 1) := ⟨_, rfl⟩
  rw [← hB']
  have bne : ∀ r k, r ≠ 61 → r ≠ 62 → ¬ (r = 60 ∧ k = 1) → B' r k = B r k := fun r k a b c => by rw [hB', up2_ne c, up2_ne (by omega), up2_ne (by omega)]
  have b60 : B' 60 1 = nI (mNb B + 1) := by rw [hB', up2_eq, h1]; exact nI_1 _
  have enb : mNb B' = mNb B + 1 := by unfold mNb at b60 hn ⊢; rw [b60, tn_nI (by omega)]
  have enp : mNp B' = mNp B := by unfold mNp; rw [bne 60 2 (by omega) (by omega) (by omega)]
  unfold mI
  rw [enb, enp, b60, bne 60 2 (by omega) (by omega) (by omega)]
  refine ⟨rfl, by omega, h3, h4, fun b hb => ?_, fun p hp => ?_⟩
  · have e : mNq B' b = mNq B b := by unfold mNq; rw [bne 66 b (by omega) (by omega) (by omega)]
    rw [e, bne 66 b (by omega) (by omega) (by omega)]
    exact ⟨(h5 b hb).1, (h5 b hb).2.1, fun k hk => by rw [bne 67 _ (by omega) (by omega) (by omega)]; exact (h5 b hb).2.2 k hk⟩
  · rw [bne 70 p (by omega) (by omega) (by omega), bne 71 p (by omega) (by omega) (by omega)]
    obtain ⟨⟨ln, a1, a2⟩, a3⟩ := h6 p hp
    exact ⟨⟨ln, by omega, a2⟩, a3⟩
theorem mI_prp (hM : mI B) (hn : mNp B < 8) {b us sc w d : Int32} (hb : okm (mNb B) b) (hu : okm 10 us) : mI (up2 (up2 (up2 (up2 (up2 (up2 B 70 (mNp B) b) 71 (mNp B) us) 72 (mNp B) sc) 73 (mNp B) w) 74 (mNp B) d) 60 2 (B 60 2 + 1)) := by
  obtain ⟨h1, h2, h3, h4, h5, h6⟩ := hM
  obtain ⟨B', hB'⟩ : ∃ B', B' = up2 (up2 (up2 (up2 (up2 (up2 B 70 (mNp B) b) 71 (mNp B) us) 72 (mNp B) sc) 73 (mNp B) w) 74 (mNp B) d) 60 2 (B 60 2 + 1) := ⟨_, rfl⟩
  rw [← hB']
  have bne : ∀ r k, ¬ (70 ≤ r ∧ r < 75 ∧ k = mNp B) → ¬ (r = 60 ∧ k = 2) → B' r k = B r k := fun r k a c => by rw [hB', up2_ne c, up2_ne (by omega), up2_ne (by omega), up2_ne (by omega), up2_ne (by omega), up2_ne (by omega)]
  have b70 : B' 70 (mNp B) = b ∧ B' 71 (mNp B) = us := by
    rw [hB']
    simp (disch := omega) only [up2_ne, up2_eq]
    exact ⟨trivial, trivial⟩
  have b60 : B' 60 2 = nI (mNp B + 1) := by rw [hB', up2_eq, h3]; exact nI_1 _
  have enp : mNp B' = mNp B + 1 := by unfold mNp at b60 hn ⊢; rw [b60, tn_nI (by omega)]
  have enb : mNb B' = mNb B := by unfold mNb; rw [bne 60 1 (by omega) (by omega)]
  unfold mI
  rw [enb, enp, b60, bne 60 1 (by omega) (by omega)]
  refine ⟨h1, h2, rfl, by omega, fun b' hb' => ?_, fun p hp => ?_⟩
  · have e : mNq B' b' = mNq B b' := by unfold mNq; rw [bne 66 b' (by omega) (by omega)]
    rw [e, bne 66 b' (by omega) (by omega)]
    refine ⟨(h5 b' hb').1, (h5 b' hb').2.1, fun k hk => ?_⟩
    rw [bne 67 _ (by omega) (by omega)]
    obtain ⟨q, q1, q2⟩ := (h5 b' hb').2.2 k hk
    exact ⟨q, by omega, q2⟩
  · by_cases hpn : p < mNp B
    · rw [bne 70 p (by omega) (by omega), bne 71 p (by omega) (by omega)]
      exact h6 p hpn
    · have hpe : p = mNp B := by omega
      subst hpe
      rw [b70.1, b70.2]
      exact ⟨⟨tn b, (okm_ix hb (by omega)).2, (okm_ix hb (by omega)).1⟩, ⟨tn us, (okm_ix hu (by decide)).2, (okm_ix hu (by decide)).1⟩⟩
end MINV
