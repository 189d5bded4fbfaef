section AGE
variable {Lv : Nat → Bool} {A B : ME} {T : Nat → Nat}
/-- a sample that ages -/
theorem age_1 (hT : RelT A B T) (hI : cI Lv A) {p : Nat} (hp : p < cNp A) : RelT (agJ A p) (maJ B p) T ∧ (∀ j, isC (agJ A p) j = isC A j) := by
  have hP := hT.2.2.2.1 p hp
  have hn8 := hI.2.1
  have hE : cE A (agJ A p) := cE_agJ
  have h5 := hP.2.2.2.2.1
  have key : rP5 (agJ A p) (maJ B p) p ∧ ((agJ A p) (40 + p) 7 = -1 ↔ A (40 + p) 7 = -1) := by
    unfold rP5 agJ maJ
    rw [up2_eq, up2_eq, up2_ne (by omega), up2_ne (by omega)]
    rcases h5 with ⟨a1, a2, a3⟩ | ⟨a1, a2, ⟨l, a3, a4⟩, a5⟩
    · rw [a1, if_neg (fun q => absurd q.1 (by decide))]
      exact ⟨Or.inl ⟨rfl, a2, a3⟩, Iff.rfl⟩
    · have hv : maV B p = if 0 < A (40 + p) 7 ∧ ¬ A (40 + p) 8 = 99 then 1 else 0 := by
        unfold maV
        rw [a1, a2]
        have e : ((A (40 + p) 8 = 114 ∨ A (40 + p) 8 = 98) ∧ 0 < A (40 + p) 7) = (0 < A (40 + p) 7 ∧ ¬ A (40 + p) 8 = 99) := by
          apply propext
          constructor
          · rintro ⟨q1, q2⟩
            exact ⟨q2, fun q => by rw [q] at q1; exact absurd q1 (by decide)⟩
          · rintro ⟨q1, q2⟩
            exact ⟨by rcases a5 with a5 | a5 | a5; exact Or.inl a5; exact absurd a5 q2; exact Or.inr a5, q1⟩
        simp only [e]
      rw [hv]
      by_cases h0 : 0 < A (40 + p) 7 ∧ ¬ A (40 + p) 8 = 99
      · rw [if_pos h0, if_pos h0, a1, a4]
        rw [a4] at h0
        rcases l with _ | l
        · exact absurd h0.1 (by decide)
        · rw [nI_pred]
          exact ⟨Or.inr ⟨rfl, a2, ⟨l, by omega, rfl⟩, a5⟩, ⟨fun q => absurd q (nI_ne1 (by omega)), fun q => absurd q (nI_ne1 (by omega))⟩⟩
      · rw [if_neg h0, if_neg h0, Int32.sub_zero]
        exact ⟨Or.inr ⟨a1, a2, ⟨l, a3, a4⟩, a5⟩, Iff.rfl⟩
  refine ⟨hT.prop hI hp hE (fun r k h1 h2 => up2_ne (by omega)) (fun r k h1 h2 h3 => up2_ne (by omega)) (fun k h1 h2 => up2_ne (by omega)) (hP.smp (by omega) hE.nb hI.1 (ln_lt hI hp).2.1 (fun b hb => hE.qrow hb) (fun k h7 h8 => up2_ne (by omega)) (fun r h1 h2 => up2_ne (by omega)) key.1), fun j => ?_⟩
  by_cases hj : j = p
  · subst hj
    unfold isC
    have e8 : agJ A j (40 + j) 8 = A (40 + j) 8 := up2_ne (by omega)
    simp only [key.2, e8]
  · unfold isC agJ
    rw [up2_ne (by omega), up2_ne (by omega)]
theorem age_all : ∀ {f p : Nat} {A B : ME}, RelT A B T → cI Lv A → p + f ≤ cNp A → RelT (agS f p A) (maS f p B) T ∧ (∀ j, isC (agS f p A) j = isC A j)
  | 0, _, _, _, h, _, _ => ⟨h, fun _ => rfl⟩
  | f + 1, p, A, B, h, hI, hp => by
    obtain ⟨e1, e2⟩ := age_1 h hI (p := p) (by omega)
    have hE : cE A (agJ A p) := cE_agJ
    obtain ⟨e3, e4⟩ := age_all (f := f) (p := p + 1) e1 (hE.keep hI) (by rw [hE.np]; omega)
    exact ⟨e3, fun j => (e4 j).trans (e2 j)⟩
end AGE
