/-! a panel, in the reference's numbers -/
section ACM
variable {B0 B : ME} {n b p : Nat}
/-- behind the panel's first proposals -/
def mA (B0 B : ME) (n b : Nat) (s : Int32) (p : Nat) : Prop :=
  (∀ r k, r ≠ 75 → r ≠ 66 → r ≠ 67 → ¬ (r = 65 ∧ k = b) → B r k = B0 r k) ∧ (∀ j, ¬ B0 70 j = nI b → B 75 j = B0 75 j) ∧
  B 65 b + psum (acG B b) n = B0 61 b ∧ (∀ j, j < n → B0 70 j = nI b → B 75 j = 0 ∨ B 75 j = B0 73 j) ∧ (∀ j, j < n → B0 70 j = nI b → ¬ bef B0 s p j = true → B 75 j = 0)
theorem mA.no {s : Int32} (h : mA B0 B n b s p) : mA B0 B n b s (p + 1) := ⟨h.1, h.2.1, h.2.2.1, h.2.2.2.1, fun j a1 a2 a3 => h.2.2.2.2 j a1 a2 (fun q => a3 (bef_step q))⟩
theorem mA.step {s : Int32} (hz : ∀ j, j < n → B0 76 j = 0 ∧ B0 77 j = 0 ∧ B0 78 j = 0 ∧ B0 79 j = 0) (hp : p < n) (h : mA B0 B n b s p) : mA B0 (mmStep b s p B) n b s (p + 1) := by
  unfold mmStep
  by_cases hc : B 70 p = nI b ∧ B 72 p = s ∧ ¬ B 65 b < B 73 p
  · rw [if_pos hc]
    obtain ⟨h1, h2, h3, h4, h5⟩ := h
    obtain ⟨c1, c2, -⟩ := hc
    have e70 : B0 70 p = nI b := by rw [← h1 70 p (by decide) (by decide) (by decide) (by omega)]; exact c1
    have e72 : B0 72 p = s := by rw [← h1 72 p (by decide) (by decide) (by decide) (by omega)]; exact c2
    have e73 : B 73 p = B0 73 p := h1 73 p (by decide) (by decide) (by decide) (by omega)
    obtain ⟨b1, b2⟩ := bef_no e72
    have e75 : B 75 p = 0 := h5 p hp e70 (by rw [b1]; decide)
    have yne : ∀ r k, r ≠ 67 → r ≠ 66 → ¬ (r = 75 ∧ k = p) → ¬ (r = 65 ∧ k = b) → mmY B b p r k = B r k := fun r k a1 a2 a3 a4 => by
      unfold mmY
      rw [up2_ne a4, up2_ne a3, up2_ne (by omega), up2_ne (by omega)]
    have y75 : mmY B b p 75 p = B 73 p := by
      unfold mmY
      rw [up2_ne (by omega), up2_eq]
    have y65 : mmY B b p 65 b = B 65 b - B 73 p := by
      unfold mmY
      exact up2_eq
    refine ⟨fun r k a1 a2 a3 a4 => ?_, fun j hj => ?_, ?_, fun j hj a1 => ?_, fun j hj a1 a2 => ?_⟩
    · rw [yne r k a3 a2 (by omega) a4]; exact h1 r k a1 a2 a3 a4
    · rw [yne 75 j (by decide) (by decide) (fun q => hj (by rw [q.2]; exact e70)) (by omega)]; exact h2 j hj
    · have eG : ∀ i, i < n → acG (mmY B b p) b i = acG B b i + (if i = p then B 73 p else 0) := fun i hi => by
        unfold acG
        rw [yne 70 i (by decide) (by decide) (by omega) (by omega), yne 76 i (by decide) (by decide) (by omega) (by omega), yne 77 i (by decide) (by decide) (by omega) (by omega), yne 78 i (by decide) (by decide) (by omega) (by omega)]
        by_cases q : i = p
        · subst q
          rw [if_pos c1, if_pos c1, if_pos rfl, y75, e75]; grind
        · rw [yne 75 i (by decide) (by decide) (fun z => q z.2) (by omega), if_neg q, Int32.add_zero]
      have eD : psum (fun i => if i = p then B 73 p else 0) n = B 73 p := by
        have key : ∀ m, psum (fun i => if i = p then B 73 p else 0) m = if p < m then B 73 p else 0 := fun m => by
          induction m with
          | zero => rfl
          | succ m ih =>
            unfold psum
            rw [ih]
            by_cases q : p < m
            · rw [if_pos q, if_neg (show ¬ m = p by omega), if_pos (show p < m + 1 by omega), Int32.add_zero]
            · by_cases q2 : m = p
              · rw [if_neg q, if_pos q2, if_pos (show p < m + 1 by omega), Int32.zero_add]
              · rw [if_neg q, if_neg q2, if_neg (show ¬ p < m + 1 by omega)]; rfl
        rw [key, if_pos hp]
      rw [psum_cong eG, psum_add, eD, y65]
      grind
    · by_cases q : j = p
      · subst q
        rw [y75, e73]; exact Or.inr rfl
      · rw [yne 75 j (by decide) (by decide) (fun z => q z.2) (by omega)]; exact h4 j hj a1
    · have q : ¬ j = p := fun z => a2 (by rw [z]; exact b2)
      rw [yne 75 j (by decide) (by decide) (fun z => q z.2) (by omega)]
      exact h5 j hj a1 (fun z => a2 (bef_step z))
  · rw [if_neg hc]; exact h.no
theorem mA.loop {s : Int32} (hz : ∀ j, j < n → B0 76 j = 0 ∧ B0 77 j = 0 ∧ B0 78 j = 0 ∧ B0 79 j = 0) : ∀ {f p : Nat} {B : ME}, p + f = n → mA B0 B n b s p → mA B0 (mmS b s f p B) n b s n
  | 0, p, B, e, h => by
    have : p = n := by omega
    subst this; exact h
  | f + 1, p, B, e, h => mA.loop hz (f := f) (p := p + 1) (by omega) (h.step hz (by omega))
theorem mA.next {f : Nat} (hf : f < 1000) (h : mA B0 B n b (nI (f + 1)) n) : mA B0 B n b (nI f) 0 := ⟨h.1, h.2.1, h.2.2.1, h.2.2.2.1, fun j a1 a2 a3 => h.2.2.2.2 j a1 a2 (fun q => a3 (bef_next hf q))⟩
theorem mA.all (hN : mNp B0 = n) (hz : ∀ j, j < n → B0 76 j = 0 ∧ B0 77 j = 0 ∧ B0 78 j = 0 ∧ B0 79 j = 0) : ∀ {f : Nat} {B : ME}, f < 1000 → mA B0 B n b (nI f) n → mA B0 (mmM b f B) n b (nI 0) n
  | 0, B, _, h => h
  | f + 1, B, hf, h => by
    have hn : mNp B = n := by unfold mNp; rw [h.1 60 2 (by decide) (by decide) (by decide) (by omega)]; exact hN
    show mA B0 (mmM b f (mmS b (nI f) (mNp B) 0 B)) n b (nI 0) n
    rw [hn]
    exact mA.all hN hz (f := f) (by omega) ((h.next (by omega)).loop hz (Nat.zero_add n))
/-- behind the panel -/
theorem meet_ac (hN : mNp B = n) (hz : ∀ j, j < n → B 76 j = 0 ∧ B 77 j = 0 ∧ B 78 j = 0 ∧ B 79 j = 0) (h75 : ∀ j, j < n → B 70 j = nI b → B 75 j = 0) :
    (∀ r k, r ≠ 75 → r ≠ 66 → r ≠ 67 → ¬ ((r = 65 ∨ r = 68) ∧ k = b) → mMeet B b r k = B r k) ∧ mMeet B b 68 b = 1 ∧ (∀ j, ¬ B 70 j = nI b → mMeet B b 75 j = B 75 j) ∧ ac2 (mMeet B b) n b ∧ ∀ j, j < n → B 70 j = nI b → mMeet B b 75 j = 0 ∨ mMeet B b 75 j = B 73 j := by
  have e0 : ∀ r k, ¬ ((r = 65 ∨ r = 68) ∧ k = b) → mMeet0 B b r k = B r k := fun r k h => by unfold mMeet0; rw [up2_ne (by omega), up2_ne (by omega)]
  have e65 : mMeet0 B b 65 b = B 61 b := by unfold mMeet0; exact up2_eq
  have e68 : mMeet0 B b 68 b = 1 := by unfold mMeet0; rw [up2_ne (by omega), up2_eq]
  have h0 : mA (mMeet0 B b) (mMeet0 B b) n b (nI 101) n := by
    refine ⟨fun _ _ _ _ _ _ => rfl, fun _ _ => rfl, ?_, fun j hj h => ?_, fun j hj h _ => ?_⟩
    · rw [e65, e0 61 b (by omega), psum_cong (h := fun _ => 0) (fun j hj => ?_), psum_0, Int32.add_zero]
      unfold acG
      rw [e0 70 j (by omega), e0 75 j (by omega), e0 76 j (by omega), e0 77 j (by omega), e0 78 j (by omega)]
      by_cases q : B 70 j = nI b
      · rw [if_pos q, h75 j hj q, (hz j hj).1, (hz j hj).2.1, (hz j hj).2.2.1]; rfl
      · rw [if_neg q]
    · rw [e0 70 j (by omega)] at h
      rw [e0 75 j (by omega)]
      exact Or.inl (h75 j hj h)
    · rw [e0 70 j (by omega)] at h
      rw [e0 75 j (by omega)]
      exact h75 j hj h
  have hN0 : mNp (mMeet0 B b) = n := by unfold mNp; rw [e0 60 2 (by omega)]; exact hN
  have h1 := mA.all hN0 (fun j hj => by rw [e0 76 j (by omega), e0 77 j (by omega), e0 78 j (by omega), e0 79 j (by omega)]; exact hz j hj) (f := 101) (by decide) h0
  obtain ⟨a1, a2, a3, a4, -⟩ := h1
  have em : mMeet B b = mmM b 101 (mMeet0 B b) := rfl
  rw [← em] at a1 a2 a3 a4
  refine ⟨fun r k q1 q2 q3 q4 => ?_, ?_, fun j hj => ?_, ?_, fun j hj h => ?_⟩
  · rw [a1 r k q1 q2 q3 (by omega)]; exact e0 r k q4
  · rw [a1 68 b (by decide) (by decide) (by decide) (by omega)]; exact e68
  · rw [a2 j (by rw [e0 70 j (by omega)]; exact hj)]; exact e0 75 j (by omega)
  · unfold ac2
    rw [a3, e0 61 b (by omega), a1 61 b (by decide) (by decide) (by decide) (by omega), e0 61 b (by omega)]
  · have h9 := a4 j hj (by rw [e0 70 j (by omega)]; exact h)
    rw [e0 73 j (by omega)] at h9
    exact h9
end ACM
