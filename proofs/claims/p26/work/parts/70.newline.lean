section NEWL
variable {Lv : Nat → Bool} {A B : ME}
theorem oBeam_k {C : ME} {s m : Int32} : oBeam C s m (10 + 10 * cNb C) 0 = s ∧ oBeam C s m (10 + 10 * cNb C) 1 = m ∧ oBeam C s m (13 + 10 * cNb C) 2 = s := by
  have e : ∀ r, 10 ≤ r → oBeam C s m r = oLine C (10 + 10 * cNb C) s m r := fun r hr => by
    unfold oBeam oAdd
    rw [va_up_ne _ _ (by omega), va_up_ne _ _ (by omega)]
  rw [e _ (by omega), e _ (by omega)]
  have f1 : oLine C (10 + 10 * cNb C) s m (10 + 10 * cNb C) = fun k => if k = 0 then s else if k = 1 then m else 0 := by
    unfold oLine; rw [if_pos (by omega), if_pos rfl]
  have f2 : oLine C (10 + 10 * cNb C) s m (13 + 10 * cNb C) = fun k => if k = 2 then s else 0 := by
    unfold oLine; rw [if_pos (by omega), if_neg (by omega), if_pos (by omega)]
  rw [f1, f2]
  exact ⟨rfl, rfl, rfl⟩
theorem e_addBeamline (h : Rel A B) (hI : cI Lv A) (hM : mI B) {s m : Int32} : kBeam A s m = jBeam B s m ∧ (kBeam A s m = 0 → nI (cNb A) = B 60 1 + 1 - 1 ∧ Rel (oBeam A s m) (up2 (up2 (up2 B 61 (mNb B) s) 62 (mNb B) m) 60 1 (B 60 1 + 1))) := by
  obtain ⟨t, t1, t2, t3, hT⟩ := h
  have hnb : cNb A = mNb B := hT.1.1
  have h12 := hI.1
  have hn8 := hI.2.1
  have h60 : B 60 1 = nI (cNb A) := by rw [hM.1, hnb]
  have hans : nI (cNb A) = B 60 1 + 1 - 1 := by rw [h60, nI_1, nI_pred]
  refine ⟨?_, fun hk => ⟨hans, ?_⟩⟩
  · unfold kBeam jBeam
    rw [h60]
    by_cases h1 : win s 3 40
    · rw [if_pos h1]
      by_cases h2 : win m 10 999
      · rw [if_pos h2, if_pos (show win s 3 40 ∧ win m 10 999 from ⟨h1, h2⟩)]
        by_cases h3 : cNb A < 2
        · rw [if_pos h3, if_neg (fun q => by have := (nI_eq (b := 2) (by omega) (by decide)).mp q; omega)]
        · rw [if_neg h3, if_pos (by rw [show cNb A = 2 by omega]; rfl)]
      · rw [if_neg h2, if_neg (fun q => h2 q.2)]
    · rw [if_neg h1, if_neg (fun q => h1 q.1)]
  unfold kBeam at hk
  obtain ⟨hw1, hk⟩ := if0 hk (by decide)
  obtain ⟨hw2, hk⟩ := if0 hk (by decide)
  obtain ⟨hn, -⟩ := if0 hk (by decide)
  obtain ⟨hm1, hm2⟩ := win_n (hi := 999) hw2 (by decide) (by decide)
  rw [← hnb]
  have hZ := hT.2.2.2.2.1 (cNb A) (by omega) hn
  obtain ⟨A', hA'⟩ : ∃ A', A' = oBeam A s m := ⟨_, rfl⟩
  obtain ⟨B', hB'⟩ : ∃ B', B' = up2 (up2 (up2 B 61 (cNb A) s) 62 (cNb A) m) 60 1 (B 60 1 + 1) := ⟨_, rfl⟩
  rw [← hA', ← hB']
  have ne : ∀ r, ¬ (10 + 10 * cNb A ≤ r ∧ r < 18 + 10 * cNb A ∧ r ≠ 12 + 10 * cNb A) → r ≠ 1 → r ≠ 2 → A' r = A r := fun r a b c => by rw [hA']; exact oBeam_ne a b c
  have oz : ∀ r k, (10 + 10 * cNb A ≤ r ∧ r < 18 + 10 * cNb A ∧ r ≠ 12 + 10 * cNb A) → (r = 10 + 10 * cNb A → 2 ≤ k) → (r = 13 + 10 * cNb A → k ≠ 2) → A' r k = 0 := fun r k a b c => by rw [hA']; exact oBeam_z a b c
  obtain ⟨k0, k1, k2⟩ := oBeam_k (C := A) (s := s) (m := m)
  rw [← hA'] at k0 k1 k2
  have eb : cNb A' = cNb A + 1 := by rw [hA']; exact oBeam_nb hn
  have ep : cNp A' = cNp A := by rw [hA']; exact oBeam_np
  have bne : ∀ r k, ¬ (r = 61 ∧ k = cNb A) → ¬ (r = 62 ∧ k = cNb A) → ¬ (r = 60 ∧ k = 1) → B' r k = B r k := fun r k a b c => by rw [hB', up2_ne c, up2_ne b, up2_ne a]
  have b61 : B' 61 (cNb A) = s := by rw [hB', up2_ne (by omega), up2_ne (by omega), up2_eq]
  have b62 : B' 62 (cNb A) = m := by rw [hB', up2_ne (by omega), up2_eq]
  have b60 : B' 60 1 = nI (cNb A + 1) := by rw [hB', up2_eq, h60]; exact nI_1 _
  have enb : mNb B' = cNb A + 1 := by unfold mNb; rw [b60, tn_nI (by omega)]
  have enp : mNp B' = mNp B := by unfold mNp; rw [bne 60 2 (by omega) (by omega) (by omega)]
  refine ⟨t, t1, by rw [ne 0 (by omega) (by omega) (by omega)]; exact t2, by rw [bne 60 3 (by omega) (by omega) (by omega)]; exact t3, ⟨by rw [eb, enb], by rw [ep, enp]; exact hT.1.2⟩, hT.2.1.cong (ne 5 (by omega) (by omega) (by omega)) (ne 6 (by omega) (by omega) (by omega)) (fun k _ => bne 82 k (by omega) (by omega) (by omega)) (fun k _ => bne 83 k (by omega) (by omega) (by omega)) (bne 60 4 (by omega) (by omega) (by omega)), fun b hb => ?_, fun j hj => ?_, ⟨fun b hb hb2 => ?_, fun j hj hj8 => ?_⟩⟩
  · rw [eb] at hb
    by_cases hbn : b < cNb A
    · exact (hT.2.2.1 b hbn).cong hI hbn ⟨fun r k h1 h2 _ _ => by rw [ne r (by omega) (by omega) (by omega)], fun j hj => by rw [ne (40 + j) (by omega) (by omega) (by omega)]; exact ⟨rfl, rfl, rfl⟩⟩ ⟨fun r h1 h2 => bne r b (by omega) (by omega) (by omega), bne 68 b (by omega) (by omega) (by omega), bne 69 b (by omega) (by omega) (by omega), fun k => bne 67 k (by omega) (by omega) (by omega), fun k => bne 75 k (by omega) (by omega) (by omega)⟩
    · have hbe : b = cNb A := by omega
      subst hbe
      obtain ⟨z1, z2, z3, z4, z5⟩ := hZ
      have eq0 : cNq A' (cNb A) = 0 := by unfold cNq; rw [oz _ _ (by omega) (by omega) (by omega)]; rfl
      refine ⟨?_, ?_, ?_, ?_, ?_, ?_⟩
      · unfold rL1
        rw [b61, b62, bne 63 _ (by omega) (by omega) (by omega), bne 64 _ (by omega) (by omega) (by omega), bne 68 _ (by omega) (by omega) (by omega), bne 69 _ (by omega) (by omega) (by omega), k0, k1, z1, z2, z3, z4, oz _ 7 (by omega) (by omega) (by omega), oz _ 8 (by omega) (by omega) (by omega), oz _ 9 (by omega) (by omega) (by omega), oz _ 10 (by omega) (by omega) (by omega)]
        exact ⟨rfl, rfl, rfl, rfl, rfl, rfl⟩
      · unfold rL2
        rw [oz _ 8 (by omega) (by omega) (by omega), oz _ 7 (by omega) (by omega) (by omega), k1]
        exact ⟨0, tn m, 0, rfl, hm1, rfl, Nat.zero_le _, hm2, Nat.zero_le _⟩
      · unfold rL3
        rw [oz (10 + 10 * cNb A) 9 (by omega) (by omega) (by omega), oz (10 + 10 * cNb A) 6 (by omega) (by omega) (by omega), k0, k2]
        exact ⟨fun _ => ⟨eq0, rfl, rfl⟩, fun q => absurd rfl q⟩
      · unfold rL4
        rw [eq0]
        exact ⟨by unfold mNq; rw [bne 66 _ (by omega) (by omega) (by omega), z5]; rfl, fun k hk => absurd hk (Nat.not_lt_zero k)⟩
      · unfold rL5
        rw [oz _ 6 (by omega) (by omega) (by omega)]
        exact ⟨0, rfl, Nat.zero_le _⟩
      · unfold rL6 cReplay cAll
        rw [eq0, oz _ 6 (by omega) (by omega) (by omega), k0, k2]
        exact ⟨rfl, rfl, fun k hk => absurd hk (Nat.not_lt_zero k)⟩
  · rw [ep] at hj
    have hl := ln_lt hI hj
    obtain ⟨p1, p2, p3, p4, p5, p6⟩ := hT.2.2.2.1 j hj
    have ej : A' (40 + j) = A (40 + j) := ne _ (by omega) (by omega) (by omega)
    have bj : ∀ r, 70 ≤ r → B' r j = B r j := fun r hr => bne r j (by omega) (by omega) (by omega)
    refine ⟨?_, ?_, ?_, ?_, ?_, ?_⟩
    · unfold rP1 at *; rw [ej, bj 70 (by decide), bj 71 (by decide), bj 72 (by decide), bj 73 (by decide), bj 74 (by decide)]; exact p1
    · unfold rP2 at *; rw [ej]; exact p2
    · unfold rP3 at *; rw [ej, bj 76 (by decide), bj 77 (by decide), bj 78 (by decide), bj 79 (by decide)]; exact p3
    · unfold rP4 at *; rw [ej]; exact p4
    · unfold rP5 at *; rw [ej, bj 80 (by decide), bj 81 (by decide)]; exact p5
    · unfold rP6 at *
      rw [ej, bj 75 (by decide)]
      have el : cNq A' (tn (A (40 + j) 1)) = cNq A (tn (A (40 + j) 1)) := by unfold cNq; rw [ne _ (by omega) (by omega) (by omega)]
      rw [el, ne (12 + 10 * tn (A (40 + j) 1)) (by omega) (by omega) (by omega)]
      rcases p6 with ⟨a1, a2, a3⟩ | p6
      · refine Or.inl ⟨a1, a2, fun b k hb hk => ?_⟩
        rw [eb] at hb
        by_cases hbn : b < cNb A
        · rw [ne (12 + 10 * b) (by omega) (by omega) (by omega)]
          exact a3 b k hbn (by unfold cNq at hk ⊢; rw [ne _ (by omega) (by omega) (by omega)] at hk; exact hk)
        · have hbe : b = cNb A := by omega
          subst hbe
          unfold cNq at hk
          rw [oz _ _ (by omega) (by omega) (by omega)] at hk
          exact absurd hk (Nat.not_lt_zero k)
      · exact Or.inr p6
  · rw [enb] at hb
    have := hT.2.2.2.2.1 b (by omega) hb2
    rw [bne 63 b (by omega) (by omega) (by omega), bne 64 b (by omega) (by omega) (by omega), bne 68 b (by omega) (by omega) (by omega), bne 69 b (by omega) (by omega) (by omega), bne 66 b (by omega) (by omega) (by omega)]
    exact this
  · rw [enp] at hj
    have := hT.2.2.2.2.2 j hj hj8
    rw [bne 75 j (by omega) (by omega) (by omega), bne 76 j (by omega) (by omega) (by omega), bne 77 j (by omega) (by omega) (by omega), bne 78 j (by omega) (by omega) (by omega), bne 79 j (by omega) (by omega) (by omega), bne 81 j (by omega) (by omega) (by omega)]
    exact this
end NEWL
