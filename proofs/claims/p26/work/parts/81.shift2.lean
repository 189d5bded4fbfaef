section SHIFT2
variable {Lv : Nat → Bool} {A B : ME} {T T' : Nat → Nat} {b : Nat}
theorem RelT.mono (h : RelT A B T) (hI : cI Lv A) (e : ∀ b, b < cNb A → T b ≤ T' b) : RelT A B T' := by
  obtain ⟨r1, r2, r3, r4, r5⟩ := h
  refine ⟨r1, r2, fun b hb => ?_, fun j hj => ?_, r5⟩
  · obtain ⟨p1, p2, p3, p4, ⟨ps, q1, q2⟩, p6⟩ := r3 b hb
    exact ⟨p1, p2, p3, p4, ⟨ps, q1, Nat.le_trans q2 (e b hb)⟩, p6⟩
  · obtain ⟨p1, p2, p3, ⟨dn, ms, lo, ow, d1, d2, d3, d4, d5, d6⟩, p5⟩ := r4 j hj
    have := e _ (ln_lt hI hj).1
    exact ⟨p1, p2, p3, ⟨dn, ms, lo, ow, d1, d2, d3, d4, by omega, by omega⟩, p5⟩
set_option maxHeartbeats 2000000 in
/-- a line's shift keeps the relation -/
theorem shift_1 (hT : RelT A B T) (hI : cI Lv A) (hb : b < cNb A) (hle : ∀ b', T b' ≤ T' b') (hTb : T b + 1 ≤ T' b) (h200 : T b < 200) : RelT (oShift A b (kKind (cWhy A b))) (mShift B b) T' ∧ (∀ j, isC (oShift A b (kKind (cWhy A b))) j = isC A j) ∧ oShift A b (kKind (cWhy A b)) 0 4 = A 0 4 ∧ mShift B b 60 3 = B 60 3 := by
  have hb2 := (cI_lin hI hb).2
  have hn8 := hI.2.1
  have h12 := hI.1
  have hM := shift_mid hT hI hb hle hTb
  have hE := cE_shift (kd := kKind (cWhy A b)) hI hb
  generalize kKind (cWhy A b) = kd at hM hE
  obtain ⟨hrN, hrU, hrL, hrP, hrZ⟩ := hT
  have hL := hrL b hb
  have hq8 := (cI_lin hI hb).1.2.2.2.2.2.2.1
  obtain ⟨ps, q1, q2⟩ := hL.2.2.2.2.1
  obtain ⟨A1, hA1⟩ : ∃ A1, A1 = oLost A b kd := ⟨_, rfl⟩
  obtain ⟨B1, hB1⟩ : ∃ B1, B1 = mBody B b := ⟨_, rfl⟩
  obtain ⟨A', hA'⟩ : ∃ A', A' = oShift A b kd := ⟨_, rfl⟩
  obtain ⟨B', hB'⟩ : ∃ B', B' = mShift B b := ⟨_, rfl⟩
  have hA2 : A' = oFix (oDrain (oNote A1 b kd) b) b := by rw [hA', hA1]; rfl
  have hB2 : B' = mEnd B1 b := by rw [hB', hB1]; rfl
  rw [← hA'] at hE
  rw [← hA1, ← hB1] at hM
  rw [← hA', ← hB']
  obtain ⟨⟨m1, us, rm, m2, m3, m4, m5⟩, m6, m7, m8, m9, m10, m11, m12⟩ := hM
  have u1 : A1 (10 + 10 * b) 6 = nI ps := by rw [hA1, lost_10 hb2 (by decide)]; exact q1
  have u9 : A1 (10 + 10 * b) 9 = A (10 + 10 * b) 9 := by rw [hA1, lost_10 hb2 (by decide)]
  have u17 : A1 (17 + 10 * b) = A (17 + 10 * b) := by rw [hA1]; exact lost_row hb2 (by omega) (by omega) (by omega) (by omega)
  obtain ⟨v6, v17⟩ := end_6 (kd := kd) hb2 u1 (by omega)
  rw [← hA2, u9] at v6 v17
  rw [u17] at v17
  have v8 : A' (10 + 10 * b) 8 = if 0 < A1 (10 + 10 * b) 8 - A1 (10 + 10 * b) 7 then A1 (10 + 10 * b) 8 - A1 (10 + 10 * b) 7 else 0 := by rw [hA2]; exact end_8 hb2
  have v10 : A' (10 + 10 * b) 10 = 0 := by rw [hA2]; exact end_10
  have vk : ∀ k, k ≠ 6 → k ≠ 8 → k ≠ 10 → A' (10 + 10 * b) k = A (10 + 10 * b) k := fun k h1 h2 h3 => by rw [hA2, end_k hb2 ⟨h1, h2, h3⟩, hA1, lost_10 hb2 h2]
  have vr : ∀ r, r ≠ 10 + 10 * b → r ≠ 17 + 10 * b → A' r = A1 r := fun r h1 h2 => by rw [hA2]; exact end_row hb2 h1 h2
  have v13 : A' (13 + 10 * b) 2 = (cFol A b kd).2.1 := by rw [vr _ (by omega) (by omega), hA1]; exact lost_13 hb2
  have v14 : A' (14 + 10 * b) = (cFol A b kd).1 := by rw [vr _ (by omega) (by omega), hA1]; exact lost_14 hb2
  have vo : ∀ r, r < 40 → r ≠ 10 + 10 * b → r ≠ 13 + 10 * b → r ≠ 14 + 10 * b → r ≠ 17 + 10 * b → A' r = A r := fun r h1 h2 h3 h4 h5 => by rw [vr r h2 h5, hA1]; exact lost_row hb2 h2 h3 h4 h1
  have vp : ∀ j k, k < 9 ∨ 12 < k → A' (40 + j) k = A (40 + j) k := fun j k hk => by rw [vr _ (by omega) (by omega), hA1]; exact lost_p hb2 hk
  have vpp : ∀ j, A' (40 + j) = A1 (40 + j) := fun j => vr _ (by omega) (by omega)
  have w0 : ∀ r k, ¬ ((r = 64 ∨ r = 69) ∧ k = b) → B' r k = B1 r k := fun r k h => by
    rw [hB2]; unfold mEnd; simp (disch := omega) only [up2_ne]
  have w69 : B' 69 b = 0 := by rw [hB2]; unfold mEnd; rw [up2_eq]
  have w64 : B' 64 b = if B1 63 b < B1 64 b then B1 64 b - B1 63 b else 0 := by rw [hB2]; unfold mEnd; rw [up2_ne (by omega), up2_eq]
  have wr : ∀ r k, 60 ≤ r → r < 84 → ¬ ((r = 64 ∨ r = 65 ∨ r = 69) ∧ k = b) → ¬ (75 ≤ r ∧ r ≤ 79) → B' r k = B r k := fun r k h1 h2 h3 h4 => by
    rw [w0 r k (by omega)]; exact m12 r k h1 h2 (by omega) h4
  have enb : mNb B' = mNb B := by unfold mNb; rw [wr 60 1 (by omega) (by omega) (by omega) (by omega)]
  have enp : mNp B' = mNp B := by unfold mNp; rw [wr 60 2 (by omega) (by omega) (by omega) (by omega)]
  have w75 : ∀ i, B' 75 i = B1 75 i := fun i => w0 75 i (by omega)
  have ent : ∀ b' k, b' < cNb A → k < cNq A b' → ∃ q, q < cNp A ∧ A (12 + 10 * b') k = nI q ∧ tn (A (12 + 10 * b') k) = q := fun b' k h1 h2 => by
    obtain ⟨q, h3, h4⟩ := (cI_lin hI h1).1.2.2.2.2.2.2.2.2.2.2.2 k h2
    exact ⟨q, h3, h4, by rw [h4, tn_nI (by omega)]⟩
  have off : ∀ b' k, b' < cNb A → b' ≠ b → k < cNq A b' → B' 75 (tn (A (12 + 10 * b') k)) = B 75 (tn (A (12 + 10 * b') k)) := fun b' k h1 h2 h3 => by
    rw [w75]
    refine m9 _ (fun k' hk' q => ?_)
    have e1 := ((hrL b' h1).2.2.2.1.2 k h3).2.2.2.2
    have e2 := (hL.2.2.2.1.2 k' hk').2.2.2.2
    obtain ⟨x, x1, x2, x3⟩ := ent b' k h1 h3
    rw [q, tn_nI (by rw [x3]; omega)] at e2
    rw [e1] at e2
    exact h2 ((nI_eq (by omega) (by omega)).mp e2)
  refine ⟨⟨hrN.cong hE.nb hE.np (wr 60 1 (by omega) (by omega) (by omega) (by omega)) (wr 60 2 (by omega) (by omega) (by omega) (by omega)), hrU.cong (vo 5 (by omega) (by omega) (by omega) (by omega) (by omega)) (vo 6 (by omega) (by omega) (by omega) (by omega) (by omega)) (fun k _ => wr 82 k (by omega) (by omega) (by omega) (by omega)) (fun k _ => wr 83 k (by omega) (by omega) (by omega) (by omega)) (wr 60 4 (by omega) (by omega) (by omega) (by omega)), fun b' hb' => ?_, fun j hj => ?_, ⟨fun b' h1 h2 => ?_, fun j h1 h2 => ?_⟩⟩, fun j => ?_, ?_, ?_⟩
  · rw [hE.nb] at hb'
    by_cases hbb : b' = b
    · subst hbb
      obtain ⟨p1, p2, p3, p4, p5, p6⟩ := hL
      obtain ⟨us0, rm0, rt, z1, z2, z3, z4, z5, z6⟩ := p2
      obtain ⟨l1, l2, l3, l4, l5, l6⟩ := p1
      have a7 : A1 (10 + 10 * b') 7 = nI rt := by rw [hA1, lost_10 hb2 (by decide)]; exact z3
      have b63 : B1 63 b' = nI rt := by rw [m12 63 b' (by omega) (by omega) (by omega) (by omega), l3]; exact z3
      obtain ⟨dr1, dr2⟩ := drain_eq (us := us) (rt := rt) (by omega) z6
      have u8 : A' (10 + 10 * b') 8 = nI (us - rt) := by rw [v8, m2, a7]; exact dr1
      have x8 : B' 64 b' = nI (us - rt) := by rw [w64, b63, m1, m2]; exact dr2
      have wq : ∀ k, mQ B' b' k = mQ B b' k := fun k => by unfold mQ; exact wr 67 _ (by omega) (by omega) (by omega) (by omega)
      refine ⟨?_, ?_, ?_, ?_, ?_, ?_⟩
      · unfold rL1
        rw [wr 61 _ (by omega) (by omega) (by omega) (by omega), wr 62 _ (by omega) (by omega) (by omega) (by omega), wr 63 _ (by omega) (by omega) (by omega) (by omega), wr 68 _ (by omega) (by omega) (by omega) (by omega), w69, v10, u8, x8, vk 0 (by decide) (by decide) (by decide), vk 1 (by decide) (by decide) (by decide), vk 7 (by decide) (by decide) (by decide), vk 9 (by decide) (by decide) (by decide)]
        exact ⟨l1, l2, l3, rfl, l5, rfl⟩
      · unfold rL2
        rw [u8, vk 1 (by decide) (by decide) (by decide), vk 7 (by decide) (by decide) (by decide)]
        exact ⟨us - rt, rm, rt, rfl, m3, z3, by omega, m5, z6⟩
      · unfold rL3
        rw [vk 9 (by decide) (by decide) (by decide), vk 0 (by decide) (by decide) (by decide), v6, v13, hE.nq hb2]
        refine ⟨fun hm => ?_, fun hm => ?_⟩
        · obtain ⟨y1, y2, y3⟩ := p3.1 hm
          rw [if_pos hm]
          refine ⟨y1, ?_, (m6 hm).trans y3⟩
          rw [← q1]; exact y2
        · rw [w0 65 b' (by omega)]; exact m7 hm
      · unfold rL4
        rw [hE.nq hb2, v14]
        refine ⟨by unfold mNq; rw [wr 66 _ (by omega) (by omega) (by omega) (by omega)]; exact p4.1, fun k hk => ?_⟩
        obtain ⟨a1, a2, a3, a4, a5⟩ := p4.2 k hk
        obtain ⟨n1, n2⟩ := m8 k hk
        rw [hE.q hb2, vp _ 6 (by decide), vp _ 1 (by decide), wq]
        refine ⟨a1, ?_, n2, a4, a5⟩
        rw [← n1]
        unfold mLf
        rw [wq, a1, w75]
      · unfold rL5
        rw [v6]
        split
        · exact ⟨ps, rfl, by have := hle b'; omega⟩
        · exact ⟨ps + 1, rfl, by omega⟩
      · unfold rL6 at *
        rw [hE.nq hb2, v13, v14]
        have eA : cAll A' b' = cAll A b' := by
          unfold cAll
          rw [hE.nq hb2, vo (16 + 10 * b') (by omega) (by omega) (by omega) (by omega) (by omega), vk 0 (by decide) (by decide) (by decide), vo (12 + 10 * b') (by omega) (by omega) (by omega) (by omega) (by omega)]
          refine rpA_cong (fun k _ hk => ?_)
          exact vp _ 4 (by decide)
        have hc : (cNq A b', (cFol A b' kd).1, (cFol A b' kd).2.1) = kFo (cNq A b', A (14 + 10 * b'), A (13 + 10 * b') 2) kd := rfl
        unfold cReplay at p6 ⊢
        rw [eA, v6, v17]
        rw [q1, tn_nI (by omega)] at p6
        by_cases hm : A (10 + 10 * b') 9 = 0
        · rw [if_pos hm, if_pos hm, tn_nI (by omega)]
          refine p6.trans ?_
          have hz := (p3.1 hm).1
          refine ⟨rfl, (m6 hm).symm, fun k hk => ?_⟩
          dsimp only at hk
          omega
        · rw [if_neg hm, if_neg hm, tn_nI (by omega), rpF_snoc, Nat.zero_add, va_up_self]
          rw [rpF_cong (w := va_up (A (17 + 10 * b')) ps kd) (w' := A (17 + 10 * b')) (fun k _ hk => va_up_ne _ _ (by omega))]
          rw [hc]
          refine p6.fo ?_ kd
          rw [p6.1]
          exact hq8
    · have hb2' : b' < 2 := by omega
      obtain ⟨p1, p2, p3, p4, p5, p6⟩ := hrL b' hb'
      have ro : ∀ r, 10 + 10 * b' ≤ r → r < 18 + 10 * b' → A' r = A r := fun r h1 h2 => vo r (by omega) (by omega) (by omega) (by omega) (by omega)
      refine ⟨?_, ?_, ?_, ?_, ?_, ?_⟩
      · unfold rL1 at *
        rw [ro _ (by omega) (by omega), wr 61 _ (by omega) (by omega) (by omega) (by omega), wr 62 _ (by omega) (by omega) (by omega) (by omega), wr 63 _ (by omega) (by omega) (by omega) (by omega), wr 64 _ (by omega) (by omega) (by omega) (by omega), wr 68 _ (by omega) (by omega) (by omega) (by omega), wr 69 _ (by omega) (by omega) (by omega) (by omega)]
        exact p1
      · unfold rL2 at *; rw [ro _ (by omega) (by omega)]; exact p2
      · unfold rL3 at *; rw [ro (10 + 10 * b') (by omega) (by omega), ro (13 + 10 * b') (by omega) (by omega), hE.nq hb2', wr 65 _ (by omega) (by omega) (by omega) (by omega)]; exact p3
      · unfold rL4
        rw [hE.nq hb2', ro (12 + 10 * b') (by omega) (by omega), ro (14 + 10 * b') (by omega) (by omega)]
        refine ⟨by unfold mNq; rw [wr 66 _ (by omega) (by omega) (by omega) (by omega)]; exact p4.1, fun k hk => ?_⟩
        obtain ⟨a1, a2, a3, a4, a5⟩ := p4.2 k hk
        have e1 : mQ B' b' k = mQ B b' k := by unfold mQ; exact wr 67 _ (by omega) (by omega) (by omega) (by omega)
        rw [vp _ 6 (by decide), vp _ 1 (by decide), e1]
        refine ⟨a1, ?_, a3, a4, a5⟩
        rw [← a2]
        unfold mLf
        rw [e1, a1]
        exact off b' k hb' hbb hk
      · unfold rL5 at *
        rw [ro _ (by omega) (by omega)]
        obtain ⟨x, x1, x2⟩ := p5
        exact ⟨x, x1, Nat.le_trans x2 (hle b')⟩
      · unfold rL6 at *
        rw [hE.nq hb2', ro (14 + 10 * b') (by omega) (by omega), ro (13 + 10 * b') (by omega) (by omega)]
        exact (rep_cong hI hb' (hE.nq hb2') (ro _ (by omega) (by omega)) (ro _ (by omega) (by omega)) (by rw [ro _ (by omega) (by omega)]) (by rw [ro _ (by omega) (by omega)]) (fun j _ => vp j 4 (by decide))).trans p6
  · rw [hE.np] at hj
    obtain ⟨p1, p2, p3, p4, p5, p6⟩ := hrP j hj
    obtain ⟨n3, n4⟩ := m10 j hj
    have hl2 := (ln_lt hI hj).2.1
    refine ⟨?_, ?_, ?_, ?_, ?_, ?_⟩
    · unfold rP1 at *
      rw [wr 70 j (by omega) (by omega) (by omega) (by omega), wr 71 j (by omega) (by omega) (by omega) (by omega), wr 72 j (by omega) (by omega) (by omega) (by omega), wr 73 j (by omega) (by omega) (by omega) (by omega), wr 74 j (by omega) (by omega) (by omega) (by omega), vp j 1 (by decide), vp j 2 (by decide), vp j 3 (by decide), vp j 4 (by decide), vp j 5 (by decide)]
      exact p1
    · unfold rP2 at *
      rw [vp j 2 (by decide), vp j 3 (by decide), vp j 4 (by decide), vp j 5 (by decide)]
      exact p2
    · unfold rP3 at *
      rw [w0 76 j (by omega), w0 77 j (by omega), w0 78 j (by omega), w0 79 j (by omega), vpp j]
      exact n3
    · unfold rP4 at *
      rw [vpp j]
      exact n4
    · unfold rP5 at *
      rw [wr 80 j (by omega) (by omega) (by omega) (by omega), wr 81 j (by omega) (by omega) (by omega) (by omega), vp j 7 (by decide), vp j 8 (by decide)]
      exact p5
    · unfold rP6
      have row12 : ∀ b', b' < 2 → A' (12 + 10 * b') = A (12 + 10 * b') := fun b' h => funext fun k => hE.q h k
      rw [vp j 1 (by decide), vp j 6 (by decide), hE.nb, hE.nq hl2, row12 _ hl2, w75]
      rcases p6 with ⟨a1, a2, a3⟩ | p6
      · refine Or.inl ⟨a1, ?_, fun b' k h1 h2 => ?_⟩
        · rw [m9 j (fun k hk => a3 b k hb hk)]; exact a2
        · have h3 : b' < 2 := by omega
          rw [hE.nq h3] at h2
          rw [row12 b' h3]
          exact a3 b' k h1 h2
      · exact Or.inr p6
  · rw [enb] at h1
    have := hrZ.1 b' h1 h2
    rw [← hrN.1] at h1
    rw [wr 63 _ (by omega) (by omega) (by omega) (by omega), wr 64 _ (by omega) (by omega) (by omega) (by omega), wr 68 _ (by omega) (by omega) (by omega) (by omega), wr 69 _ (by omega) (by omega) (by omega) (by omega), wr 66 _ (by omega) (by omega) (by omega) (by omega)]
    exact this
  · rw [enp] at h1
    have := hrZ.2 j h1 h2
    rw [← hrN.2] at h1
    obtain ⟨y1, y2, y3, y4⟩ := m11 j h1
    rw [w75, m9 j (fun k hk q => by obtain ⟨x, x1, x2, x3⟩ := ent b k hb hk; rw [x2] at q; have := (nI_eq (by omega) (by omega)).mp q; omega), w0 76 j (by omega), w0 77 j (by omega), w0 78 j (by omega), w0 79 j (by omega), y1, y2, y3, y4, wr 81 j (by omega) (by omega) (by omega) (by omega)]
    exact this
  · unfold isC
    rw [vp j 7 (by decide), vp j 8 (by decide)]
  · rw [vo 0 (by omega) (by omega) (by omega) (by omega) (by omega)]
  · exact wr 60 3 (by omega) (by omega) (by omega) (by omega)
end SHIFT2
