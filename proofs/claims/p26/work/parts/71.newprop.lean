section NEWP
variable {Lv : Nat → Bool} {A B : ME}
theorem prp_code (h : Rel A B) (hI : cI Lv A) (hM : mI B) {b us sc w d : Int32} : kPrp A b us sc w d = jPrp B b us sc w d := by
  obtain ⟨t, t1, t2, t3, hT⟩ := h
  have hnb : cNb A = mNb B := hT.1.1
  have hnp : cNp A = mNp B := hT.1.2
  have hn8 := hI.2.1
  have h60 : B 60 2 = nI (cNp A) := by rw [hM.2.2.1, hnp]
  unfold kPrp jPrp
  by_cases hok : okL A b
  · have hok2 : okm (mNb B) b := by unfold okm; rw [← hnb]; exact hok
    rw [if_pos hok, if_pos hok2]
    have hb := (okL_ix hI hok).2
    have h68 := (hT.2.2.1 _ hb).1.2.2.2.2.1
    have hu : win us 0 9 ↔ okm 10 us := win_ok (n := 10) (by decide)
    by_cases h1 : win us 0 9
    · rw [if_pos h1]
      by_cases h2 : win sc 0 100
      · rw [if_pos h2]
        by_cases h3 : win w 1 9
        · rw [if_pos h3]
          by_cases h4 : win d 0 99
          · rw [if_pos h4, if_pos (show okm 10 us ∧ win sc 0 100 ∧ win w 1 9 ∧ win d 0 99 from ⟨hu.mp h1, h2, h3, h4⟩), h68, h60]
            by_cases h5 : A (10 + 10 * tn b) 9 = 0
            · rw [if_pos h5, if_pos h5]
              by_cases h6 : cNp A < 8
              · rw [if_pos h6, if_neg (fun q => by have := (nI_eq (b := 8) (by omega) (by decide)).mp q; omega)]
              · rw [if_neg h6, if_pos (by rw [show cNp A = 8 by omega]; rfl)]
            · rw [if_neg h5, if_neg h5]
          · rw [if_neg h4, if_neg (fun q : okm 10 us ∧ win sc 0 100 ∧ win w 1 9 ∧ win d 0 99 => h4 q.2.2.2)]
        · rw [if_neg h3, if_neg (fun q : okm 10 us ∧ win sc 0 100 ∧ win w 1 9 ∧ win d 0 99 => h3 q.2.2.1)]
      · rw [if_neg h2, if_neg (fun q : okm 10 us ∧ win sc 0 100 ∧ win w 1 9 ∧ win d 0 99 => h2 q.2.1)]
    · rw [if_neg h1, if_neg (fun q : okm 10 us ∧ win sc 0 100 ∧ win w 1 9 ∧ win d 0 99 => h1 (hu.mpr q.1))]
  · have hok2 : ¬ okm (mNb B) b := by unfold okm; rw [← hnb]; exact hok
    rw [if_neg hok, if_neg hok2]
theorem e_propose (h : Rel A B) (hI : cI Lv A) (hM : mI B) (hC : rC A) {b us sc w d : Int32} (hk : kPrp A b us sc w d = 0) : nI (cNp A) = B 60 2 + 1 - 1 ∧ Rel (oPrp A b us sc w d) (up2 (up2 (up2 (up2 (up2 (up2 B 70 (mNp B) b) 71 (mNp B) us) 72 (mNp B) sc) 73 (mNp B) w) 74 (mNp B) d) 60 2 (B 60 2 + 1)) ∧ rC (oPrp A b us sc w d) := by
  obtain ⟨t, t1, t2, t3, hT⟩ := h
  have hnp : cNp A = mNp B := hT.1.2
  have h12 := hI.1
  have hn8 := hI.2.1
  have h60 : B 60 2 = nI (cNp A) := by rw [hM.2.2.1, hnp]
  unfold kPrp at hk
  obtain ⟨hok, hk⟩ := if0 hk (by decide)
  obtain ⟨hw1, hk⟩ := if0 hk (by decide)
  obtain ⟨hw2, hk⟩ := if0 hk (by decide)
  obtain ⟨hw3, hk⟩ := if0 hk (by decide)
  obtain ⟨hw4, hk⟩ := if0 hk (by decide)
  obtain ⟨hmet, hk⟩ := if0 hk (by decide)
  obtain ⟨hn, -⟩ := if0 hk (by decide)
  obtain ⟨hb1, hb⟩ := okL_ix hI hok
  obtain ⟨u1, u2⟩ := win_n (hi := 9) hw1 (by decide) (by decide)
  obtain ⟨c1, c2⟩ := win_n (hi := 100) hw2 (by decide) (by decide)
  obtain ⟨w1, w2⟩ := win_n (hi := 9) hw3 (by decide) (by decide)
  obtain ⟨d1, d2⟩ := win_n (hi := 99) hw4 (by decide) (by decide)
  have w3 : 1 ≤ tn w := by
    rcases Nat.eq_zero_or_pos (tn w) with q | q
    · rw [w1, q] at hw3; exact absurd hw3.1 (by decide)
    · exact q
  refine ⟨by rw [h60, nI_1, nI_pred], ?_⟩
  rw [← hnp]
  have hZ := hT.2.2.2.2.2 (cNp A) (by omega) hn
  obtain ⟨A', hA'⟩ : ∃ A', A' = oPrp A b us sc w d := ⟨_, rfl⟩
  obtain ⟨B', hB'⟩ : ∃ B', B' = up2 (up2 (up2 (up2 (up2 (up2 B 70 (cNp A) b) 71 (cNp A) us) 72 (cNp A) sc) 73 (cNp A) w) 74 (cNp A) d) 60 2 (B 60 2 + 1) := ⟨_, rfl⟩
  rw [← hA', ← hB']
  have ne : ∀ r, r ≠ 40 + cNp A → r ≠ 3 → r ≠ 4 → A' r = A r := fun r a b c => by rw [hA']; exact oPrp_ne a b c
  have en : A' (40 + cNp A) = pW (nI (cNp A)) b us sc w d := by rw [hA']; exact oPrp_p
  have eb : cNb A' = cNb A := by rw [hA']; exact oPrp_nb
  have ep : cNp A' = cNp A + 1 := by rw [hA']; exact oPrp_np hn
  have bne : ∀ r k, ¬ (70 ≤ r ∧ r < 75 ∧ k = cNp A) → ¬ (r = 60 ∧ k = 2) → B' r k = B r k := fun r k a c => by rw [hB', up2_ne c, up2_ne (by omega), up2_ne (by omega), up2_ne (by omega), up2_ne (by omega), up2_ne (by omega)]
  have b70 : B' 70 (cNp A) = b ∧ B' 71 (cNp A) = us ∧ B' 72 (cNp A) = sc ∧ B' 73 (cNp A) = w ∧ B' 74 (cNp A) = d := by
    rw [hB']
    simp (disch := omega) only [up2_ne, up2_eq]
    exact ⟨trivial, trivial, trivial, trivial, trivial⟩
  have b60 : B' 60 2 = nI (cNp A + 1) := by rw [hB', up2_eq, h60]; exact nI_1 _
  have enp : mNp B' = cNp A + 1 := by unfold mNp; rw [b60, tn_nI (by omega)]
  have enb : mNb B' = mNb B := by unfold mNb; rw [bne 60 1 (by omega) (by omega)]
  have nq : ∀ b', b' < 2 → cNq A' b' = cNq A b' ∧ A' (12 + 10 * b') = A (12 + 10 * b') := fun b' hb' => ⟨by unfold cNq; rw [ne _ (by omega) (by omega) (by omega)], ne _ (by omega) (by omega) (by omega)⟩
  refine ⟨⟨t, t1, by rw [ne 0 (by omega) (by omega) (by omega)]; exact t2, by rw [bne 60 3 (by omega) (by omega)]; exact t3, ⟨by rw [eb, enb]; exact hT.1.1, by rw [ep, enp]⟩, hT.2.1.cong (ne 5 (by omega) (by omega) (by omega)) (ne 6 (by omega) (by omega) (by omega)) (fun k _ => bne 82 k (by omega) (by omega)) (fun k _ => bne 83 k (by omega) (by omega)) (bne 60 4 (by omega) (by omega)), fun b' hb' => ?_, fun j hj => ?_, ⟨fun b' hb' hb2' => ?_, fun j hj hj8 => ?_⟩⟩, ?_⟩
  · rw [eb] at hb'
    obtain ⟨p1, p2, p3, p4, p5, p6⟩ := hT.2.2.1 b' hb'
    have hb2' : b' < 2 := by omega
    have r10 : A' (10 + 10 * b') = A (10 + 10 * b') := ne _ (by omega) (by omega) (by omega)
    have r13 : A' (13 + 10 * b') = A (13 + 10 * b') := ne _ (by omega) (by omega) (by omega)
    have r14 : A' (14 + 10 * b') = A (14 + 10 * b') := ne _ (by omega) (by omega) (by omega)
    have bk : ∀ r k, r < 70 → r ≠ 60 → B' r k = B r k := fun r k h1 h2 => bne r k (by omega) (by omega)
    have hq := (cI_lin hI hb').1.2.2.2.2.2.2.2.2.2.2.2
    have ent : ∀ k, k < cNq A b' → tn (A (12 + 10 * b') k) < cNp A := fun k hk => by
      obtain ⟨q, h1, h2⟩ := hq k hk
      rw [h2, tn_nI (by omega)]; exact h1
    refine ⟨?_, ?_, ?_, ?_, ?_, ?_⟩
    · unfold rL1 at *; rw [r10, bk 61 _ (by decide) (by decide), bk 62 _ (by decide) (by decide), bk 63 _ (by decide) (by decide), bk 64 _ (by decide) (by decide), bk 68 _ (by decide) (by decide), bk 69 _ (by decide) (by decide)]; exact p1
    · unfold rL2 at *; rw [r10]; exact p2
    · unfold rL3 at *; rw [r10, r13, (nq b' hb2').1, bk 65 _ (by decide) (by decide)]; exact p3
    · unfold rL4 at *
      rw [(nq b' hb2').1, (nq b' hb2').2, r14]
      refine ⟨by unfold mNq; rw [bk 66 _ (by decide) (by decide)]; exact p4.1, fun k hk => ?_⟩
      obtain ⟨a1, a2, a3, a4, a5⟩ := p4.2 k hk
      have h9 := ent k hk
      have m1 : mQ B' b' k = mQ B b' k := by unfold mQ; rw [bk 67 _ (by decide) (by decide)]
      have m2 : mLf B' b' k = mLf B b' k := by unfold mLf; rw [m1, bne 75 _ (by omega) (by omega)]
      exact ⟨m1.trans a1, m2.trans a2, a3, by rw [ne _ (by omega) (by omega) (by omega)]; exact a4, by rw [ne _ (by omega) (by omega) (by omega)]; exact a5⟩
    · unfold rL5 at *; rw [r10]; exact p5
    · unfold rL6 at *
      rw [(nq b' hb2').1, r14, r13]
      refine ag3.trans ?_ p6
      have e1 : ag3 (cAll A' b') (cAll A b') := by
        unfold cAll
        rw [(nq b' hb2').1, (nq b' hb2').2, r10]
        rw [rpA_cong (w := fun i => A' (40 + tn (A (12 + 10 * b') i)) 4) (w' := fun i => A (40 + tn (A (12 + 10 * b') i)) 4) (fun k _ hk => by
          have h9 := ent k (by omega)
          rw [ne _ (by omega) (by omega) (by omega)])]
        exact rpA_ag ⟨rfl, rfl, fun k hk => absurd hk (Nat.not_lt_zero k)⟩
      unfold cReplay
      rw [ne (17 + 10 * b') (by omega) (by omega) (by omega), r10]
      refine rpF_ag e1 ?_
      unfold cAll
      exact rpA_8 (Nat.zero_le _)
  · rw [ep] at hj
    by_cases hjn : j < cNp A
    · exact (hT.2.2.2.1 j hjn).cong (by omega) eb h12 (ln_lt hI hjn).2.1 nq (ne _ (by omega) (by omega) (by omega)) (fun r h1 h2 => bne r j (by omega) (by omega))
    · have hje : j = cNp A := by omega
      subst hje
      obtain ⟨z1, z2, z3, z4, z5, z6⟩ := hZ
      obtain ⟨q1, q2, q3, q4, q5⟩ := b70
      refine ⟨?_, ?_, ?_, ?_, ?_, ?_⟩
      · unfold rP1; rw [en, q1, q2, q3, q4, q5]; exact ⟨rfl, rfl, rfl, rfl, rfl⟩
      · unfold rP2; rw [en]; exact ⟨tn us, tn sc, tn w, tn d, u1, by omega, c1, c2, w1, w3, w2, d1, d2⟩
      · unfold rP3; rw [en, bne 76 _ (by omega) (by omega), bne 77 _ (by omega) (by omega), bne 78 _ (by omega) (by omega), bne 79 _ (by omega) (by omega), z2, z3, z4, z5]; exact ⟨rfl, rfl, rfl, rfl⟩
      · unfold rP4; rw [en]; exact ⟨0, 0, 0, 0, rfl, rfl, rfl, rfl, Nat.zero_le _, Nat.zero_le _⟩
      · unfold rP5; rw [en, bne 81 _ (by omega) (by omega), z6]; exact Or.inl ⟨rfl, rfl, rfl⟩
      · unfold rP6
        rw [en, bne 75 _ (by omega) (by omega), z1, eb]
        refine Or.inl ⟨rfl, rfl, fun b' k hb' hk e => ?_⟩
        have hb2' : b' < 2 := by omega
        rw [(nq b' hb2').2] at e
        rw [(nq b' hb2').1] at hk
        obtain ⟨q, h1, h2⟩ := (cI_lin hI hb').1.2.2.2.2.2.2.2.2.2.2.2 k hk
        rw [h2] at e
        have := (nI_eq (by omega) (by omega)).mp e
        omega
  · rw [enb] at hb'
    have := hT.2.2.2.2.1 b' hb' hb2'
    rw [bne 63 b' (by omega) (by omega), bne 64 b' (by omega) (by omega), bne 68 b' (by omega) (by omega), bne 69 b' (by omega) (by omega), bne 66 b' (by omega) (by omega)]
    exact this
  · rw [enp] at hj
    have := hT.2.2.2.2.2 j (by omega) hj8
    rw [bne 75 j (by omega) (by omega), bne 76 j (by omega) (by omega), bne 77 j (by omega) (by omega), bne 78 j (by omega) (by omega), bne 79 j (by omega) (by omega), bne 81 j (by omega) (by omega)]
    exact this
  · unfold rC cldN at *
    rw [ep]
    have hlast : isC A' (cNp A) = 0 := by unfold isC; rw [en]; rfl
    have hc : ∀ n, n ≤ cNp A → ctb (fun j => decide (isC A' j = 1)) n = ctb (fun j => decide (isC A j = 1)) n := by
      intro n
      induction n with
      | zero => intro _; rfl
      | succ n ih =>
        intro hle
        show ctb (fun j => decide (isC A' j = 1)) n + (if decide (isC A' n = 1) = true then 1 else 0) = ctb (fun j => decide (isC A j = 1)) n + (if decide (isC A n = 1) = true then 1 else 0)
        have e : isC A' n = isC A n := by unfold isC; rw [ne _ (by omega) (by omega) (by omega)]
        rw [ih (by omega), e]
    show ctb (fun j => decide (isC A' j = 1)) (cNp A) + (if decide (isC A' (cNp A) = 1) = true then 1 else 0) ≤ 3
    rw [hc _ (Nat.le_refl _), hlast, if_neg (by decide)]
    exact hC
end NEWP
