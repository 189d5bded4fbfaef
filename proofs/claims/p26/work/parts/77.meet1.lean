section MEET1
variable {Lv : Nat → Bool} {A B : ME} {T : Nat → Nat}
set_option maxHeartbeats 1000000 in
/-- an allotment keeps the relation -/
theorem meet_1 (hT : RelT A B T) (hI : cI Lv A) (hM : mI B) {b p : Nat} (hb : b < cNb A) (hp : p < cNp A) (hp6 : A (40 + p) 6 = -1) (hln : A (40 + p) 1 = nI b) (hmet : ¬ A (10 + 10 * b) 9 = 0) (hps : A (10 + 10 * b) 6 = 0) (hq : cNq A b < 8) (hw : ¬ A (13 + 10 * b) 2 < A (40 + p) 4) : RelT (oAllotY A b p) (mmY B b p) T ∧ ∀ j, isC (oAllotY A b p) j = isC A j := by
  have hb2 := (cI_lin hI hb).2
  have h12 := hI.1
  have hn8 := hI.2.1
  have hp8 : p < 8 := by omega
  obtain ⟨hrN, hrU, hrL, hrP, hrZ⟩ := hT
  have hnb := hrN.1
  have hnp := hrN.2
  have hP := hrP p hp
  have hL := hrL b hb
  have h65 : B 65 b = A (13 + 10 * b) 2 := hL.2.2.1.2 hmet
  have hnq : mNq B b = cNq A b := hL.2.2.2.1.1
  have h66 := (hM.2.2.2.2.1 b hb2).1
  have h73 : B 73 p = A (40 + p) 4 := hP.1.2.2.2.1
  have hlis : cLis Lv A (11 + 10 * b) (cNq A b) := (cI_lin hI hb).1.2.2.2.2.2.2.2.1
  have hno : ∀ b' k, b' < cNb A → k < cNq A b' → ¬ A (12 + 10 * b') k = nI p := by
    rcases hP.2.2.2.2.2 with ⟨-, -, a3⟩ | ⟨k, a1, a2, -⟩
    · exact a3
    · have := (cI_lin hI (ln_lt hI hp).1).1.2.2.2.2.2.2.1
      exact absurd (a1.symm.trans hp6) (nI_ne1 (by omega))
  have ent : ∀ b' k, b' < cNb A → k < cNq A b' → ∃ q, q < cNp A ∧ A (12 + 10 * b') k = nI q ∧ tn (A (12 + 10 * b') k) = q ∧ q ≠ p := fun b' k h1 h2 => by
    obtain ⟨q, h3, h4⟩ := (cI_lin hI h1).1.2.2.2.2.2.2.2.2.2.2.2 k h2
    exact ⟨q, h3, h4, by rw [h4, tn_nI (by omega)], fun e => hno b' k h1 h2 (by rw [h4, e])⟩
  obtain ⟨A', hA'⟩ : ∃ A', A' = oAllotY A b p := ⟨_, rfl⟩
  obtain ⟨B', hB'⟩ : ∃ B', B' = mmY B b p := ⟨_, rfl⟩
  rw [← hA', ← hB']
  have ane : ∀ r, r ≠ 13 + 10 * b → r ≠ 14 + 10 * b → r ≠ 40 + p → r ≠ 11 + 10 * b → r ≠ 12 + 10 * b → A' r = A r := fun r a1 a2 a3 a4 a5 => by rw [hA']; exact oAllotY_ne a1 a2 a3 a4 a5
  have ak2 : A' (13 + 10 * b) 2 = A (13 + 10 * b) 2 - A (40 + p) 4 := by rw [hA']; exact oAllotY_k2 hb2
  have al : A' (14 + 10 * b) = va_up (A (14 + 10 * b)) (cNq A b) (A (40 + p) 4) := by rw [hA']; exact oAllotY_l hb2
  have ap : A' (40 + p) = va_up (A (40 + p)) 6 (nI (cNq A b)) := by rw [hA']; exact oAllotY_p hb2
  have anq : cNq A' b = cNq A b + 1 := by rw [hA']; exact oAllotY_nq hb2 hq
  have arow : ∀ k, A' (12 + 10 * b) k = if k = cNq A b then nI p else if k < cNq A b then A (12 + 10 * b) k else -1 := fun k => by rw [hA']; exact oAllotY_at hb2 hlis hq k
  clear hA'
  have apj : ∀ j, j ≠ p → A' (40 + j) = A (40 + j) := fun j hk => ane (40 + j) (by omega) (by omega) (by omega) (by omega) (by omega)
  have apk : ∀ j k, k ≠ 6 → A' (40 + j) k = A (40 + j) k := fun j k hk => by
    by_cases h : j = p
    · subst h; rw [ap, va_up_ne _ _ hk]
    · rw [apj j h]
  have b0 : ∀ r k, r ≠ 67 → r ≠ 66 → r ≠ 75 → r ≠ 65 → B' r k = B r k := fun r k a1 a2 a3 a4 => by rw [hB']; exact mmY_0 a1 a2 a3 a4
  have b67 : B' 67 (8 * b + cNq A b) = nI p := by
    rw [hB']; unfold mmY; rw [hnq]; simp (disch := omega) only [up2_ne, up2_eq]
  have b67n : ∀ k, k ≠ 8 * b + cNq A b → B' 67 k = B 67 k := fun k hk => by
    rw [hB']; unfold mmY; rw [hnq]; simp (disch := omega) only [up2_ne]
  have b66 : B' 66 b = nI (cNq A b + 1) := by
    rw [hB']; unfold mmY; simp (disch := omega) only [up2_ne, up2_eq]; rw [h66, hnq]; exact nI_1 _
  have b66n : ∀ k, k ≠ b → B' 66 k = B 66 k := fun k hk => by
    rw [hB']; unfold mmY; simp (disch := omega) only [up2_ne]
  have b75 : B' 75 p = A (40 + p) 4 := by
    rw [hB']; unfold mmY; simp (disch := omega) only [up2_ne, up2_eq]; exact h73
  have b75n : ∀ k, k ≠ p → B' 75 k = B 75 k := fun k hk => by
    rw [hB']; unfold mmY; simp (disch := omega) only [up2_ne]
  have b65 : B' 65 b = A (13 + 10 * b) 2 - A (40 + p) 4 := by
    rw [hB']; unfold mmY; rw [up2_eq, h65, h73]
  have b65n : ∀ k, k ≠ b → B' 65 k = B 65 k := fun k hk => by
    rw [hB']; unfold mmY; simp (disch := omega) only [up2_ne]
  clear hB'
  have eb : cNb A' = cNb A := by unfold cNb; rw [ane 1 (by omega) (by omega) (by omega) (by omega) (by omega)]
  have ep : cNp A' = cNp A := by unfold cNp; rw [ane 3 (by omega) (by omega) (by omega) (by omega) (by omega)]
  have emb : mNb B' = mNb B := by unfold mNb; rw [b0 60 1 (by omega) (by omega) (by omega) (by omega)]
  have emp : mNp B' = mNp B := by unfold mNp; rw [b0 60 2 (by omega) (by omega) (by omega) (by omega)]
  have qn : ∀ b', b' < 2 → b' ≠ b → cNq A' b' = cNq A b' ∧ A' (12 + 10 * b') = A (12 + 10 * b') := fun b' h1 h2 => ⟨by unfold cNq; rw [ane _ (by omega) (by omega) (by omega) (by omega) (by omega)], ane _ (by omega) (by omega) (by omega) (by omega) (by omega)⟩
  have r10 : ∀ b', b' < 2 → A' (10 + 10 * b') = A (10 + 10 * b') := fun b' h1 => ane _ (by omega) (by omega) (by omega) (by omega) (by omega)
  have r17 : ∀ b', b' < 2 → A' (17 + 10 * b') = A (17 + 10 * b') := fun b' h1 => ane _ (by omega) (by omega) (by omega) (by omega) (by omega)
  have rl1 : ∀ b', b' < cNb A → rL1 A' B' b' := fun b' h1 => by
    have p1 := (hrL b' h1).1
    unfold rL1 at *
    rw [r10 b' (by omega), b0 61 _ (by omega) (by omega) (by omega) (by omega), b0 62 _ (by omega) (by omega) (by omega) (by omega), b0 63 _ (by omega) (by omega) (by omega) (by omega), b0 64 _ (by omega) (by omega) (by omega) (by omega), b0 68 _ (by omega) (by omega) (by omega) (by omega), b0 69 _ (by omega) (by omega) (by omega) (by omega)]
    exact p1
  refine ⟨⟨⟨by rw [eb, emb]; exact hnb, by rw [ep, emp]; exact hnp⟩, hrU.cong (ane 5 (by omega) (by omega) (by omega) (by omega) (by omega)) (ane 6 (by omega) (by omega) (by omega) (by omega) (by omega)) (fun k _ => b0 82 k (by omega) (by omega) (by omega) (by omega)) (fun k _ => b0 83 k (by omega) (by omega) (by omega) (by omega)) (b0 60 4 (by omega) (by omega) (by omega) (by omega)), fun b' hb' => ?_, fun j hj => ?_, ?_⟩, fun j => ?_⟩
  · rw [eb] at hb'
    obtain ⟨p1, p2, p3, p4, p5, p6⟩ := hrL b' hb'
    have hb2' : b' < 2 := by omega
    have hq8' := (cI_lin hI hb').1.2.2.2.2.2.2.1
    refine ⟨rl1 b' hb', ?_, ?_, ?_, ?_, ?_⟩
    · unfold rL2 at *; rw [r10 b' hb2']; exact p2
    · by_cases hbb : b' = b
      · subst hbb
        unfold rL3
        rw [r10 b' hb2', ak2, b65]
        exact ⟨fun q => absurd q hmet, fun _ => rfl⟩
      · unfold rL3 at *
        rw [r10 b' hb2', (qn b' hb2' hbb).1, ane (13 + 10 * b') (by omega) (by omega) (by omega) (by omega) (by omega), b65n b' hbb]
        exact p3
    · by_cases hbb : b' = b
      · subst hbb
        unfold rL4
        rw [anq]
        refine ⟨by unfold mNq; rw [b66, tn_nI (by omega)], fun k hk => ?_⟩
        by_cases hkn : k = cNq A b'
        · subst hkn
          have e1 : mQ B' b' (cNq A b') = nI p := b67
          have e2 : A' (12 + 10 * b') (cNq A b') = nI p := by rw [arow, if_pos rfl]
          have e3 : tn (nI p) = p := tn_nI (by omega)
          rw [e2, e3, al, va_up_self, ap, va_up_self, va_up_ne _ _ (by decide)]
          obtain ⟨us, sc, w, d, -, -, -, -, w1, w2, w3, -⟩ := hP.2.1
          refine ⟨e1, ?_, ⟨w, w3, w1⟩, rfl, hln⟩
          unfold mLf
          rw [e1, e3, b75]
        · obtain ⟨q, h1, h2, h3, h4⟩ := ent b' k hb' (by omega)
          obtain ⟨a1, a2, a3, a4, a5⟩ := p4.2 k (by omega)
          have e1 : mQ B' b' k = mQ B b' k := b67n _ (by omega)
          have e2 : A' (12 + 10 * b') k = A (12 + 10 * b') k := by rw [arow, if_neg hkn, if_pos (by omega)]
          have e3 : tn (mQ B b' k) = q := by rw [a1, h3]
          rw [e2, e1, al, va_up_ne _ _ hkn]
          refine ⟨a1, ?_, a3, ?_, ?_⟩
          · rw [← a2]
            unfold mLf
            rw [e1, e3, b75n q h4]
          · rw [h3, apj q h4, ← h3]; exact a4
          · rw [h3, apj q h4, ← h3]; exact a5
      · unfold rL4
        rw [(qn b' hb2' hbb).1, (qn b' hb2' hbb).2, ane (14 + 10 * b') (by omega) (by omega) (by omega) (by omega) (by omega)]
        refine ⟨by unfold mNq; rw [b66n b' hbb]; exact p4.1, fun k hk => ?_⟩
        obtain ⟨q, h1, h2, h3, h4⟩ := ent b' k hb' (by omega)
        obtain ⟨a1, a2, a3, a4, a5⟩ := p4.2 k hk
        have e1 : mQ B' b' k = mQ B b' k := b67n _ (by omega)
        have e3 : tn (mQ B b' k) = q := by rw [a1, h3]
        rw [e1]
        refine ⟨a1, ?_, a3, ?_, ?_⟩
        · rw [← a2]
          unfold mLf
          rw [e1, e3, b75n q h4]
        · rw [h3, apj q h4, ← h3]; exact a4
        · rw [h3, apj q h4, ← h3]; exact a5
    · unfold rL5 at *; rw [r10 b' hb2']; exact p5
    · by_cases hbb : b' = b
      · subst hbb
        have e0 : ∀ C : ME, C (10 + 10 * b') 6 = 0 → cReplay C b' = cAll C b' := fun C hC => by
          unfold cReplay; rw [hC]; rfl
        unfold rL6 at *
        rw [e0 A hps] at p6
        rw [e0 A' (by rw [r10 b' hb2']; exact hps), anq, al, ak2]
        have e1 : cAll A' b' = kAl (cAll A b') (A (40 + p) 4) := by
          unfold cAll
          rw [anq, r10 b' hb2', ane (16 + 10 * b') (by omega) (by omega) (by omega) (by omega) (by omega), rpA_snoc]
          rw [rpA_cong (w := fun i => A' (40 + tn (A' (12 + 10 * b') i)) 4) (w' := fun i => A (40 + tn (A (12 + 10 * b') i)) 4) (fun k _ hk => by
            obtain ⟨q, h1, h2, h3, h4⟩ := ent b' k hb' (by omega)
            show A' (40 + tn (A' (12 + 10 * b') k)) 4 = A (40 + tn (A (12 + 10 * b') k)) 4
            rw [arow, if_neg (by omega), if_pos (by omega), h3, apj q h4])]
          congr 1
          show A' (40 + tn (A' (12 + 10 * b') (0 + cNq A b'))) 4 = A (40 + p) 4
          rw [Nat.zero_add, arow, if_pos rfl, tn_nI (by omega), apk p 4 (by decide)]
        rw [e1]
        have e2 := p6.al (A (40 + p) 4)
        have e3 : kAl (cNq A b', A (14 + 10 * b'), A (13 + 10 * b') 2) (A (40 + p) 4) = (cNq A b' + 1, va_up (A (14 + 10 * b')) (cNq A b') (A (40 + p) 4), A (13 + 10 * b') 2 - A (40 + p) 4) := by
          unfold kAl kAllot
          rw [if_neg (fun e => e.elim hw (fun e => by omega))]
        rw [e3] at e2
        exact e2
      · unfold rL6 at *
        rw [(qn b' hb2' hbb).1, ane (14 + 10 * b') (by omega) (by omega) (by omega) (by omega) (by omega), ane (13 + 10 * b') (by omega) (by omega) (by omega) (by omega) (by omega)]
        exact (rep_cong hI hb' (qn b' hb2' hbb).1 (qn b' hb2' hbb).2 (r17 b' hb2') (by rw [r10 b' hb2']) (by rw [r10 b' hb2']) (fun j _ => apk j 4 (by decide))).trans p6
  · rw [ep] at hj
    obtain ⟨p1, p2, p3, p4, p5, p6⟩ := hrP j hj
    refine ⟨?_, ?_, ?_, ?_, ?_, ?_⟩
    · unfold rP1 at *
      rw [b0 70 j (by omega) (by omega) (by omega) (by omega), b0 71 j (by omega) (by omega) (by omega) (by omega), b0 72 j (by omega) (by omega) (by omega) (by omega), b0 73 j (by omega) (by omega) (by omega) (by omega), b0 74 j (by omega) (by omega) (by omega) (by omega), apk j 1 (by decide), apk j 2 (by decide), apk j 3 (by decide), apk j 4 (by decide), apk j 5 (by decide)]
      exact p1
    · unfold rP2 at *
      rw [apk j 2 (by decide), apk j 3 (by decide), apk j 4 (by decide), apk j 5 (by decide)]
      exact p2
    · unfold rP3 at *
      rw [b0 76 j (by omega) (by omega) (by omega) (by omega), b0 77 j (by omega) (by omega) (by omega) (by omega), b0 78 j (by omega) (by omega) (by omega) (by omega), b0 79 j (by omega) (by omega) (by omega) (by omega), apk j 9 (by decide), apk j 10 (by decide), apk j 11 (by decide), apk j 12 (by decide)]
      exact p3
    · unfold rP4 at *
      rw [apk j 1 (by decide), apk j 9 (by decide), apk j 10 (by decide), apk j 11 (by decide), apk j 12 (by decide)]
      exact p4
    · unfold rP5 at *
      rw [b0 80 j (by omega) (by omega) (by omega) (by omega), b0 81 j (by omega) (by omega) (by omega) (by omega), apk j 7 (by decide), apk j 8 (by decide)]
      exact p5
    · unfold rP6
      rw [apk j 1 (by decide), eb]
      by_cases hjp : j = p
      · subst hjp
        right
        rw [hln, tn_nI (by omega), ap, va_up_self, anq]
        exact ⟨cNq A b, rfl, by omega, by rw [arow, if_pos rfl]⟩
      · rw [apj j hjp, b75n j hjp]
        rcases p6 with ⟨a1, a2, a3⟩ | ⟨k, a1, a2, a3⟩
        · refine Or.inl ⟨a1, a2, fun b' k hb' hk e => ?_⟩
          by_cases hbb : b' = b
          · subst hbb
            rw [anq] at hk
            rw [arow] at e
            by_cases hkn : k = cNq A b'
            · rw [if_pos hkn] at e
              exact hjp ((nI_eq (by omega) (by omega)).mp e).symm
            · rw [if_neg hkn, if_pos (by omega)] at e
              exact a3 b' k hb' (by omega) e
          · rw [(qn b' (by omega) hbb).1] at hk
            rw [(qn b' (by omega) hbb).2] at e
            exact a3 b' k hb' hk e
        · have hl2 := (ln_lt hI hj).2.1
          refine Or.inr ⟨k, a1, ?_, ?_⟩
          · by_cases hbb : tn (A (40 + j) 1) = b
            · rw [hbb] at a2 ⊢; rw [anq]; omega
            · rw [(qn _ hl2 hbb).1]; exact a2
          · by_cases hbb : tn (A (40 + j) 1) = b
            · rw [hbb] at a2 a3 ⊢; rw [arow, if_neg (by omega), if_pos a2]; exact a3
            · rw [(qn _ hl2 hbb).2]; exact a3
  · refine ⟨fun b' h1 h2 => ?_, fun j h1 h2 => ?_⟩
    · rw [emb] at h1
      have := hrZ.1 b' h1 h2
      rw [b0 63 _ (by omega) (by omega) (by omega) (by omega), b0 64 _ (by omega) (by omega) (by omega) (by omega), b0 68 _ (by omega) (by omega) (by omega) (by omega), b0 69 _ (by omega) (by omega) (by omega) (by omega), b66n b' (by omega)]
      exact this
    · rw [emp] at h1
      have := hrZ.2 j h1 h2
      rw [b75n j (by omega), b0 76 _ (by omega) (by omega) (by omega) (by omega), b0 77 _ (by omega) (by omega) (by omega) (by omega), b0 78 _ (by omega) (by omega) (by omega) (by omega), b0 79 _ (by omega) (by omega) (by omega) (by omega), b0 81 _ (by omega) (by omega) (by omega) (by omega)]
      exact this
  · unfold isC
    rw [apk j 7 (by decide), apk j 8 (by decide)]
end MEET1
