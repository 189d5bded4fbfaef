/-- a sum with one summand more by d -/
theorem sumf_upd {f f' : Nat → Int32} {k : Nat} {d : Int32} (hk : f' k = f k + d) (ho : ∀ i, i ≠ k → f' i = f i) : ∀ {n i : Nat} {x : Int32}, i ≤ k → k < i + n → sumf f' n i x = sumf f n i x + d
  | 0, _, _, h1, h2 => by omega
  | n + 1, i, x, h1, h2 => by
    unfold sumf
    by_cases hik : i = k
    · subst hik
      rw [hk, sumf_cong (f := f') (h := f) (fun j a b => ho j (by omega)), ← Int32.add_assoc, Int32.add_comm (x + f i) d, sumf_add, Int32.add_comm]
    · rw [ho i hik]
      exact sumf_upd hk ho (by omega) (by omega)
section EASY3
variable {Lv : Nat → Bool} {A B : ME}
theorem RelT.user {A' B' : ME} {T : Nat → Nat} (h : RelT A B T) (hI : cI Lv A) (hA : ∀ r k, r < 60 → r ≠ 5 → r ≠ 6 → A' r k = A r k) (hB : ∀ r k, 61 ≤ r → r < 82 → B' r k = B r k) (hB0 : ∀ k, 1 ≤ k → k ≤ 3 → B' 60 k = B 60 k) (hU : rU A' B') : RelT A' B' T := by
  obtain ⟨r1, r2, r3, r4, r5⟩ := h
  have h12 := hI.1
  have hn8 := hI.2.1
  have row : ∀ r, r < 60 → r ≠ 5 → r ≠ 6 → A' r = A r := fun r a b c => funext fun k => hA r k a b c
  have enb : cNb A' = cNb A := by unfold cNb; rw [row 1 (by omega) (by omega) (by omega)]
  have enp : cNp A' = cNp A := by unfold cNp; rw [row 3 (by omega) (by omega) (by omega)]
  refine ⟨r1.cong enb enp (hB0 1 (by decide) (by decide)) (hB0 2 (by decide) (by decide)), hU, fun b' hb' => ?_, fun j' hj' => ?_, r5.cong (fun r k h1 h2 _ _ => hB r k h1 h2) (hB0 1 (by decide) (by decide)) (hB0 2 (by decide) (by decide))⟩
  · rw [enb] at hb'
    refine (r3 b' hb').cong hI hb' ⟨fun r k h1 h2 h3 h4 => hA r k (by omega) (by omega) (by omega), fun j hj => ⟨hA _ _ (by omega) (by omega) (by omega), hA _ _ (by omega) (by omega) (by omega), hA _ _ (by omega) (by omega) (by omega)⟩⟩ ⟨fun r h1 h2 => hB r b' h1 (by omega), hB 68 b' (by decide) (by decide), hB 69 b' (by decide) (by decide), fun k => hB 67 k (by decide) (by decide), fun k => hB 75 k (by decide) (by decide)⟩
  · rw [enp] at hj'
    exact (r4 j' hj').cong (by omega) enb h12 (ln_lt hI hj').2.1 (fun b hb => ⟨by unfold cNq; rw [row _ (by omega) (by omega) (by omega)], row _ (by omega) (by omega) (by omega)⟩) (row _ (by omega) (by omega) (by omega)) (fun r h1 h2 => hB r j' (by omega) (by omega))
theorem e_train (h : Rel A B) (hI : cI Lv A) {u : Int32} : kTrain A u = jTrain B u ∧ (kTrain A u = 0 → cTrained (va_up (A 5) (tn u) 1) = B 60 4 + 1 ∧ Rel (up2 A 5 (tn u) 1) (up2 (up2 B 82 (tn u) 1) 60 4 (B 60 4 + 1))) := by
  obtain ⟨t, t1, t2, t3, hT⟩ := h
  unfold kTrain jTrain
  by_cases hok : okm 10 u
  · have hu := (okm_ix hok (by decide)).2
    rw [if_pos (show ¬ u < 0 ∧ ¬ nI 10 ≤ u from hok), if_pos hok]
    generalize tn u = i at hu
    obtain ⟨u1, u2, u3, u4⟩ := hT.2.1
    rw [(u1 i hu).1]
    refine ⟨rfl, fun hk => ?_⟩
    have h0 := (if0 hk (by decide)).1
    have e : cTrained (va_up (A 5) i 1) = cTrained (A 5) + 1 := by
      unfold cTrained
      refine sumf_upd (k := i) ?_ (fun j hj => ?_) (Nat.zero_le _) (by omega)
      · rw [va_up_self, h0]; rfl
      · rw [va_up_ne _ _ hj]
    refine ⟨by rw [e, u4], t, t1, by rw [up2_ne (by omega)]; exact t2, by rw [up2_ne (by omega), up2_ne (by omega)]; exact t3, hT.user hI (fun r k h1 h2 h3 => up2_ne (by omega)) (fun r k h1 h2 => by rw [up2_ne (by omega), up2_ne (by omega)]) (fun k h1 h2 => by rw [up2_ne (by omega), up2_ne (by omega)]) ?_⟩
    have e5 : up2 A 5 i 1 5 = va_up (A 5) i 1 := va_up_self _ _ _
    refine ⟨fun j hj => ?_, fun j => ?_, ?_, ?_⟩
    · rw [up2_ne (by omega), up2_at, up2_at, up2_ne (by omega), up2_ne (by omega), up2_ne (by omega)]
      refine ⟨?_, (u1 j hj).2⟩
      by_cases hji : j = i
      · rw [if_pos ⟨rfl, hji⟩, if_pos ⟨rfl, hji⟩]
      · rw [if_neg (fun q => hji q.2), if_neg (fun q => hji q.2)]; exact (u1 j hj).1
    · rw [up2_at]; split
      · exact Or.inr rfl
      · exact u2 j
    · rw [show up2 A 5 i 1 6 = A 6 from up2_row (by decide)]; exact u3
    · rw [up2_eq, e5, e, u4]
  · rw [if_neg (show ¬ (¬ u < 0 ∧ ¬ nI 10 ≤ u) from hok), if_neg hok]
    exact ⟨rfl, fun q => absurd q (by decide)⟩
theorem e_setThere (h : Rel A B) (hI : cI Lv A) {u z : Int32} (hz : z = 0 ∨ z = 1) : kThere u = jThere u ∧ (kThere u = 0 → ((if A 6 (tn u) = 0 then (0 : Int64) else 1) = if (if ¬ B 83 (tn u) = 0 then (1 : Int32) else 0) = 0 then 0 else 1) ∧ Rel (up2 A 6 (tn u) z) (up2 B 83 (tn u) z)) := by
  obtain ⟨t, t1, t2, t3, hT⟩ := h
  refine ⟨rfl, fun hk => ?_⟩
  unfold kThere at hk
  have hok : okm 10 u := (if0 hk (by decide)).1
  have hu := (okm_ix hok (by decide)).2
  generalize tn u = i at hu
  obtain ⟨u1, u2, u3, u4⟩ := hT.2.1
  refine ⟨?_, t, t1, by rw [up2_ne (by omega)]; exact t2, by rw [up2_ne (by omega)]; exact t3, hT.user hI (fun r k h1 h2 h3 => up2_ne (by omega)) (fun r k h1 h2 => by rw [up2_ne (by omega)]) (fun k h1 h2 => by rw [up2_ne (by omega)]) ?_⟩
  · rw [(u1 i hu).2]
    by_cases h0 : A 6 i = 0
    · simp [h0]
    · simp [h0]
  · refine ⟨fun j hj => ?_, ?_, fun j => ?_, ?_⟩
    · rw [up2_ne (by omega), up2_ne (by omega), up2_at, up2_at]
      refine ⟨(u1 j hj).1, ?_⟩
      by_cases hji : j = i
      · rw [if_pos ⟨rfl, hji⟩, if_pos ⟨rfl, hji⟩]
      · rw [if_neg (fun q => hji q.2), if_neg (fun q => hji q.2)]; exact (u1 j hj).2
    · rw [show up2 A 6 i z 5 = A 5 from up2_row (by decide)]; exact u2
    · rw [up2_at]; split
      · exact hz
      · exact u3 j
    · rw [up2_ne (by omega), show up2 A 6 i z 5 = A 5 from up2_row (by decide)]; exact u4
theorem prp_k (h : Rel A B) {j : Int32} : okP A j ↔ okm (mNp B) j := by unfold okP okm; rw [h.np]
theorem life_eq {j : Nat} (h : rP5 A B j) : (A (40 + j) 7 = -1) = (B 81 j = 110) := by
  apply propext
  rcases h with ⟨a1, a2, a3⟩ | ⟨a1, a2, ⟨l, a3, a4⟩, a5⟩
  · rw [a1, a3]; exact ⟨fun _ => rfl, fun _ => rfl⟩
  · rw [a4, a2]
    constructor
    · intro q; exact absurd q (nI_ne1 (by omega))
    · intro q; rcases a5 with a5 | a5 | a5 <;> rw [a5] at q <;> exact absurd q (by decide)
theorem e_life (h : Rel A B) (_hI : cI Lv A) {j : Int32} : kLife A j = jLife B j ∧ (kLife A j = 0 → A (40 + tn j) 7 = B 80 (tn j)) := by
  have hp := prp_k h (j := j)
  obtain ⟨t, t1, t2, t3, hT⟩ := h
  unfold kLife jLife
  by_cases hok : okP A j
  · rw [if_pos hok, if_pos (hp.mp hok)]
    have hj := (okP_ix _hI hok).2
    have hP := (hT.2.2.2.1 _ hj).2.2.2.2.1
    simp only [life_eq hP]
    refine ⟨trivial, fun hk => ?_⟩
    have h0 := (if0 hk (by decide)).1
    rcases hP with ⟨a1, a2, a3⟩ | ⟨a1, a2, a3, a5⟩
    · exact absurd a3 h0
    · exact a1.symm
  · rw [if_neg hok, if_neg (fun q => hok (hp.mpr q))]
    exact ⟨rfl, fun q => absurd q (by decide)⟩
theorem left_eq {T : Nat → Nat} (hT : RelT A B T) (hI : cI Lv A) {j : Nat} (hj : j < cNp A) : cLeft A j = B 75 j := by
  have hn8 := hI.2.1
  obtain ⟨l1, l2, l3⟩ := ln_lt hI hj
  have hL := hT.2.2.1 _ l1
  have hq8 := (cI_lin hI l1).1.2.2.2.2.2.2.1
  unfold cLeft
  rcases (hT.2.2.2.1 j hj).2.2.2.2.2 with ⟨a1, a2, a3⟩ | ⟨k, a1, a2, a3⟩
  · rw [a1, a2]; exact (kAt_out (Or.inl (by decide))).symm
  · rw [a1, kAt_nI a2 hq8]
    obtain ⟨b1, b2, -⟩ := hL.2.2.2.1.2 k a2
    rw [← b2]
    unfold mLf
    rw [b1, a3, tn_nI (by omega)]
theorem e_left (h : Rel A B) (hI : cI Lv A) {j : Int32} : kProp A j = jProp B j ∧ (kProp A j = 0 → cLeft A (tn j) = B 75 (tn j)) := by
  refine ⟨by unfold kProp jProp okP okm; rw [h.np], fun hk => ?_⟩
  unfold kProp at hk
  obtain ⟨t, t1, t2, t3, hT⟩ := h
  exact left_eq hT hI (okP_ix hI (if0 hk (by decide)).1).2
theorem e_leftAnew (h : Rel A B) (hI : cI Lv A) {j : Int32} : kProp A j = jProp B j ∧ (kProp A j = 0 → cAnew A (tn j) = B 75 (tn j)) := by
  refine ⟨by unfold kProp jProp okP okm; rw [h.np], fun hk => ?_⟩
  unfold kProp at hk
  obtain ⟨t, t1, t2, t3, hT⟩ := h
  have hj := (okP_ix hI (if0 hk (by decide)).1).2
  rw [← left_eq hT hI hj]
  obtain ⟨l1, l2, l3⟩ := ln_lt hI hj
  have hq8 := (cI_lin hI l1).1.2.2.2.2.2.2.1
  obtain ⟨r1, r2, r3⟩ := (hT.2.2.1 _ l1).2.2.2.2.2
  dsimp only at r1 r2 r3
  unfold cAnew cLeft
  rw [r1]
  rcases (hT.2.2.2.1 _ hj).2.2.2.2.2 with ⟨a1, a2, a3⟩ | ⟨k, a1, a2, a3⟩
  · rw [a1, ← kAt_out (Or.inl (by decide)), ← kAt_out (Or.inl (by decide))]
  · rw [a1, kAt_nI a2 hq8, kAt_nI a2 hq8]
    exact r3 k (by rw [r1]; exact a2)
theorem e_count (h : Rel A B) (hI : cI Lv A) {j x : Int32} : kCount A j x = jCount B j x ∧ (kCount A j x = 0 → cCount A (tn j) x = mCount B (tn j) x) := by
  refine ⟨by unfold kCount jCount okP okm; rw [h.np], fun hk => ?_⟩
  unfold kCount at hk
  obtain ⟨t, t1, t2, t3, hT⟩ := h
  obtain ⟨c1, c2, c3, c4⟩ := (hT.2.2.2.1 _ (okP_ix hI (if0 hk (by decide)).1).2).2.2.1
  unfold cCount mCount
  rw [c1, c2, c3, c4]
end EASY3
