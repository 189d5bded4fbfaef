section LW3
variable {Lv : Nat → Bool} {C B W : ME} {n T j b u : Nat}
/-- put -/
theorem k_put (h : lwS n T W Lv C B) (hj : j < n) {x : Int32} (hx : x = 114 ∨ x = 99 ∨ x = 98) : (W 90 j = 0 ∧ kPut C (nI j) x = 3) ∨ (¬ W 90 j = 0 ∧ ((kPut C (nI j) x = 0 ∧ C (40 + tn (nI j)) 8 = W 90 j) ∨ (kPut C (nI j) x = 4 ∧ x = 99))) := by
  have h8 := h.n8
  have e := e_put h.R h.I h.1.2.2.2.2 (j := nI j) (x := x)
  have ek : kPut C (nI j) x = if ¬ B 81 j = 110 then (if x = 99 ∧ ¬ B 81 j = 99 ∧ mCold B = 3 then 4 else 0) else 3 := by
    rw [e.1]
    unfold jPut
    rw [h.np, if_pos (ok_m hj (by omega)), if_pos hx, tn_nI (by omega)]
  rcases h.2.2.2.2.1 j hj with ⟨w1, w2⟩ | ⟨w1, w2, -⟩
  · rw [if_neg (fun z => z w2)] at ek
    exact Or.inl ⟨w1, ek⟩
  · have hn0 : ¬ W 90 j = 0 := by rcases w2 with q | q | q <;> rw [q] <;> decide
    have hn1 : ¬ B 81 j = 110 := by rw [w1]; rcases w2 with q | q | q <;> rw [q] <;> decide
    rw [if_pos hn1] at ek
    refine Or.inr ⟨hn0, ?_⟩
    by_cases q2 : x = 99 ∧ ¬ B 81 j = 99 ∧ mCold B = 3
    · rw [if_pos q2] at ek
      exact Or.inr ⟨ek, q2.1⟩
    · rw [if_neg q2] at ek
      refine Or.inl ⟨ek, (e.2 ek).1.trans ?_⟩
      rw [tn_nI (by omega)]; exact w1
theorem lwS.c8 (h : lwS n T W Lv C B) : ∀ j, j < cNp C → narrow .char (.int (C (40 + j) 8)) = .int (C (40 + j) 8) := fun j hj => by
  obtain ⟨t, -, -, -, hT⟩ := h.R
  rcases (hT.2.2.2.1 j hj).2.2.2.2.1 with ⟨-, a2, -⟩ | ⟨-, -, -, a5⟩
  · rw [a2]; decide +kernel
  · rcases a5 with a5 | a5 | a5 <;> rw [a5] <;> decide +kernel
theorem ch_vp {x : Int32} (h : x = 114 ∨ x = 99 ∨ x = 98) : vp_nar .char x = x := by rcases h with rfl | rfl | rfl <;> decide +kernel
theorem lwS.put (h : lwS n T W Lv C B) (hj : j < n) {x : Int32} (hx : x = 114 ∨ x = 99 ∨ x = 98) (hk : kPut C (nI j) x = 0) : ∃ B', lwS n T (up2 W 90 j x) Lv (up2 C (40 + tn (nI j)) 8 x) B' := by
  have h8 := h.n8
  have hw := k_put h hj hx
  obtain ⟨-, h4, h5⟩ := (e_put h.R h.I h.1.2.2.2.2 (j := nI j) (x := x)).2 hk
  rw [show tn (nI j) = j from tn_nI (by omega)] at h4 h5 ⊢
  obtain ⟨⟨hI, hJ, hR, hM, hC⟩, ⟨a1, a2, a3, a4⟩, b1, b2, b3, b4, b5, b6, b7⟩ := h
  have hE : cE C (up2 C (40 + j) 8 x) := cE.put (by unfold cT; omega)
  have ne : ∀ r k, r ≠ 81 → up2 B 81 j x r k = B r k := fun r k q1 => up2_ne (by omega)
  refine ⟨_, ⟨hE.keep hI, hJ, h4, (mE.put (by omega)).keep hM, h5⟩, ⟨a1, a2, hE.nb.trans a3, hE.np.trans a4⟩, fun i hi => ?_, fun i hi => ?_, fun i hi => ?_, fun b hb => ?_, b5.same (fun r k _ _ => ne r k (by omega)), fun b hb => (b6 b hb).same (fun r k _ _ => ne r k (by omega)) (ne _ _ (by omega)) (ne _ _ (by omega)), ?_⟩
  · rw [ne 70 i (by omega), ne 71 i (by omega), ne 73 i (by omega), up2_ne (by omega), up2_ne (by omega), up2_ne (by omega)]; exact b1 i hi
  · rw [ne 82 i (by omega), ne 83 i (by omega), up2_ne (by omega), up2_ne (by omega)]; exact b2 i hi
  · by_cases q : i = j
    · subst q
      have h9 := b3 i hi
      rcases hw with ⟨w1, w2⟩ | ⟨w1, w2⟩
      · rw [hk] at w2; exact absurd w2 (by decide)
      · rcases h9 with ⟨z1, z2⟩ | ⟨z1, z2, z3⟩
        · exact absurd z1 w1
        · refine Or.inr ⟨by rw [up2_eq, up2_eq], by rw [up2_eq]; exact hx, by rw [ne 80 i (by omega)]; exact z3⟩
    · rw [up2_ne (by omega), up2_ne (by omega), ne 80 i (by omega)]; exact b3 i hi
  · rw [ne 68 b (by omega), ne 61 b (by omega), up2_ne (by omega)]; exact b4 b hb
  · rw [ne 60 3 (by omega)]; exact b7
/-- fail -/
theorem k_fail (h : lwS n T W Lv C B) (hb : b < 2) : kFail C (nI b) = (if B 69 b = 0 then 0 else 2) ∧ (B 69 b = 0 → cFail C (tn (nI b)) = if mOn B b = -1 then 0 else 1) := by
  have e := e_fail h.R h.I (b := nI b)
  have ek : kFail C (nI b) = (if B 69 b = 0 then 0 else 2) := by
    rw [e.1]
    unfold jFail
    rw [h.nb, if_pos (ok_m hb (by decide)), tn_nI (by omega)]
  refine ⟨ek, fun q => ?_⟩
  rw [if_pos q] at ek
  rw [(e.2 ek).1, tn_nI (by omega)]
theorem lwS.fail (h : lwS n T W Lv C B) (hb : b < 2) (hk : kFail C (nI b) = 0) : lwS n T W Lv (up2 C (10 + 10 * tn (nI b)) 10 1) (up2 B 69 b 1) := by
  have h4 := ((e_fail h.R h.I (b := nI b)).2 hk).2
  rw [show tn (nI b) = b from tn_nI (by omega)] at h4 ⊢
  obtain ⟨⟨hI, hJ, hR, hM, hC⟩, ⟨a1, a2, a3, a4⟩, b1, b2, b3, b4, b5, b6, b7⟩ := h
  have hE : cE C (up2 C (10 + 10 * b) 10 1) := cE.put (by unfold cT; omega)
  have ne : ∀ r k, r ≠ 69 → up2 B 69 b 1 r k = B r k := fun r k q1 => up2_ne (by omega)
  refine ⟨⟨hE.keep hI, hJ, h4, (mE.put (by omega)).keep hM, rC_put (by omega) (by omega) hC⟩, ⟨a1, a2, hE.nb.trans a3, hE.np.trans a4⟩, fun i hi => ?_, fun i hi => ?_, fun i hi => ?_, fun b hb => ?_, b5.same (fun r k _ _ => ne r k (by omega)), fun b hb => (b6 b hb).same (fun r k _ _ => ne r k (by omega)) (ne _ _ (by omega)) (ne _ _ (by omega)), ?_⟩
  · rw [ne 70 i (by omega), ne 71 i (by omega), ne 73 i (by omega)]; exact b1 i hi
  · rw [ne 82 i (by omega), ne 83 i (by omega)]; exact b2 i hi
  · rw [ne 80 i (by omega), ne 81 i (by omega)]; exact b3 i hi
  · rw [ne 68 b (by omega), ne 61 b (by omega)]; exact b4 b hb
  · rw [ne 60 3 (by omega)]; exact b7
theorem on_fail (B : ME) (b b' : Nat) : mOn (up2 B 69 b 1) b' = mOn B b' := by
  have e1 : mNq (up2 B 69 b 1) b' = mNq B b' := by unfold mNq; rw [up2_ne (by omega)]
  have e2 : mQ (up2 B 69 b 1) b' = mQ B b' := funext fun k => by unfold mQ; rw [up2_ne (by omega)]
  have e3 : mLf (up2 B 69 b 1) b' = mLf B b' := funext fun k => by unfold mLf; rw [e2, up2_ne (by omega)]
  unfold mOn
  rw [e1, e2, e3]
/-- pass -/
theorem lwS.pass (h : lwS n T W Lv C B) (hT : T < 200) : kPass C 1 = 0 ∧ (qPass C 1).2 = mDid B 0 + mDid B 1 ∧ lwS n (T + 1) W Lv (qPass C 1).1 (m3 B) := by
  have e := e_pass h.R h.I h.1.2.2.2.1 h.1.2.2.2.2 (n := 1)
  have hk : kPass C 1 = 0 := by
    rw [e.1]
    unfold jPass
    obtain ⟨t, t1, t2⟩ := h.2.2.2.2.2.2.2.2
    rw [if_pos ⟨by decide, by decide⟩, t2, if_pos]
    rw [nI_1, show (200 : Int32) = nI 200 from rfl]
    exact nI_le (by omega) (by decide)
  obtain ⟨p1, p2, p3, p4, p5⟩ := e.2 hk
  have hq := h.q
  have hN := h.nb
  have hnp := h.np
  refine ⟨hk, p1.trans (m3_did hq hN), ?_⟩
  have ne : ∀ r k, ¬ (r = 64 ∨ r = 65 ∨ r = 69) → ¬ (75 ≤ r ∧ r ≤ 79) → r ≠ 80 → ¬ (r = 60 ∧ k = 3) → m3 B r k = B r k := fun r k q1 q2 q3 q4 => by rw [m3_ne hN q3 q4]; exact m2_lo hq q1 q2
  obtain ⟨-, ⟨a1, a2, a3, a4⟩, b1, b2, b3, b4, b5, b6, b7⟩ := id h
  obtain ⟨c1, c2⟩ := m2_ac hq b5 b6
  have hR2 : Rel (qPass C 1).1 (m3 B) := p2
  refine ⟨⟨p4, h.1.2.1, p2, p5, p3⟩, ⟨a1, a2, ?_, ?_⟩, fun i hi => ?_, fun i hi => ?_, fun i hi => ?_, fun b hb => ?_, c1.same (fun r k _ _ => m3_ne hN (by omega) (by omega)), fun b hb => (c2 b hb).same (fun r k _ _ => m3_ne hN (by omega) (by omega)) (m3_ne hN (by omega) (by omega)) (m3_ne hN (by omega) (by omega)), ?_⟩
  · rw [hR2.nb]; unfold mNb; rw [ne 60 1 (by omega) (by omega) (by omega) (by omega)]; exact hN
  · rw [hR2.np]; unfold mNp; rw [ne 60 2 (by omega) (by omega) (by omega) (by omega)]; exact hnp
  · rw [ne 70 i (by omega) (by omega) (by omega) (by omega), ne 71 i (by omega) (by omega) (by omega) (by omega), ne 73 i (by omega) (by omega) (by omega) (by omega)]; exact b1 i hi
  · rw [ne 82 i (by omega) (by omega) (by omega) (by omega), ne 83 i (by omega) (by omega) (by omega) (by omega)]; exact b2 i hi
  · rw [ne 81 i (by omega) (by omega) (by omega) (by omega), m3_80 hq hN (by rw [hnp]; exact hi)]
    rcases b3 i hi with z | ⟨z1, z2, l, z3, z4⟩
    · exact Or.inl z
    · refine Or.inr ⟨z1, z2, ?_⟩
      unfold maV
      rw [z4]
      by_cases q : (B 81 i = 114 ∨ B 81 i = 98) ∧ 0 < nI l
      · rw [if_pos q]
        rcases l with _ | l
        · exact absurd q.2 (by decide)
        · exact ⟨l, by omega, nI_pred l⟩
      · rw [if_neg q]
        exact ⟨l, z3, Int32.sub_zero _⟩
  · rw [ne 68 b (by omega) (by omega) (by omega) (by omega), ne 61 b (by omega) (by omega) (by omega) (by omega)]; exact b4 b hb
  · obtain ⟨t, t1, t2⟩ := b7
    exact ⟨t + 1, by omega, by rw [m3_t hq hN, t2]; exact nI_1 t⟩
theorem pass_life (h : lwS n T W Lv C B) (hj : j < n) (h0 : ¬ W 90 j = 0) : ¬ B 81 j = 110 ∧ m3 B 81 j = B 81 j ∧ ∃ l : Nat, l ≤ 50 ∧ B 80 j = nI l ∧ m3 B 80 j = nI (if W 90 j = 99 then l else l - 1) := by
  have hq := h.q
  have hN := h.nb
  rcases h.2.2.2.2.1 j hj with ⟨z, -⟩ | ⟨z1, z2, l, z3, z4⟩
  · exact absurd z h0
  · refine ⟨by rw [z1]; rcases z2 with q | q | q <;> rw [q] <;> decide, by rw [m3_ne hN (by omega) (by omega)]; exact m2_lo hq (by omega) (by omega), l, z3, z4, ?_⟩
    rw [m3_80 hq hN (by rw [h.np]; exact hj)]
    unfold maV
    rw [z4, z1]
    by_cases q : W 90 j = 99
    · rw [if_pos q, q, if_neg (fun z => by rcases z.1 with z | z <;> exact absurd z (by decide)), Int32.sub_zero]
    · rw [if_neg q]
      have q2 : W 90 j = 114 ∨ W 90 j = 98 := by
        rcases z2 with a | a | a
        · exact Or.inl a
        · exact absurd a q
        · exact Or.inr a
      rcases l with _ | l
      · rw [if_neg (fun z => absurd z.2 (by decide))]; rfl
      · rw [if_pos ⟨q2, by rw [show (0 : Int32) = nI 0 from rfl, nI_lt_iff (by decide) (by omega)]; omega⟩]
        exact nI_pred l
theorem pass_left (h : lwS n T W Lv C B) (hb : b < 2) {k : Nat} (e : kFst (mNq B b) (mLf B b) = some k) (hw : ¬ mWhy B b = 102) : m3 B 75 (tn (mQ B b k)) = B 75 (tn (mQ B b k)) - 1 := by
  rw [m3_ne h.nb (by omega) (by omega)]
  exact m2_on h.q hb e hw
theorem pass_f (h : lwS n T W Lv C B) (hb : b < 2) : ¬ mWhy (m3 B) b = 102 := by
  have e : m3 B 69 b = 0 := by rw [m3_ne h.nb (by omega) (by omega)]; exact m2_69 h.q hb
  rcases e2 : kFst (mNq (m3 B) b) (mLf (m3 B) b) with _ | k
  · rw [mWhy_n e2]; decide
  · rw [mWhy_s e2]
    unfold mWhyJ
    rw [if_neg (fun z => z e)]
    repeat' split
    all_goals decide
end LW3
