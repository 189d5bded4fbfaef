/-! who is on, and when each begins */ -/
section LW1
variable {Lv : Nat → Bool} {C B W : ME} {n T j b : Nat}
def nsum (m : Nat → Nat) : Nat → Nat
  | 0 => 0
  | k + 1 => nsum m k + m k
theorem sumf_end {f : Nat → Int32} : ∀ {k i : Nat} {x : Int32}, sumf f (k + 1) i x = sumf f k i x + f (i + k)
  | 0, _, _ => rfl
  | k + 1, i, x => by
    have h := sumf_end (f := f) (k := k) (i := i + 1) (x := x + f i)
    rw [show i + (k + 1) = i + 1 + k by omega]
    exact h
theorem sumf_nat {f : Nat → Int32} {m : Nat → Nat} {x : Nat} : ∀ {k : Nat}, (∀ i, i < k → f i = nI (m i)) → sumf f k 0 (nI x) = nI (x + nsum m k)
  | 0, _ => rfl
  | k + 1, h => by
    rw [sumf_end, sumf_nat (k := k) (fun i hi => h i (by omega)), Nat.zero_add, h k (by omega), nI_add, Nat.add_assoc, show nsum m (k + 1) = nsum m k + m k from rfl]
theorem nsum_0 {m : Nat → Nat} : ∀ {k : Nat}, (∀ i, i < k → m i = 0) → nsum m k = 0
  | 0, _ => rfl
  | k + 1, h => by unfold nsum; rw [nsum_0 (k := k) (fun i hi => h i (by omega)), h k (by omega)]
theorem nsum_le {m : Nat → Nat} {M : Nat} : ∀ {k : Nat}, (∀ i, i < k → m i ≤ M) → nsum m k ≤ M * k
  | 0, _ => Nat.le_refl _
  | k + 1, h => by
    have h1 := nsum_le (k := k) (fun i hi => h i (by omega))
    have h2 := h k (by omega)
    unfold nsum
    rw [Nat.mul_succ]
    omega
theorem nsum_ge {m : Nat → Nat} {k0 : Nat} : ∀ {k : Nat}, k0 < k → m k0 ≤ nsum m k
  | 0, h => by omega
  | k + 1, h => by
    unfold nsum
    by_cases q : k0 = k
    · subst q; omega
    · have := nsum_ge (m := m) (k0 := k0) (k := k) (by omega); omega
/-- what the queue holds -/
theorem lwS.qv (h : lwS n T W Lv C B) (hb : b < 2) : mNq B b = cNq C b ∧ cNq C b ≤ 8 ∧ ∀ k, k < cNq C b → ∃ q l, q < n ∧ l ≤ 9 ∧ mQ B b k = nI q ∧ C (12 + 10 * b) k = nI q ∧ C (14 + 10 * b) k = nI l ∧ B 75 q = nI l ∧ C (40 + q) 6 = nI k ∧ B 70 q = nI b := by
  have hI := h.I
  have h8 := h.n8
  have hb' : b < cNb C := by rw [h.2.1.2.2.1]; exact hb
  have hn := h.2.1.2.2.2
  have hl := (cI_lin hI hb').1
  obtain ⟨t, -, -, -, hT⟩ := h.R
  obtain ⟨e1, e2⟩ := (hT.2.2.1 b hb').2.2.2.1
  refine ⟨e1, hl.2.2.2.2.2.2.1, fun k hk => ?_⟩
  obtain ⟨a1, a2, ⟨l, b1, b2⟩, a4, a5⟩ := e2 k hk
  obtain ⟨q, q1, q2⟩ := hl.2.2.2.2.2.2.2.2.2.2.2 k hk
  have hq : tn (C (12 + 10 * b) k) = q := by rw [q2, tn_nI (by omega)]
  rw [hq] at a4 a5
  refine ⟨q, l, by omega, b1, by rw [a1, q2], q2, b2, ?_, a4, by rw [(hT.2.2.2.1 q q1).1.1]; exact a5⟩
  rw [← b2, ← a2]
  unfold mLf
  rw [a1, hq]
theorem lwS.lf (h : lwS n T W Lv C B) (hb : b < 2) {k : Nat} (hk : k < cNq C b) : mLf B b k = C (14 + 10 * b) k := by
  obtain ⟨q, l, q1, q2, q3, q4, q5, q6, q7, q8⟩ := (h.qv hb).2.2 k hk
  have h8 := h.n8
  unfold mLf
  rw [q3, tn_nI (by omega), q6, q5]
/-- where a proposal with shifts left stands -/
theorem lwS.place (h : lwS n T W Lv C B) (hj : j < n) (h0 : ¬ B 75 j = 0) : ∃ b k, b < 2 ∧ C (40 + j) 1 = nI b ∧ B 70 j = nI b ∧ k < cNq C b ∧ C (12 + 10 * b) k = nI j ∧ C (40 + j) 6 = nI k := by
  have hI := h.I
  have h8 := h.n8
  have hj' : j < cNp C := by rw [h.2.1.2.2.2]; exact hj
  obtain ⟨l1, l2, l3⟩ := ln_lt hI hj'
  obtain ⟨t, -, -, -, hT⟩ := h.R
  have hP := hT.2.2.2.1 j hj'
  rcases hP.2.2.2.2.2 with ⟨a1, a2, a3⟩ | ⟨k, a1, a2, a3⟩
  · exact absurd a2 h0
  · exact ⟨tn (C (40 + j) 1), k, l2, l3, by rw [hP.1.1]; exact l3, a2, a3, a1⟩
theorem lwS.left (h : lwS n T W Lv C B) (hj : j < n) : ∃ l : Nat, l ≤ 9 ∧ B 75 j = nI l := by
  by_cases h0 : B 75 j = 0
  · exact ⟨0, by omega, h0⟩
  · obtain ⟨b, k, h1, h2, h3, h4, h5, h6⟩ := h.place hj h0
    obtain ⟨q, l, q1, q2, q3, q4, q5, q6, q7, q8⟩ := (h.qv h1).2.2 k h4
    have h8 := h.n8
    have : q = j := (nI_eq (by omega) (by omega)).mp (q4.symm.trans h5)
    subst this
    exact ⟨l, q2, q6⟩
/-- when it begins -/
theorem v_next (h : lwS n T W Lv C B) (hj : j < n) (h0 : ¬ B 75 j = 0) {b k t : Nat} (ht : t ≤ 200) (h1 : b < 2) (h2 : C (40 + j) 1 = nI b) (h4 : k < cNq C b) (h6 : C (40 + j) 6 = nI k) (h7 : C 0 4 = nI t) : rr (kNext C (nI j)) (cNext C (tn (nI j))) = nI (t + nsum (fun i => tn (C (14 + 10 * b) i)) k) := by
  have e := e_nextAt h.R h.I (j := nI j)
  have h8 := h.n8
  have hk : kNext C (nI j) = 0 := by
    rw [e.1]
    unfold jNext
    rw [h.np, if_pos (ok_m hj (by omega)), tn_nI (by omega), if_pos h0]
  have hv := (h.qv h1).2
  refine rr_of hk ?_
  rw [tn_nI (by omega)]
  unfold cNext
  rw [h2, tn_nI (by omega), h6, h7]
  unfold kAhead
  rw [if_neg (nI_pos (by omega)), tn_nI (by omega), if_pos h4]
  have e2 := sumf_add (C (14 + 10 * b)) k 0 (nI t) 0
  rw [Int32.add_zero] at e2
  have e3 : sumf (fun i => C (14 + 10 * b) i) k 0 0 = sumf (C (14 + 10 * b)) k 0 0 := rfl
  rw [e3, ← e2]
  refine sumf_nat (fun i hi => ?_)
  obtain ⟨q, l, q1, q2, q3, q4, q5, q6, q7, q8⟩ := hv.2 i (by omega)
  rw [q5, tn_nI (by omega)]
theorem v_next0 (h : lwS n T W Lv C B) (hj : j < n) (h0 : B 75 j = 0) : rr (kNext C (nI j)) (cNext C (tn (nI j))) = -1002 := by
  have e := e_nextAt h.R h.I (j := nI j)
  have h8 := h.n8
  have hk : kNext C (nI j) = 2 := by
    rw [e.1]
    unfold jNext
    rw [h.np, if_pos (ok_m hj (by omega)), tn_nI (by omega), if_neg (fun q => q h0)]
  exact rr_no hk (by decide) (by decide)
theorem lwS.ns (h : lwS n T W Lv C B) (hb : b < 2) {k : Nat} (hk : k < cNq C b) : nsum (fun i => tn (C (14 + 10 * b) i)) k ≤ 72 := by
  have hv := (h.qv hb).2
  have h1 := nsum_le (m := fun i => tn (C (14 + 10 * b) i)) (M := 9) (k := k) (fun i hi => by
    obtain ⟨q, l, q1, q2, q3, q4, q5, q6, q7, q8⟩ := hv.2 i (by omega)
    show tn (C (14 + 10 * b) i) ≤ 9
    rw [q5, tn_nI (by omega)]; exact q2)
  omega
theorem nI_0iff {l : Nat} (hl : l < 2 ^ 31) : nI l = 0 ↔ l = 0 := nI_eq (a := l) (b := 0) hl (by decide)
/-- a proposal has shifts left just where it has a beginning -/
theorem lwS.nx (h : lwS n T W Lv C B) (hT : T ≤ 200) (hj : j < n) : ∃ l : Nat, l ≤ 9 ∧ B 75 j = nI l ∧ ((l = 0 ∧ rr (kNext C (nI j)) (cNext C (tn (nI j))) = -1002) ∨ (0 < l ∧ ∃ v, v ≤ 300 ∧ rr (kNext C (nI j)) (cNext C (tn (nI j))) = nI v)) := by
  obtain ⟨l, l1, l2⟩ := h.left hj
  refine ⟨l, l1, l2, ?_⟩
  by_cases h0 : B 75 j = 0
  · exact Or.inl ⟨(nI_0iff (by omega)).mp (l2.symm.trans h0), v_next0 h hj h0⟩
  · obtain ⟨b, k, h1, h2, h3, h4, h5, h6⟩ := h.place hj h0
    obtain ⟨t, t1, t2⟩ := h.2.2.2.2.2.2.2.2
    refine Or.inr ⟨?_, _, ?_, v_next h hj h0 (t := t) (by omega) h1 h2 h4 h6 (by rw [v_time h]; exact t2)⟩
    · rcases l with _ | l
      · exact absurd l2 h0
      · omega
    · have := h.ns h1 h4; omega
/-- who is on at a line -/
theorem lwS.cur (h : lwS n T W Lv C B) (hT : T ≤ 200) (hb : b < 2) : (kFst (mNq B b) (mLf B b) = none ∧ mOn B b = -1 ∧ mWhy B b = 113) ∨
    ∃ k0 j0 l0 t, kFst (mNq B b) (mLf B b) = some k0 ∧ tn (mQ B b k0) = j0 ∧ j0 < n ∧ mOn B b = nI j0 ∧ B 70 j0 = nI b ∧ 1 ≤ l0 ∧ l0 ≤ 9 ∧ B 75 j0 = nI l0 ∧ mWhy B b = mWhyJ B b j0 ∧ t ≤ T ∧ C 0 4 = nI t ∧ rr (kNext C (nI j0)) (cNext C (tn (nI j0))) = nI t ∧
      ∀ j, j < n → j ≠ j0 → B 70 j = nI b → ¬ B 75 j = 0 → ∃ v, t + l0 ≤ v ∧ v ≤ 300 ∧ rr (kNext C (nI j)) (cNext C (tn (nI j))) = nI v := by
  have h8 := h.n8
  obtain ⟨hv1, hv2, hv3⟩ := h.qv hb
  rcases e : kFst (mNq B b) (mLf B b) with _ | k0
  · exact Or.inl ⟨rfl, mOn_n e, mWhy_n e⟩
  have hk0 : k0 < cNq C b := by rw [← hv1]; exact kFst_lt e
  obtain ⟨j0, l0, q1, q2, q3, q4, q5, q6, q7, q8⟩ := hv3 k0 hk0
  have hp : 0 < mLf B b k0 := by
    have := (fsti_some e).2.2.1
    unfold kPos at this
    exact of_decide_eq_true this
  rw [h.lf hb hk0, q5] at hp
  have hl1 : 1 ≤ l0 := by
    rcases l0 with _ | l0
    · exact absurd hp (by decide)
    · omega
  have hz : ∀ i, i < k0 → tn (C (14 + 10 * b) i) = 0 := fun i hi => by
    have h1 := (fsti_some e).2.2.2 i (Nat.zero_le _) hi
    unfold kPos at h1
    have h2 := of_decide_eq_false h1
    rw [h.lf hb (by omega)] at h2
    obtain ⟨q, l, r1, r2, r3, r4, r5, r6, r7, r8⟩ := hv3 i (by omega)
    rw [r5] at h2 ⊢
    rw [tn_nI (by omega)]
    rcases l with _ | l
    · rfl
    · exact absurd (show 0 < nI (l + 1) from by rw [show (0 : Int32) = nI 0 from rfl, nI_lt_iff (by decide) (by omega)]; omega) h2
  have htq : tn (mQ B b k0) = j0 := by rw [q3, tn_nI (by omega)]
  have hne0 : ¬ B 75 j0 = 0 := fun q => by
    rw [q6] at q
    have := (nI_0iff (by omega)).mp q
    omega
  obtain ⟨t, t1, t2⟩ := h.2.2.2.2.2.2.2.2
  have ht : C 0 4 = nI t := by rw [v_time h]; exact t2
  have hln : C (40 + j0) 1 = nI b := by
    obtain ⟨b', k', h1, h2, h3, h4, h5, h6⟩ := h.place q1 hne0
    rw [h2, ← h3]; exact q8
  refine Or.inr ⟨k0, j0, l0, t, rfl, htq, q1, ?_, q8, hl1, q2, q6, (mWhy_s e).trans (by rw [htq]), t1, ht, ?_, fun j hj hne h70 h75 => ?_⟩
  · unfold mOn; rw [e]; exact q3
  · rw [v_next h q1 hne0 (t := t) (by omega) hb hln hk0 q7 ht, nsum_0 (fun i hi => hz i hi)]; rfl
  · obtain ⟨b', k, h1, h2, h3, h4, h5, h6⟩ := h.place hj h75
    have hbb : b' = b := (nI_eq (by omega) (by omega)).mp (h3.symm.trans h70)
    subst hbb
    have hlt : k0 < k := by
      rcases Nat.lt_trichotomy k0 k with q | q | q
      · exact q
      · subst q
        exact absurd ((nI_eq (by omega) (by omega)).mp (q4.symm.trans h5)).symm hne
      · obtain ⟨q', l, r1, r2, r3, r4, r5, r6, r7, r8⟩ := hv3 k h4
        have hz2 := hz k q
        rw [r5, tn_nI (by omega)] at hz2
        have : q' = j := (nI_eq (by omega) (by omega)).mp (r4.symm.trans h5)
        subst this
        rw [hz2] at r6
        exact absurd r6 h75
    refine ⟨_, ?_, ?_, v_next h hj h75 (t := t) (by omega) hb h2 h4 h6 ht⟩
    · have h9 := nsum_ge (m := fun i => tn (C (14 + 10 * b') i)) hlt
      have e9 : tn (C (14 + 10 * b') k0) = l0 := by rw [q5, tn_nI (by omega)]
      have h10 : tn (C (14 + 10 * b') k0) ≤ nsum (fun i => tn (C (14 + 10 * b') i)) k := h9
      rw [e9] at h10
      omega
    · have := h.ns hb h4; omega
end LW1
