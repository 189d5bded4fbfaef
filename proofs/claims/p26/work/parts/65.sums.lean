section SUMS
variable {Lv : Nat → Bool} {A B : ME} {T : Nat → Nat}
/-- the model's sum ahead of the place k0 -/
theorem nxF_eq {b k0 : Nat} {p : Int32} (hk0 : mQ B b k0 = p) (hne : ∀ k, k < k0 → ¬ mQ B b k = p) : ∀ {n k f : Nat} {x : Int32}, k + n = k0 → n < f → nxF B b p f k x = sumf (mLf B b) n k x
  | 0, k, f, x, h1, h2 => by
    obtain ⟨f, rfl⟩ : ∃ f9, f = f9 + 1 := ⟨f - 1, by omega⟩
    have : k = k0 := by omega
    subst this
    unfold nxF sumf
    rw [if_pos hk0]
  | n + 1, k, f, x, h1, h2 => by
    obtain ⟨f, rfl⟩ : ∃ f9, f = f9 + 1 := ⟨f - 1, by omega⟩
    unfold nxF sumf
    rw [if_neg (hne k (by omega))]
    exact nxF_eq hk0 hne (by omega) (by omega)
theorem e_nextAt (h : Rel A B) (hI : cI Lv A) {j : Int32} : kNext A j = jNext B j ∧ (kNext A j = 0 → cNext A (tn j) = mNext B j) ∧ (okm (mNp B) j → ¬ B 75 (tn j) = 0 → ∃ k, k < mNq B (tn (B 70 (tn j))) ∧ mQ B (tn (B 70 (tn j))) k = j) := by
  have hp := prp_k h (j := j)
  obtain ⟨t, t1, t2, t3, hT⟩ := h
  have main : okP A j → (cLeft A (tn j) = B 75 (tn j)) ∧ (¬ B 75 (tn j) = 0 → (∃ k, k < mNq B (tn (B 70 (tn j))) ∧ mQ B (tn (B 70 (tn j))) k = j) ∧ cNext A (tn j) = mNext B j) := by
    intro hok
    obtain ⟨hj1, hj⟩ := okP_ix hI hok
    have hle := left_eq hT hI hj
    refine ⟨hle, fun h0 => ?_⟩
    have hP := hT.2.2.2.1 _ hj
    obtain ⟨l1, l2, l3⟩ := ln_lt hI hj
    have hL := hT.2.2.1 _ l1
    have hq8 := (cI_lin hI l1).1.2.2.2.2.2.2.1
    have hn8 := hI.2.1
    have e70 : B 70 (tn j) = A (40 + tn j) 1 := hP.1.1
    rcases hP.2.2.2.2.2 with ⟨a1, a2, a3⟩ | ⟨k, a1, a2, a3⟩
    · exact absurd a2 h0
    · have hqk := hL.2.2.2.1
      have hmq : mNq B (tn (A (40 + tn j) 1)) = cNq A (tn (A (40 + tn j) 1)) := hqk.1
      have hk0 : mQ B (tn (A (40 + tn j) 1)) k = j := by rw [(hqk.2 k a2).1, a3, ← hj1]
      refine ⟨⟨k, by rw [e70, hmq]; exact a2, by rw [e70]; exact hk0⟩, ?_⟩
      unfold cNext mNext
      rw [e70, t2, t3, a1]
      have hne : ∀ i, i < k → ¬ mQ B (tn (A (40 + tn j) 1)) i = j := by
        intro i hi e
        obtain ⟨b1, -, -, b4, -⟩ := hqk.2 i (by omega)
        have : A (12 + 10 * tn (A (40 + tn j) 1)) i = nI (tn j) := by rw [← b1, e, ← hj1]
        rw [this, tn_nI (by omega), a1] at b4
        have := (nI_eq (by omega) (by omega)).mp b4
        omega
      rw [nxF_eq hk0 hne (n := k) (k := 0) (f := 8) (by omega) (by omega)]
      unfold kAhead
      rw [if_neg (nI_pos (by omega)), tn_nI (by omega), if_pos a2]
      rw [sumf_cong (f := mLf B (tn (A (40 + tn j) 1))) (h := A (14 + 10 * tn (A (40 + tn j) 1))) (fun i _ hi => (hqk.2 i (by omega)).2.1)]
      have e := sumf_add (A (14 + 10 * tn (A (40 + tn j) 1))) k 0 (nI t) 0
      rw [Int32.add_zero] at e
      exact e.symm
  unfold kNext jNext
  by_cases hok : okP A j
  · rw [if_pos hok, if_pos (hp.mp hok), (main hok).1]
    exact ⟨rfl, fun hk => ((main hok).2 (if0 hk (by decide)).1).2, fun _ h0 => ((main hok).2 h0).1⟩
  · rw [if_neg hok, if_neg (fun q => hok (hp.mpr q))]
    exact ⟨rfl, fun q => absurd q (by decide), fun q => absurd (hp.mpr q) hok⟩
theorem sumf_nI {f : Nat → Int32} {M : Nat} : ∀ {n i a : Nat}, (∀ k, i ≤ k → k < i + n → ∃ m : Nat, m ≤ M ∧ f k = nI m) → ∃ s : Nat, s ≤ a + M * n ∧ sumf f n i (nI a) = nI s
  | 0, _, a, _ => ⟨a, by omega, rfl⟩
  | n + 1, i, a, h => by
    obtain ⟨m, h1, h2⟩ := h i (Nat.le_refl _) (by omega)
    unfold sumf
    rw [h2, nI_add]
    obtain ⟨s, h3, h4⟩ := sumf_nI (M := M) (n := n) (i := i + 1) (a := a + m) (fun k h1 h2 => h k (by omega) (by omega))
    exact ⟨s, by rw [Nat.mul_add]; omega, h4⟩
theorem owed_eq (hT : RelT A B T) (u : Int32) : cOwed A u = mOwed B u := by
  unfold cOwed mOwed
  rw [← hT.1.2]
  refine sumf_cong (fun j _ hj => ?_)
  have hP := hT.2.2.2.1 j (by omega)
  unfold owJ ouJ
  rw [hP.1.2.1, hP.2.2.1.2.2.2]
theorem owed_nI (hT : RelT A B T) (hI : cI Lv A) {t : Nat} (hTt : ∀ b, T b = t) (ht : t ≤ 200) (u : Int32) : ∃ s : Nat, s ≤ 1600 ∧ cOwed A u = nI s := by
  have hn8 := hI.2.1
  obtain ⟨s, h1, h2⟩ := sumf_nI (f := owJ A u) (M := 200) (n := cNp A) (i := 0) (a := 0) (fun j _ hj => by
    obtain ⟨dn, ms, lo, ow, a1, a2, a3, a4, a5, a6⟩ := (hT.2.2.2.1 j (by omega)).2.2.2.1
    rw [hTt] at a6
    unfold owJ
    by_cases h0 : A (40 + j) 2 = u
    · rw [if_pos h0]; exact ⟨ow, by omega, a4⟩
    · rw [if_neg h0]; exact ⟨0, by omega, rfl⟩)
  exact ⟨s, by omega, h2⟩
theorem nI_lt_iff {a b : Nat} (ha : a < 2 ^ 31) (hb : b < 2 ^ 31) : (nI a < nI b) = (a < b) := propext (nI_ltI ha hb)
theorem most_eq {o : Nat → Nat} (ho : ∀ u, o u ≤ 1600) (hA : ∀ u, cOwed A (nI u) = nI (o u)) (hB : ∀ u, mOwed B (nI u) = nI (o u)) : ∀ {f i b : Nat}, b < 100 → i + f ≤ 100 → (moF A f i (nI (o b)) (if o b = 0 then -1 else nI b)).2 = if o (mmF B f i b) = 0 then -1 else nI (mmF B f i b)
  | 0, _, _, _, _ => rfl
  | f + 1, i, b, hb, hi => by
    unfold moF mmF
    have h1 := ho b
    have h2 := ho i
    rw [hA i, hB i, hB b]
    by_cases h : o b < o i
    · rw [if_pos (nI_lt h (by omega)), if_pos (nI_lt h (by omega))]
      have := most_eq (o := o) ho hA hB (f := f) (i := i + 1) (b := i) (by omega) (by omega)
      rw [if_neg (show ¬ o i = 0 by omega)] at this
      exact this
    · have hn : ¬ nI (o b) < nI (o i) := fun q => h ((nI_ltI (by omega) (by omega)).mp q)
      rw [if_neg hn, if_neg hn]
      exact most_eq (o := o) ho hA hB (f := f) (i := i + 1) (b := b) hb (by omega)
theorem mmF_lt : ∀ {f i b : Nat}, b < i → mmF B f i b < i + f
  | 0, _, _, h => h
  | f + 1, i, b, h => by
    unfold mmF
    have := mmF_lt (f := f) (i := i + 1) (b := if mOwed B (nI b) < mOwed B (nI i) then i else b) (by split <;> omega)
    omega
theorem e_mostOwed (h : Rel A B) (hI : cI Lv A) : kMost A = jMost B ∧ (kMost A = 0 → cMost A = nI (mBest B)) := by
  obtain ⟨t, t1, t2, t3, hT⟩ := h
  have ex := fun u : Nat => owed_nI hT hI (fun _ => rfl) t1 (nI u)
  obtain ⟨o, ho⟩ : ∃ o : Nat → Nat, ∀ u, o u ≤ 1600 ∧ cOwed A (nI u) = nI (o u) := ⟨fun u => (ex u).choose, fun u => (ex u).choose_spec⟩
  have hA := fun u => (ho u).2
  have hB := fun u => (owed_eq hT (nI u)).symm.trans (ho u).2
  have e : cMost A = if o (mBest B) = 0 then -1 else nI (mBest B) := by
    unfold cMost
    have step : moF A 10 0 0 (-1) = moF A 9 1 (nI (o 0)) (if o 0 = 0 then -1 else nI 0) := by
      show (if (0 : Int32) < cOwed A (nI 0) then moF A 9 1 (cOwed A (nI 0)) (nI 0) else moF A 9 1 0 (-1)) = _
      rw [hA 0]
      have hz := (ho 0).1
      by_cases h0 : o 0 = 0
      · rw [h0, if_neg (by decide), if_pos rfl]; rfl
      · rw [if_pos (show (0 : Int32) < nI (o 0) from nI_lt (a := 0) (by omega) (by omega)), if_neg h0]
    rw [step]
    exact most_eq (fun u => (ho u).1) hA hB (by decide) (by decide)
  have hb : mBest B < 10 := mmF_lt (by decide)
  unfold kMost jMost
  rw [hB, e]
  by_cases h0 : o (mBest B) = 0
  · rw [if_pos h0, if_pos (by decide), h0, if_pos (show nI 0 = 0 from rfl)]
    exact ⟨rfl, fun q => absurd q (by decide)⟩
  · rw [if_neg h0, if_neg (nI_pos (by omega)), if_neg (show ¬ nI (o (mBest B)) = 0 from fun q => h0 ((nI_eq (b := 0) (by have := (ho (mBest B)).1; omega) (by decide)).mp q))]
    exact ⟨rfl, fun _ => rfl⟩
theorem good_sum (hT : RelT A B T) : cDone A = mGood B ∧ cAllD A = mAllD B := by
  unfold cDone mGood cAllD mAllD
  rw [← hT.1.2]
  constructor
  · exact sumf_cong (fun j _ hj => (hT.2.2.2.1 j (by omega)).2.2.1.1.symm)
  · refine sumf_cong (fun j _ hj => ?_)
    obtain ⟨c1, c2, c3, -⟩ := (hT.2.2.2.1 j (by omega)).2.2.1
    rw [c1, c2, c3]
end SUMS
