section SHR
variable {Lv : Nat → Bool} {A B : ME}
theorem e_doneShare (h : Rel A B) : kShare A = jShare B ∧ cShare A = mShare B ∧ cAllD A = mAllD B := by
  obtain ⟨t, t1, t2, t3, hT⟩ := h
  obtain ⟨e1, e2⟩ := good_sum hT
  unfold kShare jShare cShare mShare
  rw [e1, e2]
  exact ⟨rfl, rfl, rfl⟩
theorem e_meanScore (h : Rel A B) (hI : cI Lv A) (hM : mI B) : kMean A = jMean B ∧ cMean A = mMean B ∧ (mMs B).2 = cNum A := by
  obtain ⟨t, t1, t2, t3, hT⟩ := h
  have e := mean_sum hT hI hM
  unfold kMean jMean cMean mMean
  rw [e]
  exact ⟨rfl, rfl, rfl⟩
/-- the sums are small: for the quotients -/
theorem share_small (h : Rel A B) (hI : cI Lv A) : ∃ a b : Nat, a < 1601 ∧ b < 1601 ∧ cDone A = nI a ∧ cAllD A = nI b := by
  obtain ⟨t, t1, t2, t3, hT⟩ := h
  have hn8 := hI.2.1
  obtain ⟨a, a1, a2⟩ := sumf_nI (f := fun j => A (40 + j) 9) (M := 200) (n := cNp A) (i := 0) (a := 0) (fun j _ hj => by
    obtain ⟨dn, ms, lo, ow, b1, b2, b3, b4, b5, b6⟩ := (hT.2.2.2.1 j (by omega)).2.2.2.1
    dsimp only at b5 b6
    exact ⟨dn, by omega, b1⟩)
  obtain ⟨b, b1, b2⟩ := sumf_nI (f := fun j => A (40 + j) 9 + A (40 + j) 10 + A (40 + j) 11) (M := 200) (n := cNp A) (i := 0) (a := 0) (fun j _ hj => by
    obtain ⟨dn, ms, lo, ow, b1, b2, b3, b4, b5, b6⟩ := (hT.2.2.2.1 j (by omega)).2.2.2.1
    dsimp only at b5 b6
    exact ⟨dn + ms + lo, by omega, by rw [b1, b2, b3, nI_add, nI_add]⟩)
  exact ⟨a, b, by omega, by omega, a2, b2⟩
theorem mean_small (h : Rel A B) (hI : cI Lv A) : ∃ a b : Nat, a < 801 ∧ b < 801 ∧ cSum A = nI a ∧ cNum A = nI b := by
  obtain ⟨t, t1, t2, t3, hT⟩ := h
  have hn8 := hI.2.1
  obtain ⟨a, a1, a2⟩ := sumf_nI (f := fun j => if A (40 + j) 6 = -1 then 0 else A (40 + j) 3) (M := 100) (n := cNp A) (i := 0) (a := 0) (fun j _ hj => by
    obtain ⟨us, sc, w, d, b1, b2, b3, b4, -⟩ := (hT.2.2.2.1 j (by omega)).2.1
    by_cases h6 : A (40 + j) 6 = -1
    · exact ⟨0, by omega, by rw [if_pos h6]; rfl⟩
    · exact ⟨sc, b4, by rw [if_neg h6]; exact b3⟩)
  obtain ⟨b, b1, b2⟩ := sumf_nI (f := fun j => if A (40 + j) 6 = -1 then 0 else 1) (M := 1) (n := cNp A) (i := 0) (a := 0) (fun j _ hj => by
    by_cases h6 : A (40 + j) 6 = -1
    · exact ⟨0, by omega, by rw [if_pos h6]; rfl⟩
    · exact ⟨1, by omega, by rw [if_neg h6]; rfl⟩)
  exact ⟨a, b, by omega, by omega, a2, b2⟩
end SHR
