section PASSE
variable {Lv : Nat → Bool} {A B : ME}
theorem pass_le {m t : Nat} (h1 : m ≤ 20) (h2 : t ≤ 200) : (nI m ≤ 200 - nI t) = (nI t + nI m ≤ 200) := by
  have e : ((200 : Int32) - nI t).toInt = (200 : Int) - t := by
    rw [Int32.toInt_sub, nI_toInt (by omega), show (200 : Int32).toInt = 200 from by decide]
    rw [Int.bmod_def]
    omega
  apply propext
  rw [nI_add, Int32.le_iff_toInt_le, Int32.le_iff_toInt_le, e, nI_toInt (by omega), nI_toInt (by omega), show (200 : Int32).toInt = 200 from by decide]
  omega
theorem e_pass (h : Rel A B) (hI : cI Lv A) (hM : mI B) (hC : rC A) {n : Int32} : kPass A n = jPass B n ∧ (kPass A n = 0 → (qPass A n).2 = (mqPass B n).2 ∧ Rel (qPass A n).1 (mqPass B n).1 ∧ rC (qPass A n).1 ∧ cI Lv (qPass A n).1 ∧ mI (mqPass B n).1) := by
  obtain ⟨t, t1, t2, t3, hT⟩ := id h
  unfold kPass jPass
  rw [t2, t3]
  by_cases hw : win n 1 20
  · obtain ⟨n1, n2⟩ := win_n (hi := 20) hw (by decide) (by decide)
    rw [if_pos hw, if_pos hw]
    have e := pass_le (m := tn n) (t := t) n2 t1
    rw [← n1] at e
    simp only [e, true_and]
    intro hk
    have h9 := (if0 hk (by decide)).1
    rw [n1, nI_add, show (200 : Int32) = nI 200 from rfl] at h9
    have h8 := le_nI h9 (by omega) (by omega)
    obtain ⟨s1, s2, s3, s4⟩ := pass_n (f := tn n) (x := 0) h hI hC (by omega : t + tn n ≤ 200) t2
    exact ⟨s2, s1, s3, s4.keep hI, mE_mpN.keep hM⟩
  · rw [if_neg hw, if_neg hw]
    exact ⟨rfl, fun q => absurd q (by decide)⟩
end PASSE
