section PUT
variable {Lv : Nat → Bool} {A B : ME}
theorem three_eq {n : Nat} (h : n ≤ 3) : ((3 : Int32) ≤ nI n) = (nI n = 3) := by
  rcases (show n = 0 ∨ n = 1 ∨ n = 2 ∨ n = 3 by omega) with rfl | rfl | rfl | rfl <;> decide
theorem e_put (h : Rel A B) (hI : cI Lv A) (hC : rC A) {j x : Int32} : kPut A j x = jPut B j x ∧ (kPut A j x = 0 → A (40 + tn j) 8 = B 81 (tn j) ∧ Rel (up2 A (40 + tn j) 8 x) (up2 B 81 (tn j) x) ∧ rC (up2 A (40 + tn j) 8 x)) := by
  have hp := prp_k h (j := j)
  obtain ⟨t, t1, t2, t3, hT⟩ := h
  have hcB : mCold B = cCold A := coldB hT
  have hcA := cold_eq A
  unfold kPut jPut
  by_cases hok : okP A j
  · rw [if_pos hok, if_pos (hp.mp hok)]
    have hj := (okP_ix hI hok).2
    generalize tn j = i at hj
    have hP := hT.2.2.2.1 i hj
    have hn8 := hI.2.1
    have h5 := hP.2.2.2.2.1
    by_cases hx : x = 114 ∨ x = 99 ∨ x = 98
    · rw [if_pos hx, if_pos hx]
      rcases h5 with ⟨a1, a2, a3⟩ | ⟨a1, a2, ⟨l, a3, a4⟩, a5⟩
      · rw [if_neg (fun q => q a1), if_neg (fun q => q a3)]
        exact ⟨rfl, fun q => absurd q (by decide)⟩
      · have h7 : ¬ A (40 + i) 7 = -1 := by rw [a4]; exact nI_ne1 (by omega)
        have h81 : ¬ B 81 i = 110 := fun q => by rw [a2] at q; rcases a5 with a5 | a5 | a5 <;> rw [a5] at q <;> exact absurd q (by decide)
        rw [if_pos h7, if_pos h81]
        have ec : (x = 99 ∧ ¬ (¬ A (40 + i) 7 = -1 ∧ A (40 + i) 8 = 99) ∧ 3 ≤ cCold A) = (x = 99 ∧ ¬ B 81 i = 99 ∧ mCold B = 3) := by
          rw [hcB, hcA, three_eq hC, a2]
          apply propext
          exact ⟨fun q => ⟨q.1, fun e => q.2.1 ⟨h7, e⟩, q.2.2⟩, fun q => ⟨q.1, fun e => q.2.1 e.2, q.2.2⟩⟩
        simp only [ec]
        refine ⟨trivial, fun hk => ?_⟩
        have hno : ¬ (x = 99 ∧ ¬ (¬ A (40 + i) 7 = -1 ∧ A (40 + i) 8 = 99) ∧ 3 ≤ cCold A) := by
          rw [ec]
          intro q
          rw [if_pos q] at hk
          exact absurd hk (by decide)
        have hE : cE A (up2 A (40 + i) 8 x) := cE.put (by unfold cT; omega)
        refine ⟨a2.symm, ⟨t, t1, by rw [up2_ne (by omega)]; exact t2, by rw [up2_ne (by omega)]; exact t3, hT.prop hI hj hE (fun r k h1 h2 => up2_ne (by omega)) (fun r k h1 h2 h3 => up2_ne (by omega)) (fun k h1 h2 => up2_ne (by omega)) ?_⟩, ?_⟩
        · refine hP.smp (by omega) hE.nb hI.1 (ln_lt hI hj).2.1 (fun b hb => hE.qrow hb) (fun k h7 h8 => up2_ne (by omega)) (fun r h1 h2 => up2_ne (by omega)) ?_
          unfold rP5
          rw [up2_eq, up2_eq, up2_ne (by omega), up2_ne (by omega)]
          exact Or.inr ⟨a1, rfl, ⟨l, a3, a4⟩, hx⟩
        · unfold rC cldN at *
          rw [hE.np]
          have hone := (ctb_one (pr := fun j => decide (isC A j = 1)) (pr' := fun j => decide (isC (up2 A (40 + i) 8 x) j = 1)) (j := i) (fun q hq => by
            unfold isC
            rw [up2_ne (by omega), up2_ne (by omega)]) (cNp A)).1
          by_cases h99 : x = 99
          · by_cases hin : A (40 + i) 8 = 99
            · refine Nat.le_trans (ctb_mono (fun q hq => ?_) _) hC
              have hq1 := of_decide_eq_true hq
              refine decide_eq_true ?_
              by_cases hqi : q = i
              · subst hqi
                unfold isC
                rw [if_pos ⟨h7, hin⟩]
              · unfold isC at *
                rw [up2_ne (by omega), up2_ne (by omega)] at hq1
                exact hq1
            · have h3 : ¬ 3 ≤ cCold A := fun q => hno ⟨h99, fun e => hin e.2, q⟩
              have : ¬ ctb (fun j => decide (isC A j = 1)) (cNp A) = 3 := fun q => h3 (by rw [hcA, q]; decide)
              omega
          · refine Nat.le_trans (ctb_mono (fun q hq => ?_) _) hC
            have hq1 := of_decide_eq_true hq
            refine decide_eq_true ?_
            by_cases hqi : q = i
            · subst hqi
              unfold isC at hq1
              rw [up2_eq, if_neg (fun e => h99 e.2)] at hq1
              exact absurd hq1 (by decide)
            · unfold isC at *
              rw [up2_ne (by omega), up2_ne (by omega)] at hq1
              exact hq1
    · rw [if_neg hx, if_neg hx]
      exact ⟨rfl, fun q => absurd q (by decide)⟩
  · rw [if_neg hok, if_neg (fun q => hok (hp.mpr q))]
    exact ⟨rfl, fun q => absurd q (by decide)⟩
end PUT
