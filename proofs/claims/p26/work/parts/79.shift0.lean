section SHIFT0
variable {A : ME} {b : Nat} {kd : Int32}
theorem cnt_row {r : Nat} (h1 : r ≠ 10 + 10 * b) (h2 : r < 40) : oCnt A b kd r = A r := by
  unfold oCnt
  rcases cCur A b with _ | j
  · rfl
  · dsimp only
    have e : oCount A j kd r = A r := va_up_ne _ _ (by omega)
    split
    · rw [up2_row h1]; exact e
    · exact e
theorem cnt_10 (hb : b < 2) {k : Nat} (hk : k ≠ 8) : oCnt A b kd (10 + 10 * b) k = A (10 + 10 * b) k := by
  unfold oCnt
  rcases cCur A b with _ | j
  · rfl
  · dsimp only
    have e : oCount A j kd (10 + 10 * b) = A (10 + 10 * b) := va_up_ne _ _ (by omega)
    split
    · rw [up2_ne (by omega), e]
    · rw [e]
theorem cnt_u (hb : b < 2) : oCnt A b kd (10 + 10 * b) 8 = match cCur A b with
    | none => A (10 + 10 * b) 8
    | some j => if kd = 100 then A (10 + 10 * b) 8 + A (40 + j) 5 else A (10 + 10 * b) 8 := by
  unfold oCnt
  rcases cCur A b with _ | j
  · rfl
  · dsimp only
    have e : oCount A j kd (10 + 10 * b) = A (10 + 10 * b) := va_up_ne _ _ (by omega)
    have e2 : oCount A j kd (40 + j) 5 = A (40 + j) 5 := by
      unfold oCount
      rw [va_up_self, va_up_ne _ _ (by decide), va_up_ne _ _ (by decide), va_up_ne _ _ (by decide)]
    by_cases hk : kd = 100
    · rw [if_pos hk, if_pos hk, up2_eq, e, e2]
    · rw [if_neg hk, if_neg hk, e]
theorem cnt_p {j' k : Nat} (hb : b < 2) (hk : k < 9 ∨ 11 < k) : oCnt A b kd (40 + j') k = A (40 + j') k := by
  unfold oCnt
  rcases cCur A b with _ | j
  · rfl
  · dsimp only
    have e : oCount A j kd (40 + j') k = A (40 + j') k := by
      unfold oCount
      by_cases hj : j' = j
      · subst hj
        rw [va_up_self, va_up_ne _ _ (by omega), va_up_ne _ _ (by omega), va_up_ne _ _ (by omega)]
      · rw [va_up_ne _ _ (by omega)]
    split
    · rw [up2_ne (by omega)]; exact e
    · exact e
theorem cnt_c {j' k : Nat} {c : Int32} (hb : b < 2) (hk : (k = 9 ∧ c = 100) ∨ (k = 10 ∧ c = 109) ∨ (k = 11 ∧ c = 108)) : oCnt A b kd (40 + j') k = A (40 + j') k + (if cCur A b = some j' ∧ kd = c then 1 else 0) := by
  unfold oCnt
  rcases cCur A b with _ | j
  · rw [if_neg (fun e => by cases e.1)]
    exact (Int32.add_zero _).symm
  · dsimp only
    have e : oCount A j kd (40 + j') k = A (40 + j') k + (if some j = some j' ∧ kd = c then 1 else 0) := by
      unfold oCount
      by_cases hj : j' = j
      · subst hj
        rw [va_up_self]
        rcases hk with ⟨rfl, rfl⟩ | ⟨rfl, rfl⟩ | ⟨rfl, rfl⟩
        · rw [va_up_ne _ _ (by decide), va_up_ne _ _ (by decide), va_up_self]
          by_cases h : kd = 100
          · rw [if_pos h, if_pos ⟨rfl, h⟩]
          · rw [if_neg h, if_neg (fun q => h q.2), Int32.add_zero]
        · rw [va_up_ne _ _ (by decide), va_up_self]
          by_cases h : kd = 109
          · rw [if_pos h, if_pos ⟨rfl, h⟩]
          · rw [if_neg h, if_neg (fun q => h q.2), Int32.add_zero]
        · rw [va_up_self]
          by_cases h : kd = 108
          · rw [if_pos h, if_pos ⟨rfl, h⟩]
          · rw [if_neg h, if_neg (fun q => h q.2), Int32.add_zero]
      · rw [va_up_ne _ _ (by omega), if_neg (fun q => hj (Option.some.inj q.1).symm), Int32.add_zero]
    split
    · rw [up2_ne (by omega)]; exact e
    · exact e
theorem owe_row {C : ME} {q : Int32} {r : Nat} (h : r < 40) : oOwe C b q r = C r := by
  unfold oOwe
  rcases cAt C b q with _ | j
  · rfl
  · exact up2_row (by omega)
theorem owe_p {C : ME} {q : Int32} {j' k : Nat} : oOwe C b q (40 + j') k = C (40 + j') k + (if k = 12 ∧ cAt C b q = some j' then 1 else 0) := by
  unfold oOwe
  rcases cAt C b q with _ | j
  · rw [if_neg (fun e => by cases e.2)]
    exact (Int32.add_zero _).symm
  · dsimp only
    rw [up2_at]
    by_cases e : 40 + j' = 40 + j ∧ k = 12
    · obtain ⟨e1, rfl⟩ := e
      have : j' = j := by omega
      subst this
      rw [if_pos ⟨rfl, rfl⟩, if_pos ⟨rfl, rfl⟩]
    · rw [if_neg e, if_neg (fun q => e ⟨by have := Option.some.inj q.2; omega, q.1⟩), Int32.add_zero]
theorem take_row {r : Nat} (h1 : r ≠ 13 + 10 * b) (h2 : r ≠ 14 + 10 * b) : oTake A b kd r = oCnt A b kd r := by
  unfold oTake oFol oCal
  rw [va_up_ne _ _ h1, va_up_ne _ _ (by omega)]
theorem fol_cnt (hb : b < 2) : cFol (oCnt A b kd) b kd = cFol A b kd := by
  unfold cFol cNq
  rw [cnt_row (by omega) (by omega), cnt_row (by omega) (by omega), cnt_row (by omega) (by omega)]
theorem at_take (hb : b < 2) {q : Int32} : cAt (oTake A b kd) b q = cAt A b q := by
  unfold cAt cNq
  rw [take_row (by omega) (by omega), take_row (by omega) (by omega), cnt_row (by omega) (by omega), cnt_row (by omega) (by omega)]
theorem lost_row (hb : b < 2) {r : Nat} (h1 : r ≠ 10 + 10 * b) (h2 : r ≠ 13 + 10 * b) (h3 : r ≠ 14 + 10 * b) (h4 : r < 40) : oLost A b kd r = A r := by
  unfold oLost
  rw [owe_row h4, take_row h2 h3, cnt_row h1 h4]
theorem lost_10 (hb : b < 2) {k : Nat} (hk : k ≠ 8) : oLost A b kd (10 + 10 * b) k = A (10 + 10 * b) k := by
  unfold oLost
  rw [owe_row (by omega), take_row (by omega) (by omega), cnt_10 hb hk]
theorem lost_u (hb : b < 2) : oLost A b kd (10 + 10 * b) 8 = match cCur A b with
    | none => A (10 + 10 * b) 8
    | some j => if kd = 100 then A (10 + 10 * b) 8 + A (40 + j) 5 else A (10 + 10 * b) 8 := by
  unfold oLost
  rw [owe_row (by omega), take_row (by omega) (by omega), cnt_u hb]
theorem lost_13 (hb : b < 2) : oLost A b kd (13 + 10 * b) 2 = (cFol A b kd).2.1 := by
  unfold oLost
  rw [owe_row (by omega)]
  unfold oTake oFol oCal
  rw [va_up_self, va_up_self, fol_cnt hb]
theorem lost_14 (hb : b < 2) : oLost A b kd (14 + 10 * b) = (cFol A b kd).1 := by
  unfold oLost
  rw [owe_row (by omega)]
  unfold oTake oFol oCal
  rw [va_up_ne _ _ (by omega), show 13 + 10 * b + 1 = 14 + 10 * b by omega, va_up_self, fol_cnt hb]
theorem lost_p (hb : b < 2) {j' k : Nat} (hk : k < 9 ∨ 12 < k) : oLost A b kd (40 + j') k = A (40 + j') k := by
  unfold oLost
  rw [owe_p, if_neg (by omega), Int32.add_zero, take_row (by omega) (by omega), cnt_p hb (by omega)]
theorem lost_c (hb : b < 2) {j' k : Nat} {c : Int32} (hk : (k = 9 ∧ c = 100) ∨ (k = 10 ∧ c = 109) ∨ (k = 11 ∧ c = 108)) {p : Prop} [Decidable p] (hp : (cCur A b = some j' ∧ kd = c) ↔ p) : oLost A b kd (40 + j') k = A (40 + j') k + (if p then 1 else 0) := by
  unfold oLost
  rw [owe_p, if_neg (by omega), Int32.add_zero, take_row (by omega) (by omega), cnt_c hb hk]
  simp only [hp]
theorem lost_o (hb : b < 2) {j' : Nat} {p : Prop} [Decidable p] (hp : cAt A b (cFol A b kd).2.2 = some j' ↔ p) : oLost A b kd (40 + j') 12 = A (40 + j') 12 + (if p then 1 else 0) := by
  unfold oLost
  rw [owe_p, take_row (by omega) (by omega), cnt_p hb (by omega), at_take hb, fol_cnt hb]
  simp only [hp, true_and]
/-! behind the calendar: the note, the disk, the fault -/
theorem end_row (hb : b < 2) {C : ME} {r : Nat} (h1 : r ≠ 10 + 10 * b) (h2 : r ≠ 17 + 10 * b) : oFix (oDrain (oNote C b kd) b) b r = C r := by
  unfold oFix oDrain
  rw [up2_row h1, up2_row h1]
  unfold oNote
  split
  · rfl
  · rw [up2_row h1, up2_row h2]
theorem note_10 (hb : b < 2) {C : ME} {k : Nat} (h : k ≠ 6) : oNote C b kd (10 + 10 * b) k = C (10 + 10 * b) k := by
  unfold oNote
  split
  · rfl
  · rw [up2_ne (by omega), up2_ne (by omega)]
theorem end_k (hb : b < 2) {C : ME} {k : Nat} (h : k ≠ 6 ∧ k ≠ 8 ∧ k ≠ 10) : oFix (oDrain (oNote C b kd) b) b (10 + 10 * b) k = C (10 + 10 * b) k := by
  unfold oFix oDrain
  rw [up2_ne (by omega), up2_ne (by omega), note_10 hb h.1]
theorem end_10 {C : ME} : oFix (oDrain (oNote C b kd) b) b (10 + 10 * b) 10 = 0 := by
  unfold oFix
  rw [up2_eq]
theorem end_8 (hb : b < 2) {C : ME} : oFix (oDrain (oNote C b kd) b) b (10 + 10 * b) 8 = if 0 < C (10 + 10 * b) 8 - C (10 + 10 * b) 7 then C (10 + 10 * b) 8 - C (10 + 10 * b) 7 else 0 := by
  unfold oFix oDrain
  rw [up2_ne (by omega), up2_eq, note_10 hb (by decide), note_10 hb (by decide)]
theorem end_6 (hb : b < 2) {C : ME} {ps : Nat} (hps : C (10 + 10 * b) 6 = nI ps) (h2 : ps < 200) : oFix (oDrain (oNote C b kd) b) b (10 + 10 * b) 6 = (if C (10 + 10 * b) 9 = 0 then nI ps else nI (ps + 1)) ∧ oFix (oDrain (oNote C b kd) b) b (17 + 10 * b) = (if C (10 + 10 * b) 9 = 0 then C (17 + 10 * b) else va_up (C (17 + 10 * b)) ps kd) := by
  unfold oFix oDrain
  rw [up2_ne (by omega), up2_ne (by omega), up2_row (by omega), up2_row (by omega)]
  unfold oNote
  rw [hps, tn_nI (by omega)]
  by_cases hm : C (10 + 10 * b) 9 = 0
  · rw [if_pos (Or.inl hm), if_pos hm, if_pos hm]
    exact ⟨hps, rfl⟩
  · rw [if_neg (fun e => e.elim hm (fun e => by have := le_nI e (by omega) (by omega); omega)), if_neg hm, if_neg hm, up2_eq, up2_row (by omega)]
    exact ⟨rfl, va_up_self _ _ _⟩
theorem drain_eq {us rt : Nat} (h1 : us ≤ 2000) (h2 : rt ≤ 99) : (if 0 < nI us - nI rt then nI us - nI rt else 0) = nI (us - rt) ∧ (if nI rt < nI us then nI us - nI rt else 0) = nI (us - rt) := by
  have e : (nI us - nI rt).toInt = (us : Int) - rt := by
    rw [Int32.toInt_sub, nI_toInt (by omega), nI_toInt (by omega)]
    rw [Int.bmod_def]
    omega
  by_cases h : rt < us
  · have e2 : nI us - nI rt = nI (us - rt) := by
      apply Int32.toInt_inj.mp
      rw [e, nI_toInt (by omega)]
      omega
    have e3 : (0 : Int32) < nI us - nI rt := by
      rw [Int32.lt_iff_toInt_lt, e]
      show (0 : Int) < _
      omega
    rw [if_pos e3, if_pos (by rw [nI_lt_iff (by omega) (by omega)]; exact h), e2]
    exact ⟨rfl, rfl⟩
  · have e3 : ¬ (0 : Int32) < nI us - nI rt := by
      rw [Int32.lt_iff_toInt_lt, e]
      show ¬ (0 : Int) < _
      omega
    rw [if_neg e3, if_neg (by rw [nI_lt_iff (by omega) (by omega)]; exact h), show us - rt = 0 by omega]
    exact ⟨rfl, rfl⟩
end SHIFT0
