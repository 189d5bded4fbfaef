theorem rPj.cong {A A' B B' : ME} {T : Nat → Nat} {j : Nat} (hj8 : j < 8) (hnb : cNb A' = cNb A) (hb2 : cNb A ≤ 2) (hln : tn (A (40 + j) 1) < 2) (hq : ∀ b, b < 2 → cNq A' b = cNq A b ∧ A' (12 + 10 * b) = A (12 + 10 * b)) (hA : A' (40 + j) = A (40 + j)) (hB : ∀ r, 70 ≤ r → r < 82 → B' r j = B r j) (h : rPj A B T j) : rPj A' B' T j := by
  obtain ⟨p1, p2, p3, p4, p5, p6⟩ := h
  refine ⟨?_, ?_, ?_, ?_, ?_, ?_⟩
  · unfold rP1 at *; rw [hA, hB 70 (by decide) (by decide), hB 71 (by decide) (by decide), hB 72 (by decide) (by decide), hB 73 (by decide) (by decide), hB 74 (by decide) (by decide)]; exact p1
  · unfold rP2 at *; rw [hA]; exact p2
  · unfold rP3 at *; rw [hA, hB 76 (by decide) (by decide), hB 77 (by decide) (by decide), hB 78 (by decide) (by decide), hB 79 (by decide) (by decide)]; exact p3
  · unfold rP4 at *; rw [hA]; exact p4
  · unfold rP5 at *; rw [hA, hB 80 (by decide) (by decide), hB 81 (by decide) (by decide)]; exact p5
  · unfold rP6 at *
    rw [hA, hnb, hB 75 (by decide) (by decide), (hq _ hln).1, (hq _ hln).2]
    rcases p6 with ⟨a1, a2, a3⟩ | p6
    · exact Or.inl ⟨a1, a2, fun b k hb hk => by rw [(hq b (by omega)).2]; exact a3 b k hb (by rw [← (hq b (by omega)).1]; exact hk)⟩
    · exact Or.inr p6
theorem rZ.cong {B B' : ME} (hB : ∀ r k, 61 ≤ r → r < 82 → ¬ (r < 70 ∧ r ≠ 67 ∧ k < mNb B) → ¬ (70 ≤ r ∧ r < 82 ∧ k < mNp B) → B' r k = B r k) (h1 : B' 60 1 = B 60 1) (h2 : B' 60 2 = B 60 2) (h : rZ B) : rZ B' := by
  have e1 : mNb B' = mNb B := by unfold mNb; rw [h1]
  have e2 : mNp B' = mNp B := by unfold mNp; rw [h2]
  refine ⟨fun b hb hb2 => ?_, fun j hj hj8 => ?_⟩
  · rw [e1] at hb
    have := h.1 b hb hb2
    rw [hB 63 b (by decide) (by decide) (by omega) (by omega), hB 64 b (by decide) (by decide) (by omega) (by omega), hB 68 b (by decide) (by decide) (by omega) (by omega), hB 69 b (by decide) (by decide) (by omega) (by omega), hB 66 b (by decide) (by decide) (by omega) (by omega)]
    exact this
  · rw [e2] at hj
    have := h.2 j hj hj8
    rw [hB 75 j (by decide) (by decide) (by omega) (by omega), hB 76 j (by decide) (by decide) (by omega) (by omega), hB 77 j (by decide) (by decide) (by omega) (by omega), hB 78 j (by decide) (by decide) (by omega) (by omega), hB 79 j (by decide) (by decide) (by omega) (by omega), hB 81 j (by decide) (by decide) (by omega) (by omega)]
    exact this
theorem rU.cong {A A' B B' : ME} (h5 : A' 5 = A 5) (h6 : A' 6 = A 6) (h82 : ∀ k, k < 10 → B' 82 k = B 82 k) (h83 : ∀ k, k < 10 → B' 83 k = B 83 k) (h4 : B' 60 4 = B 60 4) (h : rU A B) : rU A' B' := by
  unfold rU at *
  rw [h5, h6, h4]
  exact ⟨fun i hi => by rw [h82 i hi, h83 i hi]; exact h.1 i hi, h.2⟩
theorem rN.cong {A A' B B' : ME} (h1 : cNb A' = cNb A) (h2 : cNp A' = cNp A) (h3 : B' 60 1 = B 60 1) (h4 : B' 60 2 = B 60 2) (h : rN A B) : rN A' B' := by
  unfold rN mNb mNp at *
  rw [h1, h2, h3, h4]
  exact h
theorem cE.qrow {A A' : ME} (h : cE A A') {b : Nat} (hb : b < 2) : cNq A' b = cNq A b ∧ A' (12 + 10 * b) = A (12 + 10 * b) := ⟨h.nq hb, funext fun k => h.q hb k⟩
theorem ln_lt {Lv : Nat → Bool} {A : ME} (hI : cI Lv A) {j : Nat} (hj : j < cNp A) : tn (A (40 + j) 1) < cNb A ∧ tn (A (40 + j) 1) < 2 ∧ A (40 + j) 1 = nI (tn (A (40 + j) 1)) := by
  obtain ⟨⟨-, -, ln, h1, h2⟩, -⟩ := cI_prp hI hj
  have := hI.1
  rw [h2, tn_nI (by omega)]
  exact ⟨h1, by omega, rfl⟩
/-- what changes at one line alone -/
theorem RelT.line {Lv : Nat → Bool} {A A' B B' : ME} {T : Nat → Nat} {b : Nat} (h : RelT A B T) (hI : cI Lv A) (hb : b < cNb A) (hE : cE A A') (hA : ∀ r k, r < 60 → ¬ (10 + 10 * b ≤ r ∧ r < 18 + 10 * b) → A' r k = A r k) (hB : ∀ r k, 61 ≤ r → r < 84 → ¬ (r < 70 ∧ r ≠ 67 ∧ k = b) → B' r k = B r k) (hB0 : ∀ k, 1 ≤ k → k ≤ 4 → B' 60 k = B 60 k) (hn : rLn A' B' T b) : RelT A' B' T := by
  obtain ⟨r1, r2, r3, r4, r5⟩ := h
  have h12 := hI.1
  have hn8 := hI.2.1
  have hb2 : b < 2 := by omega
  refine ⟨r1.cong hE.nb hE.np (hB0 1 (by decide) (by decide)) (hB0 2 (by decide) (by decide)), r2.cong (funext fun k => hA 5 k (by decide) (by omega)) (funext fun k => hA 6 k (by decide) (by omega)) (fun k _ => hB 82 k (by decide) (by decide) (by omega)) (fun k _ => hB 83 k (by decide) (by decide) (by omega)) (hB0 4 (by decide) (by decide)), fun b' hb' => ?_, fun j hj => ?_, r5.cong (fun r k h1 h2 h3 _ => hB r k h1 (by omega) (fun q => h3 ⟨q.1, q.2.1, by rw [q.2.2, ← r1.1]; exact hb⟩)) (hB0 1 (by decide) (by decide)) (hB0 2 (by decide) (by decide))⟩
  · rw [hE.nb] at hb'
    by_cases hbb : b' = b
    · subst hbb; exact hn
    · refine (r3 b' hb').cong hI hb' ⟨fun r k h1 h2 _ _ => hA r k (by omega) (by omega), fun j hj => ⟨hA _ _ (by omega) (by omega), hA _ _ (by omega) (by omega), hA _ _ (by omega) (by omega)⟩⟩ ⟨fun r h1 h2 => hB r b' h1 (by omega) (by omega), hB 68 b' (by decide) (by decide) (by omega), hB 69 b' (by decide) (by decide) (by omega), fun k => hB 67 k (by decide) (by decide) (by omega), fun k => hB 75 k (by decide) (by decide) (by omega)⟩
  · rw [hE.np] at hj
    exact (r4 j hj).cong (by omega) hE.nb h12 (ln_lt hI hj).2.1 (fun b hb => hE.qrow hb) (funext fun k => hA _ k (by omega) (by omega)) (fun r h1 h2 => hB r j (by omega) (by omega) (by omega))
/-- what changes at one proposal alone -/
theorem RelT.prop {Lv : Nat → Bool} {A A' B B' : ME} {T : Nat → Nat} {j : Nat} (h : RelT A B T) (hI : cI Lv A) (hj : j < cNp A) (hE : cE A A') (hA : ∀ r k, r < 60 → ¬ (r = 40 + j ∧ ¬ (k = 1 ∨ k = 4 ∨ k = 6)) → A' r k = A r k) (hB : ∀ r k, 61 ≤ r → r < 84 → ¬ (70 ≤ r ∧ r < 82 ∧ r ≠ 75 ∧ k = j) → B' r k = B r k) (hB0 : ∀ k, 1 ≤ k → k ≤ 4 → B' 60 k = B 60 k) (hn : rPj A' B' T j) : RelT A' B' T := by
  obtain ⟨r1, r2, r3, r4, r5⟩ := h
  have h12 := hI.1
  have hn8 := hI.2.1
  refine ⟨r1.cong hE.nb hE.np (hB0 1 (by decide) (by decide)) (hB0 2 (by decide) (by decide)), r2.cong (funext fun k => hA 5 k (by decide) (by omega)) (funext fun k => hA 6 k (by decide) (by omega)) (fun k _ => hB 82 k (by decide) (by decide) (by omega)) (fun k _ => hB 83 k (by decide) (by decide) (by omega)) (hB0 4 (by decide) (by decide)), fun b' hb' => ?_, fun j' hj' => ?_, r5.cong (fun r k h1 h2 _ h3 => hB r k h1 (by omega) (fun q => h3 ⟨q.1, q.2.1, by rw [q.2.2.2, ← r1.2]; exact hj⟩)) (hB0 1 (by decide) (by decide)) (hB0 2 (by decide) (by decide))⟩
  · rw [hE.nb] at hb'
    refine (r3 b' hb').cong hI hb' ⟨fun r k h1 h2 _ _ => hA r k (by omega) (by omega), fun j hj => ⟨hA _ _ (by omega) (by omega), hA _ _ (by omega) (by omega), hA _ _ (by omega) (by omega)⟩⟩ ⟨fun r h1 h2 => hB r b' h1 (by omega) (by omega), hB 68 b' (by decide) (by decide) (by omega), hB 69 b' (by decide) (by decide) (by omega), fun k => hB 67 k (by decide) (by decide) (by omega), fun k => hB 75 k (by decide) (by decide) (by omega)⟩
  · rw [hE.np] at hj'
    by_cases hjj : j' = j
    · subst hjj; exact hn
    · exact (r4 j' hj').cong (by omega) hE.nb h12 (ln_lt hI hj').2.1 (fun b hb => hE.qrow hb) (funext fun k => hA _ k (by omega) (by omega)) (fun r h1 h2 => hB r j' (by omega) (by omega) (by omega))
/-- what neither rests on -/
theorem RelT.same {Lv : Nat → Bool} {A A' B B' : ME} {T : Nat → Nat} (h : RelT A B T) (hI : cI Lv A) (hA : ∀ r k, r < 60 → r ≠ 15 → r ≠ 16 → r ≠ 25 → r ≠ 26 → A' r k = A r k) (hB : ∀ r k, 61 ≤ r → r < 84 → B' r k = B r k) (hB0 : ∀ k, 1 ≤ k → k ≤ 4 → B' 60 k = B 60 k) : RelT A' B' T := by
  obtain ⟨r1, r2, r3, r4, r5⟩ := h
  have h12 := hI.1
  have hn8 := hI.2.1
  have row : ∀ r, r < 60 → r ≠ 15 → r ≠ 16 → r ≠ 25 → r ≠ 26 → A' r = A r := fun r a b c d e => funext fun k => hA r k a b c d e
  have enb : cNb A' = cNb A := by unfold cNb; rw [row 1 (by omega) (by omega) (by omega) (by omega) (by omega)]
  have enp : cNp A' = cNp A := by unfold cNp; rw [row 3 (by omega) (by omega) (by omega) (by omega) (by omega)]
  refine ⟨r1.cong enb enp (hB0 1 (by decide) (by decide)) (hB0 2 (by decide) (by decide)), r2.cong (row 5 (by omega) (by omega) (by omega) (by omega) (by omega)) (row 6 (by omega) (by omega) (by omega) (by omega) (by omega)) (fun k _ => hB 82 k (by decide) (by decide)) (fun k _ => hB 83 k (by decide) (by decide)) (hB0 4 (by decide) (by decide)), fun b' hb' => ?_, fun j' hj' => ?_, r5.cong (fun r k h1 h2 _ _ => hB r k h1 (by omega)) (hB0 1 (by decide) (by decide)) (hB0 2 (by decide) (by decide))⟩
  · rw [enb] at hb'
    refine (r3 b' hb').cong hI hb' ⟨fun r k h1 h2 h3 h4 => hA r k (by omega) (by omega) (by omega) (by omega) (by omega), fun j hj => ⟨hA _ _ (by omega) (by omega) (by omega) (by omega) (by omega), hA _ _ (by omega) (by omega) (by omega) (by omega) (by omega), hA _ _ (by omega) (by omega) (by omega) (by omega) (by omega)⟩⟩ ⟨fun r h1 h2 => hB r b' h1 (by omega), hB 68 b' (by decide) (by decide), hB 69 b' (by decide) (by decide), fun k => hB 67 k (by decide) (by decide), fun k => hB 75 k (by decide) (by decide)⟩
  · rw [enp] at hj'
    exact (r4 j' hj').cong (by omega) enb h12 (ln_lt hI hj').2.1 (fun b hb => ⟨by unfold cNq; rw [row _ (by omega) (by omega) (by omega) (by omega) (by omega)], row _ (by omega) (by omega) (by omega) (by omega) (by omega)⟩) (row _ (by omega) (by omega) (by omega) (by omega) (by omega)) (fun r h1 h2 => hB r j' (by omega) (by omega))
theorem Rel.same {Lv : Nat → Bool} {A A' B B' : ME} (h : Rel A B) (hI : cI Lv A) (hA : ∀ r k, r < 60 → r ≠ 15 → r ≠ 16 → r ≠ 25 → r ≠ 26 → A' r k = A r k) (hB : ∀ r k, 61 ≤ r → r < 84 → B' r k = B r k) (hB0 : ∀ k, 1 ≤ k → k ≤ 4 → B' 60 k = B 60 k) : Rel A' B' := by
  obtain ⟨t, h1, h2, h3, h4⟩ := h
  exact ⟨t, h1, by rw [hA 0 4 (by decide) (by decide) (by decide) (by decide) (by decide)]; exact h2, by rw [hB0 3 (by decide) (by decide)]; exact h3, h4.same hI hA hB hB0⟩
