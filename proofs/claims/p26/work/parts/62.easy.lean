theorem up2_ne {C : ME} {r k r' k' : Nat} {x : Int32} (h : ¬ (r' = r ∧ k' = k)) : up2 C r k x r' k' = C r' k' := by rw [up2_at, if_neg h]
theorem up2_eq {C : ME} {r k : Nat} {x : Int32} : up2 C r k x r k = x := by rw [up2_at, if_pos ⟨rfl, rfl⟩]
theorem up2_row {C : ME} {r k r' : Nat} {x : Int32} (h : r' ≠ r) : up2 C r k x r' = C r' := va_up_ne _ _ h
theorem if0 {p : Prop} [Decidable p] {x c : Int32} (h : (if p then x else c) = 0) (hc : ¬ c = 0) : p ∧ x = 0 := by
  by_cases hp : p
  · rw [if_pos hp] at h; exact ⟨hp, h⟩
  · rw [if_neg hp] at h; exact absurd h hc
theorem rep_cong {Lv : Nat → Bool} {A A' : ME} {b : Nat} (hI : cI Lv A) (hb : b < cNb A) (hnq : cNq A' b = cNq A b) (h12 : A' (12 + 10 * b) = A (12 + 10 * b)) (h17 : A' (17 + 10 * b) = A (17 + 10 * b)) (h0 : A' (10 + 10 * b) 0 = A (10 + 10 * b) 0) (h6 : A' (10 + 10 * b) 6 = A (10 + 10 * b) 6) (h4 : ∀ j, j < 8 → A' (40 + j) 4 = A (40 + j) 4) : ag3 (cReplay A' b) (cReplay A b) := by
  obtain ⟨hL, hb2⟩ := cI_lin hI hb
  obtain ⟨-, -, -, -, -, -, h8, -, -, -, -, hq⟩ := hL
  have hn8 := hI.2.1
  have e1 : ag3 (cAll A' b) (cAll A b) := by
    unfold cAll
    rw [hnq, h0, h12]
    rw [rpA_cong (w := fun i => A' (40 + tn (A (12 + 10 * b) i)) 4) (w' := fun i => A (40 + tn (A (12 + 10 * b) i)) 4) (fun k _ hk => by
      obtain ⟨q, h1, h2⟩ := hq k (by omega)
      have ht : tn (A (12 + 10 * b) k) < 8 := by rw [h2, tn_nI (by omega)]; omega
      exact h4 _ ht)]
    exact rpA_ag ⟨rfl, rfl, fun k hk => absurd hk (Nat.not_lt_zero k)⟩
  unfold cReplay
  rw [h17, h6]
  refine rpF_ag e1 ?_
  unfold cAll
  exact rpA_8 (Nat.zero_le _)
theorem Rel.nb {A B : ME} (h : Rel A B) : cNb A = mNb B := by obtain ⟨t, -, -, -, h⟩ := h; exact h.1.1
theorem Rel.np {A B : ME} (h : Rel A B) : cNp A = mNp B := by obtain ⟨t, -, -, -, h⟩ := h; exact h.1.2
section EASY
variable {Lv : Nat → Bool} {A B : ME}
/-- a line's number k, not its shifts, not its panel -/
theorem rLn.put {T : Nat → Nat} {b k : Nat} {x : Int32} (hI : cI Lv A) (hb : b < cNb A) (h : rLn A B T b) (B' : ME) (hB : ∀ r i, (65 = r ∨ 66 = r ∨ 67 = r ∨ 75 = r) → B' r i = B r i) (hk : k ≠ 0 ∧ k ≠ 6 ∧ k ≠ 9) (h1 : rL1 (up2 A (10 + 10 * b) k x) B' b) (h2 : rL2 (up2 A (10 + 10 * b) k x) b) : rLn (up2 A (10 + 10 * b) k x) B' T b := by
  obtain ⟨p1, p2, p3, p4, p5, p6⟩ := h
  have hb2 := (cI_lin hI hb).2
  have hq : cNq (up2 A (10 + 10 * b) k x) b = cNq A b := by unfold cNq; rw [up2_row (by omega)]
  refine ⟨h1, h2, ?_, ?_, ?_, ?_⟩
  · unfold rL3 at *
    rw [hq, up2_ne (by omega), up2_ne (by omega), up2_ne (by omega), up2_ne (by omega), hB 65 b (Or.inl rfl)]
    exact p3
  · unfold rL4 at *
    rw [hq, up2_row (by omega), up2_row (by omega)]
    refine ⟨?_, fun i hi => ?_⟩
    · unfold mNq; rw [hB 66 b (by omega)]; exact p4.1
    · obtain ⟨a1, a2, a3, a4, a5⟩ := p4.2 i hi
      refine ⟨?_, ?_, a3, ?_, ?_⟩
      · unfold mQ at *; rw [hB 67 _ (by omega)]; exact a1
      · unfold mLf mQ at *; rw [hB 67 _ (by omega), hB 75 _ (by omega)]; exact a2
      · rw [up2_row (by omega)]; exact a4
      · rw [up2_row (by omega)]; exact a5
  · unfold rL5 at *; rw [up2_ne (by omega)]; exact p5
  · unfold rL6 at *
    rw [hq, up2_row (by omega : 14 + 10 * b ≠ 10 + 10 * b), up2_row (by omega : 13 + 10 * b ≠ 10 + 10 * b)]
    exact (rep_cong hI hb hq (up2_row (by omega)) (up2_row (by omega)) (up2_ne (by omega)) (up2_ne (by omega)) (fun j hj => up2_ne (by omega))).trans p6
theorem e_setRate (h : Rel A B) (hI : cI Lv A) {b u : Int32} : kSetRate A b u = jRate B b u ∧ (kSetRate A b u = 0 → A (10 + 10 * tn b) 7 = B 63 (tn b) ∧ Rel (up2 A (10 + 10 * tn b) 7 u) (up2 B 63 (tn b) u)) := by
  refine ⟨by unfold kSetRate jRate okL okm; rw [h.nb], fun hk => ?_⟩
  unfold kSetRate at hk
  obtain ⟨hok, hk⟩ := if0 hk (by decide)
  obtain ⟨hw, -⟩ := if0 hk (by decide)
  have hb := (okL_ix hI hok).2
  obtain ⟨hu, hu2⟩ := win_n (hi := 99) hw (by decide) (by decide)
  generalize tn b = b' at hb
  obtain ⟨t, t1, t2, t3, hT⟩ := h
  have hl := hT.2.2.1 b' hb
  have hb2 := (cI_lin hI hb).2
  refine ⟨hl.1.2.2.1.symm, t, t1, by rw [up2_ne (by omega)]; exact t2, by rw [up2_ne (by omega)]; exact t3, hT.line hI hb (cE.put (by unfold cT; omega)) (fun r k h1 h2 => up2_ne (by omega)) (fun r k h1 h2 h3 => up2_ne (by omega)) (fun k h1 h2 => up2_ne (by omega)) (hl.put hI hb _ (fun r i hr => up2_ne (by omega)) (by omega) ?_ ?_)⟩
  · obtain ⟨a1, a2, a3, a4, a5, a6⟩ := hl.1
    unfold rL1
    simp (disch := omega) only [up2_ne, up2_eq]
    exact ⟨a1, a2, trivial, a4, a5, a6⟩
  · obtain ⟨us, rm, rt, a1, a2, a3, a4, a5, a6⟩ := hl.2.1
    unfold rL2
    simp (disch := omega) only [up2_ne, up2_eq]
    exact ⟨us, rm, tn u, a1, a2, hu, a4, a5, hu2⟩
end EASY
