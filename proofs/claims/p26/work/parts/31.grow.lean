/-- the roles that no thing has -/
def lJ (Lv : Nat → Bool) : Prop := ∀ x, ((7 ≤ x ∧ x < 10) ∨ (18 ≤ x ∧ x < 20) ∨ (28 ≤ x ∧ x < 40) ∨ (48 ≤ x ∧ x < 60)) → Lv x = false
theorem dead_line {Lv : Nat → Bool} {C : ME} (hI : cI Lv C) {b k : Nat} (h : cNb C ≤ b) (hb : b < 2) (hk : k < 8) : Lv (10 + 10 * b + k) = false := hI.2.2.2.2.2.2.2.2.2.2.1 b k h hb hk
theorem dead_prop {Lv : Nat → Bool} {C : ME} (hI : cI Lv C) {j : Nat} (h : cNp C ≤ j) (hj : j < 8) : Lv (40 + j) = false := hI.2.2.2.2.2.2.2.2.2.2.2.2 j h hj
/-- a live thing doesn't know the roles of the next beamline, of the next proposal -/
theorem ob_live {g : GW} {ad ad' : AD} {Lv : Nat → Bool} {C : ME} {x : Nat} (hI : cI Lv C) (hJ : lJ Lv) (h : ∀ y, ¬ (10 + 10 * cNb C ≤ y ∧ y < 18 + 10 * cNb C ∧ cNb C < 2) → ¬ (y = 40 + cNp C ∧ cNp C < 8) → ad' y = ad y) (hx : x < 84) (hl : Lv x = true) : ob g ad' x (C x) = ob g ad x (C x) := by
  obtain ⟨i1, i2, -, -, -, i6, i7, i8, i9, i10, i11, i12, i13⟩ := hI
  have hjk : ¬ ((7 ≤ x ∧ x < 10) ∨ (18 ≤ x ∧ x < 20) ∨ (28 ≤ x ∧ x < 40) ∨ (48 ≤ x ∧ x < 60)) := fun q => by rw [hJ x q] at hl; cases hl
  have hbl : ∀ b, b < 2 → 10 + 10 * b ≤ x → x < 18 + 10 * b → b < cNb C := fun b hb h1 h2 => by
    rcases Nat.lt_or_ge b (cNb C) with q | q
    · exact q
    · have := i11 b (x - (10 + 10 * b)) q hb (by omega)
      rw [show 10 + 10 * b + (x - (10 + 10 * b)) = x by omega, hl] at this
      cases this
  unfold ob
  by_cases h0 : x = 0
  · rw [if_pos h0, if_pos h0]; unfold offO; rw [h 1 (by omega) (by omega), h 3 (by omega) (by omega), h 5 (by omega) (by omega), h 6 (by omega) (by omega)]
  rw [if_neg h0, if_neg h0]
  by_cases h1 : x = 1 ∨ x = 3 ∨ x = 11 ∨ x = 21
  · rw [if_pos h1, if_pos h1]; unfold lisO
    have e : ad' (x + 1) = ad (x + 1) := by
      rcases h1 with rfl | rfl | rfl | rfl
      · exact h _ (by omega) (by omega)
      · exact h _ (by omega) (by omega)
      · have := hbl 0 (by decide) (by decide) (by decide); exact h _ (by omega) (by omega)
      · have := hbl 1 (by decide) (by decide) (by decide); exact h _ (by omega) (by omega)
    rw [e]
  rw [if_neg h1, if_neg h1]
  by_cases h2 : x = 2
  · subst h2
    rw [if_pos rfl, if_pos rfl]; unfold rowO
    have hn : 0 < cNb C := by
      have := i6.2.2.2.1
      rw [hl] at this
      exact of_decide_eq_true this.symm
    congr 6
    funext k
    by_cases hk : k < cNb C
    · have e := h (10 + 10 * k) (by omega) (by omega); rw [i8 k hk, tn_nI (by omega)]; simp only [e]
    · rw [show C 2 k = -1 from i6.2.2.2.2 k (by omega) hn]; rfl
  rw [if_neg h2, if_neg h2]
  by_cases h3 : x = 4 ∨ x = 12 ∨ x = 22
  · rw [if_pos h3, if_pos h3]; unfold rowO
    congr 6
    funext k
    rcases h3 with rfl | rfl | rfl
    · have hn : 0 < cNp C := by
        have := i7.2.2.2.1
        rw [hl] at this
        exact of_decide_eq_true this.symm
      by_cases hk : k < cNp C
      · have e := h (40 + k) (by omega) (by omega); rw [i9 k hk, tn_nI (by omega)]; simp only [e]
      · rw [show C 4 k = -1 from i7.2.2.2.2 k (by omega) hn]; rfl
    · have hb := hbl 0 (by decide) (by decide) (by decide)
      obtain ⟨-, -, -, -, -, -, a7, a8, -, -, -, a12⟩ := i10 0 hb
      have hn : 0 < cNq C 0 := by
        have := a8.2.2.2.1
        rw [show 11 + 10 * 0 + 1 = 12 by rfl, hl] at this
        exact of_decide_eq_true this.symm
      by_cases hk : k < cNq C 0
      · obtain ⟨q, h9, h8⟩ := a12 k hk
        have e := h (40 + q) (by omega) (by omega); rw [show C 12 k = nI q from h8, tn_nI (by omega)]; simp only [e]
      · rw [show C 12 k = -1 from a8.2.2.2.2 k (by omega) hn]; rfl
    · have hb := hbl 1 (by decide) (by decide) (by decide)
      obtain ⟨-, -, -, -, -, -, a7, a8, -, -, -, a12⟩ := i10 1 hb
      have hn : 0 < cNq C 1 := by
        have := a8.2.2.2.1
        rw [show 11 + 10 * 1 + 1 = 22 by rfl, hl] at this
        exact of_decide_eq_true this.symm
      by_cases hk : k < cNq C 1
      · obtain ⟨q, h9, h8⟩ := a12 k hk
        have e := h (40 + q) (by omega) (by omega); rw [show C 22 k = nI q from h8, tn_nI (by omega)]; simp only [e]
      · rw [show C 22 k = -1 from a8.2.2.2.2 k (by omega) hn]; rfl
  rw [if_neg h3, if_neg h3]
  by_cases h4 : x = 5 ∨ x = 6
  · rw [if_pos h4, if_pos h4]
  rw [if_neg h4, if_neg h4]
  by_cases h5 : x = 10 ∨ x = 20
  · rw [if_pos h5, if_pos h5]; unfold beO
    have hn : x < 10 + 10 * cNb C := by
      rcases h5 with rfl | rfl
      · have := hbl 0 (by decide) (by decide) (by decide); omega
      · have := hbl 1 (by decide) (by decide) (by decide); omega
    rw [h (x + 1) (by omega) (by omega), h (x + 3) (by omega) (by omega), h (x + 5) (by omega) (by omega), h (x + 7) (by omega) (by omega)]
  rw [if_neg h5, if_neg h5]
  by_cases h6 : x = 13 ∨ x = 15 ∨ x = 23 ∨ x = 25
  · rw [if_pos h6, if_pos h6]; unfold caO
    have hn : x < 10 + 10 * cNb C := by
      rcases h6 with rfl | rfl | rfl | rfl
      · have := hbl 0 (by decide) (by decide) (by decide); omega
      · have := hbl 0 (by decide) (by decide) (by decide); omega
      · have := hbl 1 (by decide) (by decide) (by decide); omega
      · have := hbl 1 (by decide) (by decide) (by decide); omega
    rw [h (x + 1) (by omega) (by omega)]
  rw [if_neg h6, if_neg h6]
  by_cases h7 : x = 14 ∨ x = 16 ∨ x = 24 ∨ x = 26
  · rw [if_pos h7, if_pos h7]
  rw [if_neg h7, if_neg h7]
  by_cases h8 : x = 17 ∨ x = 27
  · rw [if_pos h8, if_pos h8]
  rw [if_neg h8, if_neg h8]
  by_cases h9 : x < 60
  · rw [if_pos h9, if_pos h9]; unfold ppO
    have hj : 40 ≤ x ∧ x < 48 := by omega
    have hjn : x - 40 < cNp C := by
      rcases Nat.lt_or_ge (x - 40) (cNp C) with q | q
      · exact q
      · have := i13 (x - 40) q (by omega)
        rw [show 40 + (x - 40) = x by omega, hl] at this
        cases this
    obtain ⟨-, -, ln, h1, h2⟩ := i12 (x - 40) hjn
    rw [show 40 + (x - 40) = x by omega] at h2
    rw [h2, tn_nI (by omega), h _ (by omega) (by omega)]
  rw [if_neg h9, if_neg h9]
  by_cases h10 : x = 60
  · rw [if_pos h10, if_pos h10]; unfold moO; simp (disch := omega) only [h]
  rw [if_neg h10, if_neg h10]
/-- a new beamline, a new proposal: their lives, their numbers -/
def lvLine (Lv : Nat → Bool) (r0 : Nat) : Nat → Bool := fun x => if r0 ≤ x ∧ x < r0 + 8 ∧ x ≠ r0 + 2 then true else Lv x
def oLine (C : ME) (r0 : Nat) (s m : Int32) : ME := fun r => if r0 ≤ r ∧ r < r0 + 8 ∧ r ≠ r0 + 2 then (if r = r0 then (fun k => if k = 0 then s else if k = 1 then m else 0) else if r = r0 + 3 then (fun k => if k = 2 then s else 0) else fun _ => 0) else C r
theorem HH.line {g : GW} {ad ad' : AD} {Lv : Nat → Bool} {C : ME} {ρ τ : RH} (hH : HH g ad Lv C ρ τ) (hI : cI Lv C) (hJ : lJ Lv) (hn : cNb C < 2) {s m : Int32} {e : Option va_E} (had : ∀ y, ¬ (10 + 10 * cNb C ≤ y ∧ y < 18 + 10 * cNb C) → ad' y = ad y) : HH g ad' (lvLine Lv (10 + 10 * cNb C)) (oLine C (10 + 10 * cNb C) s m) ρ (tLine g ad' (va_up τ (10 + 10 * cNb C) e) (10 + 10 * cNb C) s m) := by
  have hnn := hn
  refine ⟨fun r h' => ?_, fun r h' => ?_⟩
  · by_cases hr : 10 + 10 * cNb C ≤ r ∧ r < 10 + 10 * cNb C + 8 ∧ r ≠ 10 + 10 * cNb C + 2
    · have e1 : lvLine Lv (10 + 10 * cNb C) r = true := by unfold lvLine; rw [if_pos hr]
      rw [e1, if_pos rfl]
      generalize cNb C = b at hn hr e1
      rcases (show r = 10 + 10 * b ∨ r = 10 + 10 * b + 1 ∨ r = 10 + 10 * b + 3 ∨ r = 10 + 10 * b + 4 ∨ r = 10 + 10 * b + 5 ∨ r = 10 + 10 * b + 6 ∨ r = 10 + 10 * b + 7 by omega) with rfl | rfl | rfl | rfl | rfl | rfl | rfl
      all_goals
        rcases (show b = 0 ∨ b = 1 by omega) with rfl | rfl
        · simp [tLine, up_eval, oLine, ob] <;> rfl
        · simp [tLine, up_eval, oLine, ob] <;> rfl
    · have e1 : lvLine Lv (10 + 10 * cNb C) r = Lv r := by unfold lvLine; rw [if_neg hr]
      have e2 : oLine C (10 + 10 * cNb C) s m r = C r := by unfold oLine; rw [if_neg hr]
      have e3 : tLine g ad' (va_up τ (10 + 10 * cNb C) e) (10 + 10 * cNb C) s m r = τ r := by
        unfold tLine
        rw [va_up_ne _ _ (by omega), va_up_ne _ _ (by omega), va_up_ne _ _ (by omega), va_up_ne _ _ (by omega), va_up_ne _ _ (by omega), va_up_ne _ _ (by omega), va_up_ne _ _ (by omega), va_up_ne _ _ (by omega)]
      rw [e1, e2, e3, hH.1 r h']
      by_cases hl : Lv r = true
      · rw [if_pos hl, if_pos hl, ob_live hI hJ (fun y h1 _ => had y (fun q => h1 ⟨q.1, q.2, hnn⟩)) h' hl]
      · rw [if_neg hl, if_neg hl]
  · unfold tLine
    rw [va_up_ne _ _ (by omega), va_up_ne _ _ (by omega), va_up_ne _ _ (by omega), va_up_ne _ _ (by omega), va_up_ne _ _ (by omega), va_up_ne _ _ (by omega), va_up_ne _ _ (by omega), va_up_ne _ _ (by omega)]
    exact hH.2 r h'
def oBeam (C : ME) (s m : Int32) : ME := oAdd (oLine C (10 + 10 * cNb C) s m) 1 (cNb C) (cNb C)
def lBeam (Lv : Nat → Bool) (C : ME) : Nat → Bool := va_up (lvLine Lv (10 + 10 * cNb C)) 2 true
theorem oLine_ne {C : ME} {r0 r : Nat} {s m : Int32} (h : ¬ (r0 ≤ r ∧ r < r0 + 8 ∧ r ≠ r0 + 2)) : oLine C r0 s m r = C r := by unfold oLine; rw [if_neg h]
theorem lvLine_ne {Lv : Nat → Bool} {r0 r : Nat} (h : ¬ (r0 ≤ r ∧ r < r0 + 8 ∧ r ≠ r0 + 2)) : lvLine Lv r0 r = Lv r := by unfold lvLine; rw [if_neg h]
theorem lvLine_in {Lv : Nat → Bool} {r0 r : Nat} (h : r0 ≤ r ∧ r < r0 + 8 ∧ r ≠ r0 + 2) : lvLine Lv r0 r = true := by unfold lvLine; rw [if_pos h]
theorem oLine_z {C : ME} {r0 r k : Nat} {s m : Int32} (h : r0 ≤ r ∧ r < r0 + 8 ∧ r ≠ r0 + 2) (h1 : r = r0 → 2 ≤ k) (h2 : r = r0 + 3 → k ≠ 2) : oLine C r0 s m r k = 0 := by
  unfold oLine
  rw [if_pos h]
  by_cases e : r = r0
  · rw [if_pos e]; rw [if_neg (by have := h1 e; omega), if_neg (by have := h1 e; omega)]
  · rw [if_neg e]
    by_cases e2 : r = r0 + 3
    · rw [if_pos e2]; rw [if_neg (h2 e2)]
    · rw [if_neg e2]
theorem line_cl {Lv : Nat → Bool} {C : ME} {s m : Int32} (hI : cI Lv C) : cLis (lvLine Lv (10 + 10 * cNb C)) (oLine C (10 + 10 * cNb C) s m) 1 (cNb C) := by
  have h := hI.2.2.2.2.2.1
  unfold cLis at h ⊢
  rw [oLine_ne (by omega), oLine_ne (by omega), lvLine_ne (by omega), lvLine_ne (by omega)]
  exact h
theorem oBeam_ne {C : ME} {s m : Int32} {r : Nat} (h : ¬ (10 + 10 * cNb C ≤ r ∧ r < 18 + 10 * cNb C ∧ r ≠ 12 + 10 * cNb C)) (h1 : r ≠ 1) (h2 : r ≠ 2) : oBeam C s m r = C r := by
  unfold oBeam oAdd
  rw [va_up_ne _ _ h1, va_up_ne _ _ h2, oLine_ne (by omega)]
theorem lBeam_ne {Lv : Nat → Bool} {C : ME} {r : Nat} (h : ¬ (10 + 10 * cNb C ≤ r ∧ r < 18 + 10 * cNb C ∧ r ≠ 12 + 10 * cNb C)) (h2 : r ≠ 2) : lBeam Lv C r = Lv r := by
  unfold lBeam
  rw [va_up_ne _ _ h2, lvLine_ne (by omega)]
theorem lBeam_in {Lv : Nat → Bool} {C : ME} {r : Nat} (h : 10 + 10 * cNb C ≤ r ∧ r < 18 + 10 * cNb C ∧ r ≠ 12 + 10 * cNb C) : lBeam Lv C r = true := by
  unfold lBeam
  rw [va_up_ne _ _ (by omega), lvLine_in (by omega)]
theorem oBeam_z {C : ME} {s m : Int32} {r k : Nat} (h : 10 + 10 * cNb C ≤ r ∧ r < 18 + 10 * cNb C ∧ r ≠ 12 + 10 * cNb C) (h1 : r = 10 + 10 * cNb C → 2 ≤ k) (h2 : r = 13 + 10 * cNb C → k ≠ 2) : oBeam C s m r k = 0 := by
  unfold oBeam oAdd
  rw [va_up_ne _ _ (by omega), va_up_ne _ _ (by omega), oLine_z (by omega) h1 (fun q => h2 (by omega))]
theorem oBeam_1 {C : ME} {s m : Int32} : oBeam C s m 1 = va_up (va_up (va_up (C 1) 0 (C 1 0 + 1)) 1 1) 2 (nI (cNb C + 1)) := by
  unfold oBeam oAdd
  rw [va_up_self, oLine_ne (by omega)]
theorem oBeam_nb {C : ME} {s m : Int32} (h : cNb C < 2) : cNb (oBeam C s m) = cNb C + 1 := by
  unfold cNb
  rw [oBeam_1, va_up_self, tn_nI (by omega)]
  rfl
theorem oBeam_np {C : ME} {s m : Int32} : cNp (oBeam C s m) = cNp C := by
  unfold cNp
  rw [oBeam_ne (by omega) (by omega) (by omega)]
theorem oBeam_row {Lv : Nat → Bool} {C : ME} {s m : Int32} (hI : cI Lv C) (hn : cNb C < 2) (k : Nat) : oBeam C s m 2 k = if k ≤ cNb C then nI k else -1 := by
  unfold oBeam oAdd
  rw [va_up_ne _ _ (by decide), va_up_self]
  by_cases h0 : cNb C = 0
  · rw [if_pos h0, h0]
    by_cases hk : k = 0
    · rw [if_pos hk, if_pos (by omega), hk]
    · rw [if_neg hk, if_neg (by omega)]
  · rw [if_neg h0, oLine_ne (by omega)]
    by_cases hk : k = cNb C
    · rw [hk, va_up_self, if_pos (Nat.le_refl _)]
    · rw [va_up_ne _ _ hk]
      by_cases hk2 : k < cNb C
      · rw [if_pos (by omega)]; exact hI.2.2.2.2.2.2.2.1 k hk2
      · rw [if_neg (by omega)]; exact hI.2.2.2.2.2.1.2.2.2.2 k (by omega) (by omega)
theorem cI_beam {Lv : Nat → Bool} {C : ME} {s m : Int32} (hI : cI Lv C) (hn : cNb C < 2) : cI (lBeam Lv C) (oBeam C s m) := by
  have hrow := oBeam_row (s := s) (m := m) hI hn
  have hdl := fun (b k : Nat) (h : cNb C ≤ b) (hb : b < 2) (hk : k < 8) => dead_line hI h hb hk
  obtain ⟨h1, h2, h3, h4, h5, h6, h7, h8, h9, h10, h11, h12, h13⟩ := hI
  have ne : ∀ r, ¬ (10 + 10 * cNb C ≤ r ∧ r < 18 + 10 * cNb C ∧ r ≠ 12 + 10 * cNb C) → r ≠ 1 → r ≠ 2 → oBeam C s m r = C r := fun r a b c => oBeam_ne a b c
  have lv : ∀ x, ¬ (10 + 10 * cNb C ≤ x ∧ x < 18 + 10 * cNb C ∧ x ≠ 12 + 10 * cNb C) → x ≠ 2 → lBeam Lv C x = Lv x := fun x a b => lBeam_ne a b
  have li : ∀ x, 10 + 10 * cNb C ≤ x ∧ x < 18 + 10 * cNb C ∧ x ≠ 12 + 10 * cNb C → lBeam Lv C x = true := fun x a => lBeam_in a
  have oz : ∀ r k, (10 + 10 * cNb C ≤ r ∧ r < 18 + 10 * cNb C ∧ r ≠ 12 + 10 * cNb C) → (r = 10 + 10 * cNb C → 2 ≤ k) → (r = 13 + 10 * cNb C → k ≠ 2) → oBeam C s m r k = 0 := fun r k a b c => oBeam_z a b c
  have lis : ∀ r n, r ≠ 1 → r ≠ 2 → r + 1 ≠ 1 → r + 1 ≠ 2 → ¬ (10 + 10 * cNb C ≤ r + 1 ∧ r < 18 + 10 * cNb C) → cLis Lv C r n → cLis (lBeam Lv C) (oBeam C s m) r n := by
    intro r n a1 a2 a3 a4 a5 hc
    unfold cLis at hc ⊢
    rw [ne r (by omega) a1 a2, ne (r + 1) (by omega) a3 a4, lv r (by omega) a2, lv (r + 1) (by omega) a4]
    exact hc
  unfold cI
  rw [oBeam_nb hn, oBeam_np]
  refine ⟨by omega, h2, by rw [lv 0 (by omega) (by omega)]; exact h3, by rw [lv 5 (by omega) (by omega)]; exact h4, by rw [lv 6 (by omega) (by omega)]; exact h5, ?_, lis 3 _ (by omega) (by omega) (by omega) (by omega) (by omega) h7, fun i hi => by rw [hrow, if_pos (by omega)], fun i hi => ?_, fun b' hb' => ?_, fun b' k hb' hb2' hk => ?_, fun j' hj' => ?_, fun j' hj' hj2' => ?_⟩
  · refine ⟨by rw [oBeam_1, va_up_self], by rw [oBeam_1, va_up_ne _ _ (by decide), va_up_self, if_neg (by omega)], by rw [lv 1 (by omega) (by omega)]; exact h6.2.2.1, by rw [show lBeam Lv C (1 + 1) = true from va_up_self _ _ _]; exact (decide_eq_true (by omega)).symm, fun k hk _ => ?_⟩
    rw [show 1 + 1 = 2 by rfl, hrow, if_neg (by omega)]
  · rw [ne 4 (by omega) (by omega) (by omega)]; exact h9 i hi
  · unfold cLin
    rw [oBeam_np]
    by_cases hbb : b' < cNb C
    · obtain ⟨a1, a2, a3, a4, a5, a6, a7, a8, a9, a10, a11, a12⟩ := h10 b' hbb
      have en : cNq (oBeam C s m) b' = cNq C b' := by unfold cNq; rw [ne _ (by omega) (by omega) (by omega)]
      rw [en, lv _ (by omega) (by omega), lv _ (by omega) (by omega), lv _ (by omega) (by omega), lv _ (by omega) (by omega), lv _ (by omega) (by omega), lv _ (by omega) (by omega), ne (13 + 10 * b') (by omega) (by omega) (by omega), ne (15 + 10 * b') (by omega) (by omega) (by omega), ne (10 + 10 * b') (by omega) (by omega) (by omega), ne (12 + 10 * b') (by omega) (by omega) (by omega)]
      exact ⟨a1, a2, a3, a4, a5, a6, a7, lis _ _ (by omega) (by omega) (by omega) (by omega) (by omega) a8, a9, a10, a11, a12⟩
    · have hbe : b' = cNb C := by omega
      subst hbe
      have en : cNq (oBeam C s m) (cNb C) = 0 := by unfold cNq; rw [oz _ _ (by omega) (by omega) (by omega)]; rfl
      rw [en]
      refine ⟨li _ (by omega), li _ (by omega), li _ (by omega), li _ (by omega), li _ (by omega), li _ (by omega), Nat.zero_le _, ⟨?_, ?_, li _ (by omega), ?_, fun k _ q => absurd q (Nat.lt_irrefl 0)⟩, ?_, ⟨0, Nat.zero_le _, ?_⟩, ⟨0, Nat.zero_le _, ?_⟩, fun k hk => absurd hk (Nat.not_lt_zero k)⟩
      · rw [oz _ _ (by omega) (by omega) (by omega)]; rfl
      · rw [oz _ _ (by omega) (by omega) (by omega), if_pos rfl]
      · rw [lv _ (by omega) (by omega)]
        have := hdl (cNb C) 2 (Nat.le_refl _) hn (by decide)
        rw [show 11 + 10 * cNb C + 1 = 10 + 10 * cNb C + 2 by omega, this]; rfl
      · rw [oz _ _ (by omega) (by omega) (by omega)]; rfl
      · rw [oz _ _ (by omega) (by omega) (by omega)]; rfl
      · rw [oz _ _ (by omega) (by omega) (by omega)]; rfl
  · rw [lv _ (by omega) (by omega)]; exact h11 b' k (by omega) hb2' hk
  · obtain ⟨b1, b2, ln, b3, b4⟩ := h12 j' hj'
    have hj8' : j' < 8 := by omega
    rw [lv _ (by omega) (by omega), ne (40 + j') (by omega) (by omega) (by omega)]
    exact ⟨b1, b2, ln, by omega, b4⟩
  · rw [lv _ (by omega) (by omega)]; exact h13 j' hj' hj2'
theorem lJ_beam {Lv : Nat → Bool} {C : ME} (hJ : lJ Lv) (hn : cNb C < 2) : lJ (lBeam Lv C) := fun x hx => by
  rw [lBeam_ne (by omega) (by omega)]; exact hJ x hx
def kBeam (C : ME) (s m : Int32) : Int32 := if win s 3 40 then (if win m 10 999 then (if cNb C < 2 then (0) else 2) else 1) else 1
set_option maxHeartbeats 4000000 in
set_option maxRecDepth 100000 in
/-- addBeamline -/
theorem sp_X3_addBeamline {l : Launch} {g : GW} {ad : AD} {τ : RH} {Lv : Nat → Bool} {C : ME} {ρ : RH} {s9 m9 : Int32} (hH : HH g ad Lv C ρ τ) (hI : cI Lv C) (hJ : lJ Lv) : Sp l g yX3_addBeamline (.code yX3_addBeamline cX3_addBeamline 3 (some .int)) (rmv 8 8 252) [.ref (ad 0), .int s9, .int m9] ad τ 8 252 (fun v ad' τ' => kBeam C s9 m9 = 0 ∧ v = some (.int (nI (cNb C))) ∧ (∀ y, ¬ (10 + 10 * cNb C ≤ y ∧ y < 18 + 10 * cNb C) → y ≠ 2 → ad' y = ad y) ∧ HH g ad' (lBeam Lv C) (oBeam C s9 m9) ρ τ') (fun E ad' τ' => ((kBeam C s9 m9 = 1 ∧ E = "java/lang/IllegalArgumentException") ∨ (kBeam C s9 m9 = 2 ∧ E = "java/lang/IllegalStateException")) ∧ ad' = ad ∧ τ' = τ) := by
  refine Sp.of 0 [some (.ref (ad 0)), some (.int s9), some (.int m9)] (by decide +kernel) (Nat.le_of_ble_eq_true rfl) rfl ?_
  intro p e s m args below meth c A cx hout hr hnm
  obtain ⟨hO, hL1, hL3, hs1, hs3⟩ := H_lines hH hI
  refine a_iload_n cx dX3_addBeamline_0 rfl rfl ?_
  refine a_iconst cx (v := 3) dX3_addBeamline_1 (by decide) ?_
  refine a_bipush cx (v := 40) dX3_addBeamline_2 (by decide) ?_
  refine a_callS cx 3 (sp_X3_isWithin (x := s9) (lo := 3) (hi := 40)) ml_X3_30 st_X3_isWithin ini_X3 cd_X3_isWithin rfl rfl (by decide +kernel) rfl rfl ⟨(Nat.le_of_ble_eq_true rfl), (Nat.le_of_ble_eq_true rfl)⟩ (Nat.le_of_ble_eq_true rfl) dX3_addBeamline_4 ⟨(Nat.le_of_ble_eq_true rfl), (Nat.le_of_ble_eq_true rfl)⟩ (fun _ _ _ h => h.elim) (fun v9 ad9 τ9 hP => ?_)
  obtain ⟨⟨w4, rfl, hw4⟩, h2, h3⟩ := hP
  replace h2 := h2.symm
  subst h2
  replace h3 := h3.symm
  subst h3
  replace hw4 := win_if hw4
  refine a_if_ne cx (tgt := 20) dX3_addBeamline_7 (by decide) (fun c_7 => ?_) (fun c_7 => ?_)
  · refine a_iload_n cx dX3_addBeamline_20 rfl rfl ?_
    refine a_bipush cx (v := 10) dX3_addBeamline_21 (by decide) ?_
    refine a_sipush cx (v := 999) dX3_addBeamline_23 (by decide) ?_
    refine a_callS cx 3 (sp_X3_isWithin (x := m9) (lo := 10) (hi := 999)) ml_X3_30 st_X3_isWithin ini_X3 cd_X3_isWithin rfl rfl (by decide +kernel) rfl rfl ⟨(Nat.le_of_ble_eq_true rfl), (Nat.le_of_ble_eq_true rfl)⟩ (Nat.le_of_ble_eq_true rfl) dX3_addBeamline_26 ⟨(Nat.le_of_ble_eq_true rfl), (Nat.le_of_ble_eq_true rfl)⟩ (fun _ _ _ h => h.elim) (fun v9 ad9 τ9 hP => ?_)
    obtain ⟨⟨w26, rfl, hw26⟩, h2, h3⟩ := hP
    replace h2 := h2.symm
    subst h2
    replace h3 := h3.symm
    subst h3
    replace hw26 := win_if hw26
    refine a_if_ne cx (tgt := 42) dX3_addBeamline_29 (by decide) (fun c_29 => ?_) (fun c_29 => ?_)
    · refine a_aload_n cx dX3_addBeamline_42 rfl rfl ?_
      refine gf_X3_10 cx hO dX3_addBeamline_43 ?_
      refine a_callV cx 0 (sp_Jx4a65c_size_8abf5 hL1) hL1 rfl ml_X3_43 im_Jx4a65c_size_8abf5 se_Jx4a65c_size_8abf5 ini_Jx4a65c cd_Jx4a65c_size_8abf5 rfl rfl (by decide +kernel) rfl rfl ⟨(Nat.le_of_ble_eq_true rfl), (Nat.le_of_ble_eq_true rfl)⟩ (Nat.le_of_ble_eq_true rfl) dX3_addBeamline_46 ⟨(Nat.le_of_ble_eq_true rfl), (Nat.le_of_ble_eq_true rfl)⟩ (fun _ _ _ h => h.elim) (fun v9 ad9 τ9 hP => ?_)
      obtain ⟨rfl, h2, h3⟩ := hP
      replace h2 := h2.symm
      subst h2
      replace h3 := h3.symm
      subst h3
      refine a_iconst cx (v := 2) dX3_addBeamline_49 (by decide) ?_
      refine a_icmp_lt cx (tgt := 63) dX3_addBeamline_50 (by decide) (fun c_50 => ?_) (fun c_50 => ?_)
      · have hn : cNb C < 2 := (nI_ltI (by have := hI.1; omega) (by decide)).mp c_50
        have hd := fun (k : Nat) (hk : k < 8) => hH.no (show 10 + 10 * cNb C + k < 84 by omega) (dead_line hI (Nat.le_refl _) hn hk)
        refine a_aload_n cx dX3_addBeamline_63 rfl rfl ?_
        refine gf_X3_10 cx hO dX3_addBeamline_64 ?_
        refine a_newG cx (fs := dvX0) (ci := 3) (10 + 10 * cNb C) ((hd 0 (by decide))) uw_X0 tyX0 tyX0_ok cl_X3_52 ins_X0 ini_X0 rfl dvX0_ok (Nat.le_of_ble_eq_true rfl) (Nat.le_of_ble_eq_true rfl) dX3_addBeamline_67 (fun ad8 had_67 => ?_)
        simp (disch := omega) only [← had_67]
        refine a_dup cx dX3_addBeamline_70 rfl ?_
        refine a_iload_n cx dX3_addBeamline_71 rfl rfl ?_
        refine a_iload_n cx dX3_addBeamline_72 rfl rfl ?_
        refine a_callI cx 2 (sp_X0_init (r0 := 10 + 10 * cNb C) (s9 := s9) (m9 := m9) (va_up_self _ _ _) (by rw [va_up_ne _ _ (by omega)]; exact hd 1 (by decide)) (by rw [va_up_ne _ _ (by omega)]; exact hd 3 (by decide)) (by rw [va_up_ne _ _ (by omega)]; exact hd 4 (by decide)) (by rw [va_up_ne _ _ (by omega)]; exact hd 5 (by decide)) (by rw [va_up_ne _ _ (by omega)]; exact hd 6 (by decide)) (by rw [va_up_ne _ _ (by omega)]; exact hd 7 (by decide))) ml_X3_54 im_X0_init ini_X0 cd_X0_init rfl rfl rfl (by decide +kernel) rfl rfl ⟨(Nat.le_of_ble_eq_true rfl), (Nat.le_of_ble_eq_true rfl)⟩ (Nat.le_of_ble_eq_true rfl) dX3_addBeamline_73 ⟨(Nat.le_of_ble_eq_true rfl), (Nat.le_of_ble_eq_true rfl)⟩ (fun v9 ad9 τ9 hP => ?_)
        obtain ⟨had_73, rfl, h3⟩ := hP
        replace h3 := h3.symm
        subst h3
        have had9 : ∀ y, ¬ (10 + 10 * cNb C ≤ y ∧ y < 18 + 10 * cNb C) → ad9 y = ad y := fun y hy => (had_73 y (by omega) (by omega) (by omega) (by omega) (by omega) (by omega)).trans (had_67 y (by omega))
        simp (disch := omega) only [← had_73]
        have hH9 := hH.line (s := s9) (m := m9) (e := some (.inr (3, dvX0))) hI hJ hn had9
        have hcl := line_cl (s := s9) (m := m9) hI
        have hQ9 := H_lis hH9 (by decide) rfl hcl
        refine a_callV cx 1 (sp_addH hH9 (r := 1) (n := cNb C) (x := cNb C) (F := fun i => 10 + 10 * i) (Or.inl rfl) (fun a w => rfl) (by omega) hcl (by omega) (by omega) (by unfold tLine; exact va_up_self _ _ _) ca_BeamOffice_Beamline_Object rfl) hQ9 rfl ml_X3_57 im_Jx4a65c_add_9ea2d se_Jx4a65c_add_9ea2d ini_Jx4a65c cd_Jx4a65c_add_9ea2d rfl rfl (by decide +kernel) rfl rfl ⟨(Nat.le_of_ble_eq_true rfl), (Nat.le_of_ble_eq_true rfl)⟩ (Nat.le_of_ble_eq_true rfl) dX3_addBeamline_76 ⟨(Nat.le_of_ble_eq_true rfl), (Nat.le_of_ble_eq_true rfl)⟩ (fun _ _ _ h => h.elim) (fun v9 ad7 τ9 hP9 => ?_)
        obtain ⟨had_76, rfl, hH7⟩ := hP9
        rw [← had_76 0 (by decide)]
        have hO7 := hH7.at (r := 0) (by decide) (by rw [va_up_ne _ _ (by decide), lvLine_ne (by omega)]; exact hI.2.2.1)
        have hL7 := hH7.at (r := 1) (by decide) (by rw [va_up_ne _ _ (by decide), lvLine_ne (by omega)]; exact hI.2.2.2.2.2.1.2.2.1)
        have hL8 : _ = some (liO _ _ (cNb C + 1)) := hL7.trans (by unfold oAdd; rw [va_up_self]; rfl)
        refine a_pop cx dX3_addBeamline_79 rfl ?_
        refine a_aload_n cx dX3_addBeamline_80 rfl rfl ?_
        refine gf_X3_10 cx hO7 dX3_addBeamline_81 ?_
        refine a_callV cx 0 (sp_Jx4a65c_size_8abf5 hL8) hL8 rfl ml_X3_43 im_Jx4a65c_size_8abf5 se_Jx4a65c_size_8abf5 ini_Jx4a65c cd_Jx4a65c_size_8abf5 rfl rfl (by decide +kernel) rfl rfl ⟨(Nat.le_of_ble_eq_true rfl), (Nat.le_of_ble_eq_true rfl)⟩ (Nat.le_of_ble_eq_true rfl) dX3_addBeamline_84 ⟨(Nat.le_of_ble_eq_true rfl), (Nat.le_of_ble_eq_true rfl)⟩ (fun _ _ _ h => h.elim) (fun v9 ad9 τ9 hP => ?_)
        obtain ⟨rfl, h2, h3⟩ := hP
        replace h2 := h2.symm
        subst h2
        replace h3 := h3.symm
        subst h3
        refine a_iconst cx (v := 1) dX3_addBeamline_87 (by decide) ?_
        refine a_isub cx dX3_addBeamline_88 ?_
        exact a_iret cx hr dX3_addBeamline_89 (Nat.le_of_ble_eq_true rfl) (Nat.le_of_ble_eq_true rfl) ⟨(by unfold kBeam; rw [if_pos (hw4.2 c_7), if_pos (hw26.2 c_29), if_pos hn]), vI (nI_pred _), fun y h1 h2 => (had_76 y h2).trans (had9 y h1), hH7⟩
      · exact a_throw cx "no more beamlines" ["java/lang/RuntimeException", "java/lang/Exception"] hout (by decide +kernel) fit_names cl_X3_47 ini_IllegalStateException th_51.1 th_51.2 (by decide +kernel) dX3_addBeamline_53 dX3_addBeamline_56 dX3_addBeamline_57 dX3_addBeamline_59 dX3_addBeamline_62 (Nat.le_of_ble_eq_true rfl) (Nat.le_of_ble_eq_true rfl) (Nat.le_of_ble_eq_true rfl) (Nat.le_of_ble_eq_true rfl) (Nat.le_of_ble_eq_true rfl) (Nat.le_of_ble_eq_true rfl) ⟨Or.inr (⟨(by unfold kBeam; rw [if_pos (hw4.2 c_7), if_pos (hw26.2 c_29), if_neg (fun h => c_50 (nI_lt h (by decide)))]), rfl⟩), rfl, rfl⟩
    · exact a_throw cx "the room is out of range" ["java/lang/RuntimeException", "java/lang/Exception"] hout (by decide +kernel) fit_names cl_X3_34 ini_IllegalArgumentException th_38.1 th_38.2 (by decide +kernel) dX3_addBeamline_32 dX3_addBeamline_35 dX3_addBeamline_36 dX3_addBeamline_38 dX3_addBeamline_41 (Nat.le_of_ble_eq_true rfl) (Nat.le_of_ble_eq_true rfl) (Nat.le_of_ble_eq_true rfl) (Nat.le_of_ble_eq_true rfl) (Nat.le_of_ble_eq_true rfl) (Nat.le_of_ble_eq_true rfl) ⟨Or.inl ⟨(by unfold kBeam; rw [if_pos (hw4.2 c_7), if_neg (hw26.1 c_29)]), rfl⟩, rfl, rfl⟩
  · exact a_throw cx "the run is out of range" ["java/lang/RuntimeException", "java/lang/Exception"] hout (by decide +kernel) fit_names cl_X3_34 ini_IllegalArgumentException th_38.1 th_38.2 (by decide +kernel) dX3_addBeamline_10 dX3_addBeamline_13 dX3_addBeamline_14 dX3_addBeamline_16 dX3_addBeamline_19 (Nat.le_of_ble_eq_true rfl) (Nat.le_of_ble_eq_true rfl) (Nat.le_of_ble_eq_true rfl) (Nat.le_of_ble_eq_true rfl) (Nat.le_of_ble_eq_true rfl) (Nat.le_of_ble_eq_true rfl) ⟨Or.inl ⟨(by unfold kBeam; rw [if_neg (hw4.1 c_7)]), rfl⟩, rfl, rfl⟩

