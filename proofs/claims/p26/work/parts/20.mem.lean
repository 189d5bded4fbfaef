/-! THE MEMORY: C r k is the k-th number of the thing at role r; 'ob' says what thing lies at a role.
  0 the office (4 time); 1, 3 its lists of beamlines, proposals (0 modCount, 1 whether it has a row, 2 size); 2, 4 their rows; 5, 6 trained, there;
  10+10b a beamline (0 shifts, 1 room, 6 passed, 7 rate, 8 used, 9 met, 10 fault), +1 its queue (a list), +2 its row, +3 kept (1 places, 2 reserve), +4 kept.left, +5 anew, +6 anew.left, +7 kinds;
  40+j a proposal (0 number, 1 line, 2 user, 3 score, 4 wanted, 5 data, 6 queuePlace, 7 sampleLife, 8 samplePlace, 9 done, 10 missed, 11 lost, 12 owed);
  60 the model (0 thrown, 1 lines, 2 proposals, 3 time, 4 trained), 61 run, 62 room, 63 rate, 64 used, 65 reserve, 66 queued, 67 queue, 68 hasMet, 69 isFault, 70 line, 71 user, 72 score, 73 wanted, 74 data, 75 left, 76 done, 77 missed, 78 lost, 79 owed, 80 life, 81 place, 82 isTrained, 83 isThere -/
abbrev ME : Type := Nat → Nat → Int32
def up2 (C : ME) (r k : Nat) (x : Int32) : ME := va_up C r (va_up (C r) k x)
abbrev offO (ad : AD) (w : Nat → Int32) : va_E := .inr (6, [.ref (ad 1), .ref (ad 3), .ref (ad 5), .ref (ad 6), .int (w 4)])
abbrev lisO (g : GW) (ad : AD) (r : Nat) (w : Nat → Int32) : va_E := .inr (2, [.int (w 0), (if w 1 = 0 then .ref g.2.2.1 else .ref (ad (r + 1))), .int (w 2)])
abbrev rowO (g : GW) (ad : AD) (f : Nat → Nat) (w : Nat → Int32) : va_E := arQ g 10 (fun k => if w k < 0 then none else some (ad (f (tn (w k)))))
abbrev beO (ad : AD) (r : Nat) (w : Nat → Int32) : va_E := .inr (3, [.int (w 0), .int (w 1), .ref (ad (r + 1)), .ref (ad (r + 3)), .ref (ad (r + 5)), .ref (ad (r + 7)), .int (w 6), .int (w 7), .int (w 8), .int (w 9), .int (w 10)])
abbrev caO (ad : AD) (r : Nat) (w : Nat → Int32) : va_E := .inr (4, [.ref (ad (r + 1)), .int (w 1), .int (w 2)])
abbrev ppO (ad : AD) (w : Nat → Int32) : va_E := .inr (5, [.int (w 0), .ref (ad (10 + 10 * tn (w 1))), .int (w 2), .int (w 3), .int (w 4), .int (w 5), .int (w 6), .int (w 7), .int (w 8), .int (w 9), .int (w 10), .int (w 11), .int (w 12)])
abbrev moO (ad : AD) (w : Nat → Int32) : va_E := .inr (7, [.int (w 0), .int (w 1), .int (w 2), .int (w 3), .int (w 4), .ref (ad 61), .ref (ad 62), .ref (ad 63), .ref (ad 64), .ref (ad 65), .ref (ad 66), .ref (ad 67), .ref (ad 68), .ref (ad 69), .ref (ad 70), .ref (ad 71), .ref (ad 72), .ref (ad 73), .ref (ad 74), .ref (ad 75), .ref (ad 76), .ref (ad 77), .ref (ad 78), .ref (ad 79), .ref (ad 80), .ref (ad 81), .ref (ad 82), .ref (ad 83)])
def ob (g : GW) (ad : AD) (r : Nat) (w : Nat → Int32) : va_E :=
  if r = 0 then offO ad w
  else if r = 1 ∨ r = 3 ∨ r = 11 ∨ r = 21 then lisO g ad r w
  else if r = 2 then rowO g ad (fun i => 10 + 10 * i) w
  else if r = 4 ∨ r = 12 ∨ r = 22 then rowO g ad (fun i => 40 + i) w
  else if r = 5 ∨ r = 6 then arZ g 10 w
  else if r = 10 ∨ r = 20 then beO ad r w
  else if r = 13 ∨ r = 15 ∨ r = 23 ∨ r = 25 then caO ad r w
  else if r = 14 ∨ r = 16 ∨ r = 24 ∨ r = 26 then arI g 8 w
  else if r = 17 ∨ r = 27 then arC g 200 w
  else if r < 60 then ppO ad w
  else if r = 60 then moO ad w
  else if r < 67 then arI g 2 w
  else if r = 67 then arI g 16 w
  else if r < 70 then arZ g 2 w
  else if r < 81 then arI g 8 w
  else if r = 81 then arC g 8 w
  else arZ g 10 w
/-- the heap: at each role below 84 that is live lies its thing, and elsewhere rho -/
def HH (g : GW) (ad : AD) (Lv : Nat → Bool) (C : ME) (ρ : RH) (τ : RH) : Prop := (∀ r, r < 84 → τ r = if Lv r = true then some (ob g ad r (C r)) else none) ∧ ∀ r, 84 ≤ r → τ r = ρ r
theorem HH.at {g : GW} {ad : AD} {Lv : Nat → Bool} {C : ME} {ρ τ : RH} (h : HH g ad Lv C ρ τ) {r : Nat} (hr : r < 84) (hl : Lv r = true) : τ r = some (ob g ad r (C r)) := by rw [h.1 r hr, if_pos hl]
theorem HH.no {g : GW} {ad : AD} {Lv : Nat → Bool} {C : ME} {ρ τ : RH} (h : HH g ad Lv C ρ τ) {r : Nat} (hr : r < 84) (hl : Lv r = false) : τ r = none := by rw [h.1 r hr, if_neg (by rw [hl]; decide)]
theorem HH.set {g : GW} {ad : AD} {Lv : Nat → Bool} {C : ME} {ρ τ : RH} (h : HH g ad Lv C ρ τ) {r : Nat} {w : Nat → Int32} {e : va_E} (hr : r < 84) (hl : Lv r = true) (he : e = ob g ad r w) : HH g ad Lv (va_up C r w) ρ (va_up τ r (some e)) := by
  refine ⟨fun r' h' => ?_, fun r' h' => ?_⟩
  · by_cases hx : r' = r
    · subst hx; rw [va_up_self, va_up_self, if_pos hl, he]
    · rw [va_up_ne _ _ hx, va_up_ne _ _ hx]; exact h.1 r' h'
  · rw [va_up_ne _ _ (by omega)]; exact h.2 r' h'
theorem HH.put {g : GW} {ad : AD} {Lv : Nat → Bool} {C : ME} {ρ τ : RH} (h : HH g ad Lv C ρ τ) {r : Nat} (k : Nat) (x : Int32) {e : va_E} (hr : r < 84) (hl : Lv r = true) (he : e = ob g ad r (va_up (C r) k x)) : HH g ad Lv (up2 C r k x) ρ (va_up τ r (some e)) := h.set hr hl he
theorem HH.push {g : GW} {ad ad' : AD} {Lv : Nat → Bool} {C : ME} {ρ τ : RH} (h : HH g ad Lv C ρ τ) {r : Nat} {w : Nat → Int32} {e : va_E} (hr : r < 84) (hob : ∀ x, x < 84 → Lv x = true → x ≠ r → ob g ad' x (C x) = ob g ad x (C x)) (he : e = ob g ad' r w) : HH g ad' (va_up Lv r true) (va_up C r w) ρ (va_up τ r (some e)) := by
  refine ⟨fun r' h' => ?_, fun r' h' => ?_⟩
  · by_cases hx : r' = r
    · subst hx; rw [va_up_self, va_up_self, va_up_self, if_pos rfl, he]
    · rw [va_up_ne _ _ hx, va_up_ne _ _ hx, va_up_ne _ _ hx, h.1 r' h']
      by_cases hl : Lv r' = true
      · rw [if_pos hl, if_pos hl, hob r' h' hl hx]
      · rw [if_neg hl, if_neg hl]
  · rw [va_up_ne _ _ (by omega)]; exact h.2 r' h'
theorem ob_beam {g : GW} {ad : AD} {b : Nat} {w : Nat → Int32} (hb : b < 2) : ob g ad (10 + 10 * b) w = beO ad (10 + 10 * b) w := by
  rcases (show b = 0 ∨ b = 1 by omega) with rfl | rfl <;> rfl
theorem ob_queue {g : GW} {ad : AD} {b : Nat} {w : Nat → Int32} (hb : b < 2) : ob g ad (11 + 10 * b) w = lisO g ad (11 + 10 * b) w := by
  rcases (show b = 0 ∨ b = 1 by omega) with rfl | rfl <;> rfl
theorem ob_qrow {g : GW} {ad : AD} {b : Nat} {w : Nat → Int32} (hb : b < 2) : ob g ad (12 + 10 * b) w = rowO g ad (fun i => 40 + i) w := by
  rcases (show b = 0 ∨ b = 1 by omega) with rfl | rfl <;> rfl
theorem ob_kept {g : GW} {ad : AD} {b : Nat} {w : Nat → Int32} (hb : b < 2) : ob g ad (13 + 10 * b) w = caO ad (13 + 10 * b) w := by
  rcases (show b = 0 ∨ b = 1 by omega) with rfl | rfl <;> rfl
theorem ob_keptL {g : GW} {ad : AD} {b : Nat} {w : Nat → Int32} (hb : b < 2) : ob g ad (14 + 10 * b) w = arI g 8 w := by
  rcases (show b = 0 ∨ b = 1 by omega) with rfl | rfl <;> rfl
theorem ob_anew {g : GW} {ad : AD} {b : Nat} {w : Nat → Int32} (hb : b < 2) : ob g ad (15 + 10 * b) w = caO ad (15 + 10 * b) w := by
  rcases (show b = 0 ∨ b = 1 by omega) with rfl | rfl <;> rfl
theorem ob_anewL {g : GW} {ad : AD} {b : Nat} {w : Nat → Int32} (hb : b < 2) : ob g ad (16 + 10 * b) w = arI g 8 w := by
  rcases (show b = 0 ∨ b = 1 by omega) with rfl | rfl <;> rfl
theorem ob_kinds {g : GW} {ad : AD} {b : Nat} {w : Nat → Int32} (hb : b < 2) : ob g ad (17 + 10 * b) w = arC g 200 w := by
  rcases (show b = 0 ∨ b = 1 by omega) with rfl | rfl <;> rfl
theorem ob_prop {g : GW} {ad : AD} {j : Nat} {w : Nat → Int32} (hj : j < 8) : ob g ad (40 + j) w = ppO ad w := by
  rcases (show j = 0 ∨ j = 1 ∨ j = 2 ∨ j = 3 ∨ j = 4 ∨ j = 5 ∨ j = 6 ∨ j = 7 by omega) with rfl | rfl | rfl | rfl | rfl | rfl | rfl | rfl <;> rfl
/-! what the class keeps of its numbers -/
def cNb (C : ME) : Nat := tn (C 1 2)
def cNp (C : ME) : Nat := tn (C 3 2)
def cNq (C : ME) (b : Nat) : Nat := tn (C (11 + 10 * b) 2)
/-- a list's numbers: its size n, its flag, its row's life -/
def cLis (Lv : Nat → Bool) (C : ME) (r n : Nat) : Prop := C r 2 = nI n ∧ C r 1 = (if n = 0 then 0 else 1) ∧ Lv r = true ∧ Lv (r + 1) = decide (0 < n) ∧ ∀ k, n ≤ k → 0 < n → C (r + 1) k = -1
def cLin (Lv : Nat → Bool) (C : ME) (b : Nat) : Prop :=
  Lv (10 + 10 * b) = true ∧ Lv (13 + 10 * b) = true ∧ Lv (14 + 10 * b) = true ∧ Lv (15 + 10 * b) = true ∧ Lv (16 + 10 * b) = true ∧ Lv (17 + 10 * b) = true ∧
  cNq C b ≤ 8 ∧ cLis Lv C (11 + 10 * b) (cNq C b) ∧ C (13 + 10 * b) 1 = nI (cNq C b) ∧ (∃ na, na ≤ 8 ∧ C (15 + 10 * b) 1 = nI na) ∧ (∃ ps, ps ≤ 200 ∧ C (10 + 10 * b) 6 = nI ps) ∧ ∀ k, k < cNq C b → ∃ q, q < cNp C ∧ C (12 + 10 * b) k = nI q
def cI (Lv : Nat → Bool) (C : ME) : Prop :=
  cNb C ≤ 2 ∧ cNp C ≤ 8 ∧ Lv 0 = true ∧ Lv 5 = true ∧ Lv 6 = true ∧ cLis Lv C 1 (cNb C) ∧ cLis Lv C 3 (cNp C) ∧ (∀ i, i < cNb C → C 2 i = nI i) ∧ (∀ j, j < cNp C → C 4 j = nI j) ∧
  (∀ b, b < cNb C → cLin Lv C b) ∧ (∀ b k, cNb C ≤ b → b < 2 → k < 8 → Lv (10 + 10 * b + k) = false) ∧ (∀ j, j < cNp C → Lv (40 + j) = true ∧ C (40 + j) 0 = nI j ∧ ∃ ln, ln < cNb C ∧ C (40 + j) 1 = nI ln) ∧ ∀ j, cNp C ≤ j → j < 8 → Lv (40 + j) = false
