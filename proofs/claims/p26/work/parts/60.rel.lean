/-! THE RELATION: A holds the class's numbers (rows below 60), B the model's (rows from 60 on); T b: how many shifts line b has seen -/
theorem rpA_cong {w w' : Nat → Int32} : ∀ {f i : Nat} {q : K3}, (∀ k, i ≤ k → k < i + f → w k = w' k) → rpA w f i q = rpA w' f i q
  | 0, _, _, _ => rfl
  | f + 1, i, q, h => by
    unfold rpA
    rw [h i (Nat.le_refl _) (by omega)]
    exact rpA_cong (fun k h1 h2 => h k (by omega) (by omega))
theorem rpF_cong {w w' : Nat → Int32} : ∀ {f i : Nat} {q : K3}, (∀ k, i ≤ k → k < i + f → w k = w' k) → rpF w f i q = rpF w' f i q
  | 0, _, _, _ => rfl
  | f + 1, i, q, h => by
    unfold rpF
    rw [h i (Nat.le_refl _) (by omega)]
    exact rpF_cong (fun k h1 h2 => h k (by omega) (by omega))
/-- two calendars that look alike -/
def ag3 (q q' : K3) : Prop := q.1 = q'.1 ∧ q.2.2 = q'.2.2 ∧ ∀ k, k < q.1 → q.2.1 k = q'.2.1 k
theorem ag3.refl (q : K3) : ag3 q q := ⟨rfl, rfl, fun _ _ => rfl⟩
theorem ag3.symm {q q' : K3} (h : ag3 q q') : ag3 q' q := ⟨h.1.symm, h.2.1.symm, fun k hk => (h.2.2 k (by rw [h.1]; exact hk)).symm⟩
theorem ag3.trans {q q' q2 : K3} (h : ag3 q q') (h2 : ag3 q' q2) : ag3 q q2 := ⟨h.1.trans h2.1, h.2.1.trans h2.2.1, fun k hk => (h.2.2 k hk).trans (h2.2.2 k (by rw [← h.1]; exact hk))⟩
theorem ag3.al {q q' : K3} (h : ag3 q q') (w : Int32) : ag3 (kAl q w) (kAl q' w) := by
  obtain ⟨n, f, rs⟩ := q
  obtain ⟨n', f', rs'⟩ := q'
  obtain ⟨h1, h2, h3⟩ := h
  dsimp only at h1 h2 h3
  subst h1; subst h2
  unfold kAl kAllot
  dsimp only
  by_cases hc : rs < w ∨ 8 ≤ n
  · rw [if_pos hc, if_pos hc]; exact ⟨rfl, rfl, h3⟩
  · rw [if_neg hc, if_neg hc]
    refine ⟨rfl, rfl, fun k hk => ?_⟩
    dsimp only at hk ⊢
    by_cases hkn : k = n
    · subst hkn; rw [va_up_self, va_up_self]
    · rw [va_up_ne _ _ hkn, va_up_ne _ _ hkn]; exact h3 k (by omega)
theorem kTake_ag {n : Nat} {f f' : Nat → Int32} (h : ∀ k, k < n → f k = f' k) (hn : n ≤ 8) {o : Option Nat} (ho : ∀ i, o = some i → i < n) : ∀ k, k < n → kTake f (oI o) k = kTake f' (oI o) k := by
  intro k hk
  rcases o with _ | i
  · rw [show oI none = (-1 : Int32) from rfl, kTake_out (Or.inl (by decide)), kTake_out (Or.inl (by decide))]; exact h k hk
  · have hi := ho i rfl
    have e : oI (some i) = nI i := rfl
    have h0 : ¬ nI i < 0 := nI_pos (by omega)
    have h1 : ¬ nI 8 ≤ nI i := fun q => by have := le_nI q (by omega) (by decide); omega
    have ht : tn (nI i) = i := tn_nI (by omega)
    rw [e]
    by_cases hp : 0 < f i
    · rw [kTake_in h0 h1 (by rw [ht]; exact hp), kTake_in h0 h1 (by rw [ht, ← h i hi]; exact hp), ht]
      by_cases hki : k = i
      · subst hki; rw [va_up_self, va_up_self, h k hk]
      · rw [va_up_ne _ _ hki, va_up_ne _ _ hki]; exact h k hk
    · rw [kTake_no h0 h1 (by rw [ht]; exact hp), kTake_no h0 h1 (by rw [ht, ← h i hi]; exact hp)]; exact h k hk
theorem kFst_lt {n : Nat} {f : Nat → Int32} {i : Nat} (h : kFst n f = some i) : i < n := by have := (fsti_some h).2.1; omega
theorem kLst_lt {n : Nat} {f : Nat → Int32} {i : Nat} (h : kLst n f = some i) : i < n := (lsti_some h).1
theorem kFst_ag {n : Nat} {f f' : Nat → Int32} (h : ∀ k, k < n → f k = f' k) : kFst n f = kFst n f' := fsti_cong (fun k _ hk => by unfold kPos; rw [h k (by omega)])
theorem kLst_ag {n : Nat} {f f' : Nat → Int32} (h : ∀ k, k < n → f k = f' k) : kLst n f = kLst n f' := lsti_cong (fun k hk => by unfold kPos; rw [h k hk])
theorem ag3.fo {q q' : K3} (h : ag3 q q') (hn : q.1 ≤ 8) (kd : Int32) : ag3 (kFo q kd) (kFo q' kd) := by
  obtain ⟨n, f, rs⟩ := q
  obtain ⟨n', f', rs'⟩ := q'
  obtain ⟨h1, h2, h3⟩ := h
  dsimp only at h1 h2 h3 hn
  subst h1; subst h2
  have e1 := kFst_ag h3
  have e2 := kLst_ag h3
  unfold kFo kFollow
  dsimp only
  rw [← e1, ← e2]
  by_cases hc : kd = 100 ∨ kd = 109
  · rw [if_pos hc, if_pos hc]
    exact ⟨rfl, rfl, kTake_ag h3 hn (fun i hi => kFst_lt hi)⟩
  · rw [if_neg hc, if_neg hc]
    by_cases hl : kd = 108
    · rw [if_pos hl, if_pos hl]
      by_cases hr : 0 < rs
      · rw [if_pos hr, if_pos hr]; exact ⟨rfl, rfl, h3⟩
      · rw [if_neg hr, if_neg hr]
        exact ⟨rfl, rfl, kTake_ag h3 hn (fun i hi => kLst_lt hi)⟩
    · rw [if_neg hl, if_neg hl]; exact ⟨rfl, rfl, h3⟩
theorem rpA_ag {w : Nat → Int32} : ∀ {f i : Nat} {q q' : K3}, ag3 q q' → ag3 (rpA w f i q) (rpA w f i q')
  | 0, _, _, _, h => h
  | f + 1, i, q, q', h => rpA_ag (f := f) (h.al (w i))
theorem rpF_ag {w : Nat → Int32} : ∀ {f i : Nat} {q q' : K3}, ag3 q q' → q.1 ≤ 8 → ag3 (rpF w f i q) (rpF w f i q')
  | 0, _, _, _, h, _ => h
  | f + 1, i, q, q', h, hn => rpF_ag (f := f) (h.fo hn (w i)) hn
/-- one more at the end -/
theorem rpA_snoc {w : Nat → Int32} : ∀ {f i : Nat} {q : K3}, rpA w (f + 1) i q = kAl (rpA w f i q) (w (i + f))
  | 0, _, _ => rfl
  | f + 1, i, q => by
    have h := rpA_snoc (w := w) (f := f) (i := i + 1) (q := kAl q (w i))
    rw [show i + (f + 1) = i + 1 + f by omega]
    exact h
theorem rpF_snoc {w : Nat → Int32} : ∀ {f i : Nat} {q : K3}, rpF w (f + 1) i q = kFo (rpF w f i q) (w (i + f))
  | 0, _, _ => rfl
  | f + 1, i, q => by
    have h := rpF_snoc (w := w) (f := f) (i := i + 1) (q := kFo q (w i))
    rw [show i + (f + 1) = i + 1 + f by omega]
    exact h
def rN (A B : ME) : Prop := cNb A = mNb B ∧ cNp A = mNp B
def rU (A B : ME) : Prop := (∀ i, i < 10 → B 82 i = A 5 i ∧ B 83 i = A 6 i) ∧ (∀ i, A 5 i = 0 ∨ A 5 i = 1) ∧ (∀ i, A 6 i = 0 ∨ A 6 i = 1) ∧ B 60 4 = cTrained (A 5)
/-- a line's plain numbers -/
def rL1 (A B : ME) (b : Nat) : Prop := B 61 b = A (10 + 10 * b) 0 ∧ B 62 b = A (10 + 10 * b) 1 ∧ B 63 b = A (10 + 10 * b) 7 ∧ B 64 b = A (10 + 10 * b) 8 ∧ B 68 b = A (10 + 10 * b) 9 ∧ B 69 b = A (10 + 10 * b) 10
def rL2 (A : ME) (b : Nat) : Prop := ∃ us rm rt : Nat, A (10 + 10 * b) 8 = nI us ∧ A (10 + 10 * b) 1 = nI rm ∧ A (10 + 10 * b) 7 = nI rt ∧ us ≤ rm ∧ rm ≤ 999 ∧ rt ≤ 99
/-- its panel -/
def rL3 (A B : ME) (b : Nat) : Prop := (A (10 + 10 * b) 9 = 0 → cNq A b = 0 ∧ A (10 + 10 * b) 6 = 0 ∧ A (13 + 10 * b) 2 = A (10 + 10 * b) 0) ∧ (¬ A (10 + 10 * b) 9 = 0 → B 65 b = A (13 + 10 * b) 2)
/-- its queue -/
def rL4 (A B : ME) (b : Nat) : Prop := mNq B b = cNq A b ∧ ∀ k, k < cNq A b → mQ B b k = A (12 + 10 * b) k ∧ mLf B b k = A (14 + 10 * b) k ∧ (∃ l : Nat, l ≤ 9 ∧ A (14 + 10 * b) k = nI l) ∧ A (40 + tn (A (12 + 10 * b) k)) 6 = nI k ∧ A (40 + tn (A (12 + 10 * b) k)) 1 = nI b
def rL5 (A : ME) (T : Nat → Nat) (b : Nat) : Prop := ∃ ps, A (10 + 10 * b) 6 = nI ps ∧ ps ≤ T b
/-- its replay is its calendar -/
def rL6 (A : ME) (b : Nat) : Prop := ag3 (cReplay A b) (cNq A b, A (14 + 10 * b), A (13 + 10 * b) 2)
def rLn (A B : ME) (T : Nat → Nat) (b : Nat) : Prop := rL1 A B b ∧ rL2 A b ∧ rL3 A B b ∧ rL4 A B b ∧ rL5 A T b ∧ rL6 A b
/-- a proposal's plain numbers -/
def rP1 (A B : ME) (j : Nat) : Prop := B 70 j = A (40 + j) 1 ∧ B 71 j = A (40 + j) 2 ∧ B 72 j = A (40 + j) 3 ∧ B 73 j = A (40 + j) 4 ∧ B 74 j = A (40 + j) 5
def rP2 (A : ME) (j : Nat) : Prop := ∃ us sc w d : Nat, A (40 + j) 2 = nI us ∧ us < 10 ∧ A (40 + j) 3 = nI sc ∧ sc ≤ 100 ∧ A (40 + j) 4 = nI w ∧ 1 ≤ w ∧ w ≤ 9 ∧ A (40 + j) 5 = nI d ∧ d ≤ 99
/-- its counts -/
def rP3 (A B : ME) (j : Nat) : Prop := B 76 j = A (40 + j) 9 ∧ B 77 j = A (40 + j) 10 ∧ B 78 j = A (40 + j) 11 ∧ B 79 j = A (40 + j) 12
def rP4 (A : ME) (T : Nat → Nat) (j : Nat) : Prop := ∃ dn ms lo ow : Nat, A (40 + j) 9 = nI dn ∧ A (40 + j) 10 = nI ms ∧ A (40 + j) 11 = nI lo ∧ A (40 + j) 12 = nI ow ∧ dn + ms + lo ≤ T (tn (A (40 + j) 1)) ∧ ow ≤ T (tn (A (40 + j) 1))
/-- its sample -/
def rP5 (A B : ME) (j : Nat) : Prop := (A (40 + j) 7 = -1 ∧ A (40 + j) 8 = 114 ∧ B 81 j = 110) ∨ (B 80 j = A (40 + j) 7 ∧ B 81 j = A (40 + j) 8 ∧ (∃ l : Nat, l ≤ 50 ∧ A (40 + j) 7 = nI l) ∧ (A (40 + j) 8 = 114 ∨ A (40 + j) 8 = 99 ∨ A (40 + j) 8 = 98))
/-- its place -/
def rP6 (A B : ME) (j : Nat) : Prop := (A (40 + j) 6 = -1 ∧ B 75 j = 0 ∧ ∀ b k, b < cNb A → k < cNq A b → ¬ A (12 + 10 * b) k = nI j) ∨ ∃ k, A (40 + j) 6 = nI k ∧ k < cNq A (tn (A (40 + j) 1)) ∧ A (12 + 10 * tn (A (40 + j) 1)) k = nI j
def rPj (A B : ME) (T : Nat → Nat) (j : Nat) : Prop := rP1 A B j ∧ rP2 A j ∧ rP3 A B j ∧ rP4 A T j ∧ rP5 A B j ∧ rP6 A B j
/-- what the model has beyond its counts -/
def rZ (B : ME) : Prop := (∀ b, mNb B ≤ b → b < 2 → B 63 b = 0 ∧ B 64 b = 0 ∧ B 68 b = 0 ∧ B 69 b = 0 ∧ B 66 b = 0) ∧ ∀ j, mNp B ≤ j → j < 8 → B 75 j = 0 ∧ B 76 j = 0 ∧ B 77 j = 0 ∧ B 78 j = 0 ∧ B 79 j = 0 ∧ B 81 j = 110
def RelT (A B : ME) (T : Nat → Nat) : Prop := rN A B ∧ rU A B ∧ (∀ b, b < cNb A → rLn A B T b) ∧ (∀ j, j < cNp A → rPj A B T j) ∧ rZ B
def Rel (A B : ME) : Prop := ∃ t : Nat, t ≤ 200 ∧ A 0 4 = nI t ∧ B 60 3 = nI t ∧ RelT A B (fun _ => t)
/-! agreement -/
/-- A' is A in all that line b rests on -/
def aL (A A' : ME) (b : Nat) : Prop := (∀ r k, 10 + 10 * b ≤ r → r < 18 + 10 * b → r ≠ 15 + 10 * b → r ≠ 16 + 10 * b → A' r k = A r k) ∧ ∀ j, j < 8 → A' (40 + j) 1 = A (40 + j) 1 ∧ A' (40 + j) 4 = A (40 + j) 4 ∧ A' (40 + j) 6 = A (40 + j) 6
def aB (B B' : ME) (b : Nat) : Prop := (∀ r, 61 ≤ r → r < 67 → B' r b = B r b) ∧ B' 68 b = B 68 b ∧ B' 69 b = B 69 b ∧ (∀ k, B' 67 k = B 67 k) ∧ ∀ k, B' 75 k = B 75 k
theorem aL.row {A A' : ME} {b r : Nat} (h : aL A A' b) (h1 : 10 + 10 * b ≤ r) (h2 : r < 18 + 10 * b) (h3 : r ≠ 15 + 10 * b) (h4 : r ≠ 16 + 10 * b) : A' r = A r := funext fun k => h.1 r k h1 h2 h3 h4
theorem aL.nq {A A' : ME} {b : Nat} (h : aL A A' b) : cNq A' b = cNq A b := by unfold cNq; rw [h.row (by omega) (by omega) (by omega) (by omega)]
theorem aL.replay {Lv : Nat → Bool} {A A' : ME} {b : Nat} (h : aL A A' b) (hI : cI Lv A) (hb : b < cNb A) : ag3 (cReplay A' b) (cReplay A b) := by
  obtain ⟨hL, hb2⟩ := cI_lin hI hb
  obtain ⟨-, -, -, -, -, -, h8, -, -, -, -, hq⟩ := hL
  have hn8 := hI.2.1
  have e1 : ag3 (cAll A' b) (cAll A b) := by
    unfold cAll
    rw [h.nq, h.1 (10 + 10 * b) 0 (by omega) (by omega) (by omega) (by omega), h.row (r := 12 + 10 * b) (by omega) (by omega) (by omega) (by omega)]
    rw [rpA_cong (w := fun i => A' (40 + tn (A (12 + 10 * b) i)) 4) (w' := fun i => A (40 + tn (A (12 + 10 * b) i)) 4) (fun k _ hk => by
      obtain ⟨q, h1, h2⟩ := hq k (by omega)
      have ht : tn (A (12 + 10 * b) k) < 8 := by rw [h2, tn_nI (by omega)]; omega
      exact (h.2 _ ht).2.1)]
    exact rpA_ag ⟨rfl, rfl, fun k hk => absurd hk (Nat.not_lt_zero k)⟩
  unfold cReplay
  rw [h.row (r := 17 + 10 * b) (by omega) (by omega) (by omega) (by omega), h.1 (10 + 10 * b) 6 (by omega) (by omega) (by omega) (by omega)]
  refine rpF_ag e1 ?_
  unfold cAll
  exact rpA_8 (Nat.zero_le _)
theorem rLn.cong {Lv : Nat → Bool} {A A' B B' : ME} {T : Nat → Nat} {b : Nat} (hI : cI Lv A) (hb : b < cNb A) (hA : aL A A' b) (hB : aB B B' b) (h : rLn A B T b) : rLn A' B' T b := by
  obtain ⟨hL, hb2⟩ := cI_lin hI hb
  obtain ⟨-, -, -, -, -, -, h8, -, -, -, -, hq⟩ := hL
  have hn8 := hI.2.1
  obtain ⟨p1, p2, p3, p4, p5, p6⟩ := h
  have r10 := hA.row (r := 10 + 10 * b) (by omega) (by omega) (by omega) (by omega)
  have r12 := hA.row (r := 12 + 10 * b) (by omega) (by omega) (by omega) (by omega)
  have r13 := hA.row (r := 13 + 10 * b) (by omega) (by omega) (by omega) (by omega)
  have r14 := hA.row (r := 14 + 10 * b) (by omega) (by omega) (by omega) (by omega)
  obtain ⟨q1, q2, q3, q4, q5⟩ := hB
  refine ⟨?_, ?_, ?_, ?_, ?_, ?_⟩
  · unfold rL1 at *
    rw [r10, q1 61 (by decide) (by decide), q1 62 (by decide) (by decide), q1 63 (by decide) (by decide), q1 64 (by decide) (by decide), q2, q3]
    exact p1
  · unfold rL2 at *; rw [r10]; exact p2
  · unfold rL3 at *; rw [r10, r13, hA.nq, q1 65 (by decide) (by decide)]; exact p3
  · unfold rL4 at *
    rw [hA.nq, r12, r14]
    refine ⟨?_, fun k hk => ?_⟩
    · unfold mNq; rw [q1 66 (by decide) (by decide)]; exact p4.1
    · obtain ⟨a1, a2, a3, a4, a5⟩ := p4.2 k hk
      obtain ⟨q, h1, h2⟩ := hq k hk
      have ht : tn (A (12 + 10 * b) k) < 8 := by rw [h2, tn_nI (by omega)]; omega
      refine ⟨?_, ?_, a3, ?_, ?_⟩
      · unfold mQ at *; rw [q4]; exact a1
      · unfold mLf mQ at *; rw [q4, q5]; exact a2
      · rw [(hA.2 _ ht).2.2]; exact a4
      · rw [(hA.2 _ ht).1]; exact a5
  · unfold rL5 at *; rw [r10]; exact p5
  · unfold rL6 at *; rw [hA.nq, r14, r13]; exact (hA.replay hI hb).trans p6
