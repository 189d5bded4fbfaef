/-! numbers and searches -/
def tn (x : Int32) : Nat := x.toNatClampNeg
theorem tn_nI {n : Nat} (h : n < 2 ^ 31) : tn (nI n) = n := nI_clamp h
theorem ix_lt {k : Int32} {N : Nat} (h0 : ¬ k < 0) (h1 : ¬ nI N ≤ k) (hN : N < 2 ^ 31) : k = nI (tn k) ∧ tn k < N := by
  rcases pk_ix k hN with h | h | ⟨j, hj, rfl⟩
  · exact absurd h h0
  · exact absurd h h1
  · rw [tn_nI (Nat.lt_trans hj hN)]; exact ⟨rfl, hj⟩
theorem ix_lt' {k : Int32} {N : Nat} (h0 : ¬ k < 0) (h1 : k < nI N) (hN : N < 2 ^ 31) : k = nI (tn k) ∧ tn k < N := ix_lt h0 (fun h => by
  rw [Int32.lt_iff_toInt_lt] at h1
  rw [Int32.le_iff_toInt_le] at h
  omega) hN
/-- the first i from i0 on, of f many, with p -/
def fsti (p : Nat → Bool) : Nat → Nat → Option Nat
  | 0, _ => none
  | f + 1, i => if p i then some i else fsti p f (i + 1)
/-- the last below n with p -/
def lsti (p : Nat → Bool) : Nat → Option Nat
  | 0 => none
  | i + 1 => if p i then some i else lsti p i
def oI : Option Nat → Int32
  | none => -1
  | some i => nI i
theorem fsti_some {p : Nat → Bool} : ∀ {f i j : Nat}, fsti p f i = some j → i ≤ j ∧ j < i + f ∧ p j = true ∧ ∀ k, i ≤ k → k < j → p k = false
  | 0, _, _, h => by cases h
  | f + 1, i, j, h => by
    unfold fsti at h
    by_cases hp : p i = true
    · rw [if_pos hp] at h; cases h; exact ⟨Nat.le_refl _, by omega, hp, fun k h1 h2 => by omega⟩
    · rw [if_neg hp] at h
      obtain ⟨h1, h2, h3, h4⟩ := fsti_some h
      refine ⟨by omega, by omega, h3, fun k h5 h6 => ?_⟩
      by_cases hk : k = i
      · subst hk; simpa using hp
      · exact h4 k (by omega) h6
theorem fsti_none {p : Nat → Bool} : ∀ {f i : Nat}, fsti p f i = none → ∀ k, i ≤ k → k < i + f → p k = false
  | 0, _, _, k, h1, h2 => by omega
  | f + 1, i, h, k, h1, h2 => by
    unfold fsti at h
    by_cases hp : p i = true
    · rw [if_pos hp] at h; cases h
    · rw [if_neg hp] at h
      by_cases hk : k = i
      · subst hk; simpa using hp
      · exact fsti_none h k (by omega) (by omega)
theorem fsti_cong {p q : Nat → Bool} : ∀ {f i : Nat}, (∀ k, i ≤ k → k < i + f → p k = q k) → fsti p f i = fsti q f i
  | 0, _, _ => rfl
  | f + 1, i, h => by
    unfold fsti
    rw [h i (Nat.le_refl _) (by omega), fsti_cong (fun k h1 h2 => h k (by omega) (by omega))]
theorem lsti_some {p : Nat → Bool} : ∀ {n j : Nat}, lsti p n = some j → j < n ∧ p j = true ∧ ∀ k, j < k → k < n → p k = false
  | 0, _, h => by cases h
  | n + 1, j, h => by
    unfold lsti at h
    by_cases hp : p n = true
    · rw [if_pos hp] at h; cases h; exact ⟨by omega, hp, fun k h1 h2 => by omega⟩
    · rw [if_neg hp] at h
      obtain ⟨h1, h2, h3⟩ := lsti_some h
      refine ⟨by omega, h2, fun k h5 h6 => ?_⟩
      by_cases hk : k = n
      · subst hk; simpa using hp
      · exact h3 k h5 (by omega)
theorem lsti_none {p : Nat → Bool} : ∀ {n : Nat}, lsti p n = none → ∀ k, k < n → p k = false
  | 0, _, k, h2 => by omega
  | n + 1, h, k, h2 => by
    unfold lsti at h
    by_cases hp : p n = true
    · rw [if_pos hp] at h; cases h
    · rw [if_neg hp] at h
      by_cases hk : k = n
      · subst hk; simpa using hp
      · exact lsti_none h k (by omega)
theorem lsti_cong {p q : Nat → Bool} : ∀ {n : Nat}, (∀ k, k < n → p k = q k) → lsti p n = lsti q n
  | 0, _ => rfl
  | n + 1, h => by
    unfold lsti
    rw [h n (by omega), lsti_cong (fun k h1 => h k (by omega))]
/-- a sum of f over i0 ≤ k < i0 + n, from the left, onto x -/
def sumf (f : Nat → Int32) : Nat → Nat → Int32 → Int32
  | 0, _, x => x
  | n + 1, i, x => sumf f n (i + 1) (x + f i)
theorem sumf_cong {f h : Nat → Int32} : ∀ {n i : Nat} {x : Int32}, (∀ k, i ≤ k → k < i + n → f k = h k) → sumf f n i x = sumf h n i x
  | 0, _, _, _ => rfl
  | n + 1, i, x, e => by
    unfold sumf
    rw [e i (Nat.le_refl _) (by omega), sumf_cong (fun k h1 h2 => e k (by omega) (by omega))]
theorem sumf_add (f : Nat → Int32) : ∀ (n i : Nat) (x y : Int32), sumf f n i (x + y) = x + sumf f n i y
  | 0, _, _, _ => rfl
  | n + 1, i, x, y => by
    unfold sumf
    rw [Int32.add_assoc, sumf_add f n (i + 1) x (y + f i)]
/-! calendars -/
abbrev calO (ad : AD) (la n : Nat) (rs : Int32) : va_E := .inr (4, [.ref (ad la), .int (nI n), .int rs])
abbrev arI (g : GW) (n : Nat) (f : Nat → Int32) : va_E := .inl (g.2.1 1, n, .inl f)
abbrev arZ (g : GW) (n : Nat) (f : Nat → Int32) : va_E := .inl (g.2.1 2, n, .inl f)
abbrev arC (g : GW) (n : Nat) (f : Nat → Int32) : va_E := .inl (g.2.1 0, n, .inl f)
abbrev arQ (g : GW) (n : Nat) (f : Nat → Option Nat) : va_E := .inl (g.2.1 3, n, .inr (.inr (.inr (.inr f))))
def kAt (n : Nat) (lf : Nat → Int32) (k : Int32) : Int32 := if k < 0 ∨ nI n ≤ k then 0 else lf (tn k)
def kPos (lf : Nat → Int32) : Nat → Bool := fun i => decide (0 < lf i)
def kFst (n : Nat) (lf : Nat → Int32) : Option Nat := fsti (kPos lf) n 0
def kLst (n : Nat) (lf : Nat → Int32) : Option Nat := lsti (kPos lf) n
/-- what takeFrom(k) leaves -/
def kTake (lf : Nat → Int32) (k : Int32) : Nat → Int32 := if k < 0 ∨ nI 8 ≤ k then lf else if 0 < lf (tn k) then va_up lf (tn k) (lf (tn k) - 1) else lf
def kAhead (n : Nat) (lf : Nat → Int32) (k : Int32) : Int32 := sumf (fun i => lf i) (if k < 0 then 0 else if tn k < n then tn k else n) 0 0
/-- follow(kind): the row, the reserve, the answer -/
def kFollow (n : Nat) (lf : Nat → Int32) (rs : Int32) (kd : Int32) : (Nat → Int32) × Int32 × Int32 :=
  if kd = 100 ∨ kd = 109 then (kTake lf (oI (kFst n lf)), rs, -1)
  else if kd = 108 then (if 0 < rs then (lf, rs - 1, -1) else (kTake lf (oI (kLst n lf)), rs, oI (kLst n lf)))
  else (lf, rs, -1)
def kAllot (n : Nat) (lf : Nat → Int32) (rs w : Int32) : Nat × (Nat → Int32) × Int32 × Int32 :=
  if rs < w ∨ 8 ≤ n then (n, lf, rs, -1) else (n + 1, va_up lf n w, rs - w, nI n)
theorem up_self {α : Type} (f : Nat → α) (k : Nat) : va_up f k (f k) = f := by
  funext j
  by_cases h : j = k
  · subst h; rw [va_up_self]
  · rw [va_up_ne _ _ h]
theorem up_some {τ : RH} {r : Nat} {e : va_E} (h : τ r = some e) : va_up τ r (some e) = τ := by rw [← h]; exact up_self τ r
theorem r_ne {τ : RH} {r r' : Nat} {e e' : va_E} (h : τ r = some e) (h' : τ r' = some e') (hn : e ≠ e') : r ≠ r' := fun q => hn (by rw [q] at h; exact Option.some.inj (h.symm.trans h'))
