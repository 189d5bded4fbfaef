/-! THE MODEL -/
def mL (Lv : Nat → Bool) : Prop := ∀ r, 60 ≤ r → r < 84 → Lv r = true
def mNb (C : ME) : Nat := tn (C 60 1)
def mNp (C : ME) : Nat := tn (C 60 2)
def mNq (C : ME) (b : Nat) : Nat := tn (C 66 b)
/-- what keeps the model inside its rows -/
def mI (C : ME) : Prop := C 60 1 = nI (mNb C) ∧ mNb C ≤ 2 ∧ C 60 2 = nI (mNp C) ∧ mNp C ≤ 8 ∧ (∀ b, b < 2 → C 66 b = nI (mNq C b) ∧ mNq C b ≤ 8 ∧ ∀ k, k < mNq C b → ∃ q, q < mNp C ∧ C 67 (8 * b + k) = nI q) ∧ ∀ p, p < mNp C → (∃ ln, ln < mNb C ∧ C 70 p = nI ln) ∧ ∃ u, u < 10 ∧ C 71 p = nI u
/-- a number below n -/
abbrev okm (n : Nat) (b : Int32) : Prop := ¬ b < 0 ∧ ¬ nI n ≤ b
theorem okm_ix {n : Nat} {b : Int32} (h : okm n b) (hn : n < 2 ^ 31) : b = nI (tn b) ∧ tn b < n := ix_lt h.1 h.2 hn
theorem win_ok {n : Nat} {b : Int32} (hn : n ≤ 100) : win b 0 (nI n - 1) ↔ okm n b := by
  have h1 : (nI n - 1).toInt = (n : Int) - 1 := by
    rcases n with _ | n
    · rfl
    · rw [nI_pred, nI_toInt (by omega)]; omega
  constructor
  · intro h
    refine ⟨fun q => lt_ge q h.1, fun q => ?_⟩
    have h2 := h.2
    rw [Int32.le_iff_toInt_le, h1] at h2
    rw [Int32.le_iff_toInt_le, nI_toInt (by omega)] at q
    omega
  · intro h
    refine ⟨ge_lt h.1, ?_⟩
    have h2 := le_gt h.2
    rw [Int32.lt_iff_toInt_lt, nI_toInt (by omega)] at h2
    rw [Int32.le_iff_toInt_le, h1]
    omega
theorem wk_iff {w : Int32} {p q : Prop} (h : (w = 1 ∧ p) ∨ (w = 0 ∧ ¬ p)) (e : p ↔ q) : (w = 1 ∧ q) ∨ (w = 0 ∧ ¬ q) := by rwa [e] at h
theorem w_if {w : Int32} {p : Prop} (h : (w = 1 ∧ p) ∨ (w = 0 ∧ ¬ p)) : (w = 0 → ¬ p) ∧ (¬ w = 0 → p) := by
  rcases h with ⟨rfl, h⟩ | ⟨rfl, h⟩
  · exact ⟨fun q => absurd q (by decide), fun _ => h⟩
  · exact ⟨fun _ => h, fun q => absurd rfl q⟩
def jBeam (C : ME) (s m : Int32) : Int32 := if win s 3 40 ∧ win m 10 999 then (if C 60 1 = 2 then 2 else 0) else 1
def jRate (C : ME) (b u : Int32) : Int32 := if okm (mNb C) b then (if win u 0 99 then (0) else 2) else 1
def jPrp (C : ME) (b us sc w d : Int32) : Int32 := if okm (mNb C) b then (if okm 10 us ∧ win sc 0 100 ∧ win w 1 9 ∧ win d 0 99 then (if C 68 (tn b) = 0 then (if C 60 2 = 8 then 3 else 0) else 3) else 2) else 1
def jRes (C : ME) (b : Int32) : Int32 := if okm (mNb C) b then (if ¬ C 68 (tn b) = 0 then (0) else 2) else 1
def jTrain (C : ME) (u : Int32) : Int32 := if okm 10 u then (if C 82 (tn u) = 0 then (0) else 2) else 1
def jThere (u : Int32) : Int32 := if okm 10 u then (0) else 1
def jBring (C : ME) (p9 x : Int32) : Int32 := if okm (mNp C) p9 then (if win x 1 50 then (0) else 2) else 1
def jLife (C : ME) (p9 : Int32) : Int32 := if okm (mNp C) p9 then (if ¬ C 81 (tn p9) = 110 then (0) else 2) else 1
def jLine (C : ME) (b : Int32) : Int32 := if okm (mNb C) b then (0) else 1
def jProp (C : ME) (p9 : Int32) : Int32 := if okm (mNp C) p9 then (0) else 1
def jCount (C : ME) (j x : Int32) : Int32 := if okm (mNp C) j then (if x = 100 ∨ x = 109 ∨ x = 108 ∨ x = 111 then 0 else 2) else 1
def mCount (C : ME) (j : Nat) (x : Int32) : Int32 := if x = 100 then C 76 j else if x = 109 then C 77 j else if x = 108 then C 78 j else C 79 j
def mQ (C : ME) (b k : Nat) : Int32 := C 67 (8 * b + k)
def mLf (C : ME) (b : Nat) : Nat → Int32 := fun k => C 75 (tn (mQ C b k))
def mOn (C : ME) (b : Nat) : Int32 := match kFst (mNq C b) (mLf C b) with
  | none => -1
  | some k => mQ C b k
theorem q8 {b k : Nat} (hb : b < 2) (hk : k < 100) : 8 * nI b + nI k = nI (8 * b + k) := by
  rcases (show b = 0 ∨ b = 1 by omega) with rfl | rfl
  · rw [show (8 : Int32) * nI 0 = nI 0 from rfl, nI_add]
  · rw [show (8 : Int32) * nI 1 = nI 8 from rfl, nI_add]
theorem mQ_ix {C : ME} (hI : mI C) {b k : Nat} (hb : b < 2) (hk : k < mNq C b) : C 67 (8 * b + k) = nI (tn (mQ C b k)) ∧ tn (mQ C b k) < mNp C := by
  obtain ⟨q, h1, h2⟩ := (hI.2.2.2.2.1 b hb).2.2 k hk
  have h8 := hI.2.2.2.1
  unfold mQ
  rw [h2, tn_nI (by omega)]
  exact ⟨rfl, h1⟩
theorem mOn_n {C : ME} {b : Nat} (h : kFst (mNq C b) (mLf C b) = none) : mOn C b = -1 := by unfold mOn; rw [h]
theorem mOn_s {C : ME} (hI : mI C) {b k : Nat} (hb : b < 2) (h : kFst (mNq C b) (mLf C b) = some k) : mOn C b = nI (tn (mQ C b k)) ∧ tn (mQ C b k) < mNp C := by
  have hk := (fsti_some h).2.1
  have e : mOn C b = mQ C b k := by unfold mOn; rw [h]
  rw [e]
  exact mQ_ix hI hb (by omega)
def mWhyJ (C : ME) (b j : Nat) : Int32 := if ¬ C 69 b = 0 then 102 else if C 82 (tn (C 71 j)) = 0 then 116 else if C 83 (tn (C 71 j)) = 0 then 112 else if ¬ (C 81 j = 98 ∧ ¬ C 80 j = 0) then 115 else if C 62 b < C 64 b + C 74 j then 100 else 45
def mWhy (C : ME) (b : Nat) : Int32 := match kFst (mNq C b) (mLf C b) with
  | none => 113
  | some k => mWhyJ C b (tn (mQ C b k))
theorem mWhy_n {C : ME} {b : Nat} (h : kFst (mNq C b) (mLf C b) = none) : mWhy C b = 113 := by unfold mWhy; rw [h]
theorem mWhy_s {C : ME} {b k : Nat} (h : kFst (mNq C b) (mLf C b) = some k) : mWhy C b = mWhyJ C b (tn (mQ C b k)) := by unfold mWhy; rw [h]
theorem mU_ix {C : ME} (hI : mI C) {j : Nat} (hj : j < mNp C) : C 71 j = nI (tn (C 71 j)) ∧ tn (C 71 j) < 10 := by
  obtain ⟨-, u, h1, h2⟩ := hI.2.2.2.2.2 j hj
  rw [h2, tn_nI (by omega)]
  exact ⟨rfl, h1⟩
theorem mWhy_in (C : ME) (b : Nat) : mWhy C b ∈ ([113, 102, 116, 112, 115, 100, 45] : List Int32) := by
  unfold mWhy
  split
  · decide
  · unfold mWhyJ
    repeat' split
    all_goals decide
theorem mWhy_nar (C : ME) (b : Nat) : narrow .char (.int (mWhy C b)) = .int (mWhy C b) := by
  have h := mWhy_in C b
  revert h
  generalize mWhy C b = x
  intro h
  simp only [List.mem_cons, List.mem_nil_iff, or_false] at h
  rcases h with rfl | rfl | rfl | rfl | rfl | rfl | rfl <;> rfl
def jOn (C : ME) (b : Int32) : Int32 := if okm (mNb C) b then (if ¬ mOn C (tn b) = -1 then (0) else 2) else 1
def jFail (C : ME) (b : Int32) : Int32 := if okm (mNb C) b then (if C 69 (tn b) = 0 then (0) else 2) else 1
def isK (C : ME) (p : Nat) : Int32 := if C 81 p = 99 then 1 else 0
def mCold (C : ME) : Int32 := sumf (isK C) (mNp C) 0 0
def ouJ (C : ME) (u : Int32) (p : Nat) : Int32 := if C 71 p = u then C 79 p else 0
def mOwed (C : ME) (u : Int32) : Int32 := sumf (ouJ C u) (mNp C) 0 0
def jPut (C : ME) (p x : Int32) : Int32 := if okm (mNp C) p then (if x = 114 ∨ x = 99 ∨ x = 98 then (if ¬ C 81 (tn p) = 110 then (if x = 99 ∧ ¬ C 81 (tn p) = 99 ∧ mCold C = 3 then 4 else 0) else 3) else 2) else 1
theorem up2_com {C : ME} {r k r' k' : Nat} {x x' : Int32} (h : r ≠ r') : up2 (up2 C r k x) r' k' x' = up2 (up2 C r' k' x') r k x := by
  funext a c
  rw [up2_at, up2_at, up2_at, up2_at]
  by_cases h1 : a = r' ∧ c = k'
  · rw [if_pos h1, if_neg (fun q => h (q.1.symm.trans h1.1)), if_pos h1]
  · rw [if_neg h1]
    by_cases h2 : a = r ∧ c = k
    · rw [if_pos h2, if_pos h2]
    · rw [if_neg h2, if_neg h2, if_neg h1]
theorem ch_nar {x : Int32} (h : x = 114 ∨ x = 99 ∨ x = 98) : vp_nar .char x = x := by rcases h with rfl | rfl | rfl <;> decide +kernel
def mmF (C : ME) : Nat → Nat → Nat → Nat
  | 0, _, b => b
  | f + 1, u, b => mmF C f (u + 1) (if mOwed C (nI b) < mOwed C (nI u) then u else b)
def mBest (C : ME) : Nat := mmF C 9 1 0
def jMost (C : ME) : Int32 := if mOwed C (nI (mBest C)) = 0 then 1 else 0
def mGood (C : ME) : Int32 := sumf (fun p => C 76 p) (mNp C) 0 0
def mAllD (C : ME) : Int32 := sumf (fun p => C 76 p + C 77 p + C 78 p) (mNp C) 0 0
def jShare (C : ME) : Int32 := if mAllD C = 0 then 1 else 0
def mSc (C : ME) (b k : Nat) : Int32 := C 72 (tn (mQ C b k))
def msO (C : ME) : Nat → Nat → Int32 × Int32 → Int32 × Int32
  | 0, _, q => q
  | f + 1, b, q => msO C f (b + 1) (sumf (mSc C b) (mNq C b) 0 q.1, q.2 + C 66 b)
def mMs (C : ME) : Int32 × Int32 := msO C (mNb C) 0 (0, 0)
def jMean (C : ME) : Int32 := if (mMs C).2 = 0 then 1 else 0
def nxF (C : ME) (b : Nat) (p : Int32) : Nat → Nat → Int32 → Int32
  | 0, _, x => x
  | f + 1, k, x => if mQ C b k = p then x else nxF C b p f (k + 1) (x + mLf C b k)
def mNext (C : ME) (p : Int32) : Int32 := nxF C (tn (C 70 (tn p))) p 8 0 (C 60 3)
def jNext (C : ME) (p9 : Int32) : Int32 := if okm (mNp C) p9 then (if ¬ C 75 (tn p9) = 0 then (0) else 2) else 1
/-! what the model's walk keeps -/
def mE (C C' : ME) : Prop := (∀ r k, r = 66 ∨ r = 67 ∨ r = 70 ∨ r = 71 ∨ (r = 60 ∧ (k = 1 ∨ k = 2)) → C' r k = C r k)
theorem mE.refl (C : ME) : mE C C := fun _ _ _ => rfl
theorem mE.trans {C C1 C2 : ME} (h : mE C C1) (k : mE C1 C2) : mE C C2 := fun r i q => (k r i q).trans (h r i q)
theorem mE.put {C : ME} {r k : Nat} {x : Int32} (h : ¬ (r = 66 ∨ r = 67 ∨ r = 70 ∨ r = 71 ∨ (r = 60 ∧ (k = 1 ∨ k = 2)))) : mE C (up2 C r k x) := fun r' k' q => by
  rw [up2_at, if_neg (fun e => h (by rw [← e.1, ← e.2]; exact q))]
theorem mE.nb {C C' : ME} (h : mE C C') : mNb C' = mNb C := by unfold mNb; rw [h 60 1 (by omega)]
theorem mE.np {C C' : ME} (h : mE C C') : mNp C' = mNp C := by unfold mNp; rw [h 60 2 (by omega)]
theorem mE.nq {C C' : ME} (h : mE C C') (b : Nat) : mNq C' b = mNq C b := by unfold mNq; rw [h 66 b (by omega)]
theorem mE.keep {C C' : ME} (h : mE C C') (hI : mI C) : mI C' := by
  obtain ⟨h1, h2, h3, h4, h5, h6⟩ := hI
  unfold mI
  rw [h.nb, h.np, h 60 1 (by omega), h 60 2 (by omega)]
  refine ⟨h1, h2, h3, h4, fun b hb => ?_, fun p hp => ?_⟩
  · rw [h.nq, h 66 b (by omega)]
    obtain ⟨a1, a2, a3⟩ := h5 b hb
    exact ⟨a1, a2, fun k hk => by rw [h 67 _ (by omega)]; exact a3 k hk⟩
  · rw [h 70 p (by omega), h 71 p (by omega)]; exact h6 p hp
def mLst (C : ME) (b : Nat) : Option Nat := lsti (fun k => decide (¬ C 75 (tn (mQ C b k)) = 0)) (mNq C b)
def mLoses (C : ME) (b j : Nat) : ME := if 0 < C 65 b then up2 (up2 C 78 j (C 78 j + 1)) 65 b (C 65 b - 1) else match mLst C b with
  | none => up2 C 78 j (C 78 j + 1)
  | some k => up2 (up2 (up2 C 78 j (C 78 j + 1)) 75 (tn (mQ C b k)) (C 75 (tn (mQ C b k)) - 1)) 79 (tn (mQ C b k)) (C 79 (tn (mQ C b k)) + 1)
theorem mE_loses {C : ME} {b j : Nat} : mE C (mLoses C b j) := by
  unfold mLoses
  split
  · exact (mE.put (by omega)).trans (mE.put (by omega))
  · split
    · exact mE.put (by omega)
    · exact ((mE.put (by omega)).trans (mE.put (by omega))).trans (mE.put (by omega))
def mBodyJ (C : ME) (b j : Nat) : ME := if mWhyJ C b j = 45 then up2 (up2 (up2 C 75 j (C 75 j - 1)) 76 j (C 76 j + 1)) 64 b (C 64 b + C 74 j) else if mWhyJ C b j = 102 then mLoses C b j else up2 (up2 C 75 j (C 75 j - 1)) 77 j (C 77 j + 1)
def mBody (C : ME) (b : Nat) : ME := match kFst (mNq C b) (mLf C b) with
  | none => C
  | some k => mBodyJ C b (tn (mQ C b k))
def mEnd (C : ME) (b : Nat) : ME := up2 (up2 C 64 b (if C 63 b < C 64 b then C 64 b - C 63 b else 0)) 69 b 0
def mShift (C : ME) (b : Nat) : ME := mEnd (mBody C b) b
def mDid (C : ME) (b : Nat) : Int32 := if mWhy C b = 45 then 1 else 0
theorem mBody_n {C : ME} {b : Nat} (h : kFst (mNq C b) (mLf C b) = none) : mBody C b = C := by unfold mBody; rw [h]
theorem mBody_s {C : ME} {b k : Nat} (h : kFst (mNq C b) (mLf C b) = some k) : mBody C b = mBodyJ C b (tn (mQ C b k)) := by unfold mBody; rw [h]
theorem mE_body {C : ME} {b : Nat} : mE C (mBody C b) := by
  unfold mBody
  split
  · exact mE.refl C
  · unfold mBodyJ
    split
    · exact ((mE.put (by omega)).trans (mE.put (by omega))).trans (mE.put (by omega))
    · split
      · exact mE_loses
      · exact (mE.put (by omega)).trans (mE.put (by omega))
theorem mE_shift {C : ME} {b : Nat} : mE C (mShift C b) := mE_body.trans ((mE.put (by omega)).trans (mE.put (by omega)))
theorem mWhyJ_q (C : ME) (b j : Nat) : ¬ mWhyJ C b j = 113 := by
  unfold mWhyJ
  repeat' split
  all_goals decide
def mpS : Nat → Nat → MI → MI
  | 0, _, q => q
  | f + 1, b, q => mpS f (b + 1) (mShift q.1 b, q.2 + mDid q.1 b)
def maV (C : ME) (p : Nat) : Int32 := if (C 81 p = 114 ∨ C 81 p = 98) ∧ 0 < C 80 p then 1 else 0
def maJ (C : ME) (p : Nat) : ME := up2 C 80 p (C 80 p - maV C p)
def maS : Nat → Nat → ME → ME
  | 0, _, C => C
  | f + 1, p, C => maS f (p + 1) (maJ C p)
def mTick (C : ME) : ME := up2 C 60 3 (C 60 3 + 1)
def mPass1 (q : MI) : MI := (mTick (maS (mNp q.1) 0 (mpS (mNb q.1) 0 q).1), (mpS (mNb q.1) 0 q).2)
def mpN : Nat → MI → MI
  | 0, q => q
  | f + 1, q => mpN f (mPass1 q)
theorem mE_mpS : ∀ {f b : Nat} {q : MI}, mE q.1 (mpS f b q).1
  | 0, _, q => mE.refl q.1
  | f + 1, b, q => mE_shift.trans (mE_mpS (f := f) (b := b + 1) (q := (mShift q.1 b, q.2 + mDid q.1 b)))
theorem mE_maS : ∀ {f p : Nat} {C : ME}, mE C (maS f p C)
  | 0, _, C => mE.refl C
  | f + 1, p, C => (show mE C (maJ C p) from mE.put (by omega)).trans (mE_maS (f := f) (p := p + 1) (C := maJ C p))
theorem mE_tick {C : ME} : mE C (mTick C) := mE.put (by omega)
def jPass (C : ME) (n : Int32) : Int32 := if win n 1 20 then (if C 60 3 + n ≤ 200 then 0 else 2) else 1
def mqPass (C : ME) (n : Int32) : MI := mpN (tn n) (C, 0)
theorem maV_1 {C : ME} {p : Nat} (h : C 81 p = 114 ∨ C 81 p = 98) (h2 : ¬ C 80 p ≤ 0) : 1 = maV C p := by unfold maV; rw [if_pos ⟨h, not_le_pos h2⟩]
theorem maV_0 {C : ME} {p : Nat} (h : ¬ ((C 81 p = 114 ∨ C 81 p = 98) ∧ 0 < C 80 p)) : 0 = maV C p := by unfold maV; rw [if_neg h]
/-! the model's panel -/
def mmC (C : ME) (b : Nat) (s : Int32) (p : Nat) : Prop := C 70 p = nI b ∧ C 72 p = s ∧ ¬ C 65 b < C 73 p
def mmY (C : ME) (b p : Nat) : ME := up2 (up2 (up2 (up2 C 67 (8 * b + mNq C b) (nI p)) 66 b (C 66 b + 1)) 75 p (C 73 p)) 65 b (C 65 b - C 73 p)
def mmStep (b : Nat) (s : Int32) (p : Nat) (C : ME) : ME := if C 70 p = nI b ∧ C 72 p = s ∧ ¬ C 65 b < C 73 p then mmY C b p else C
def mmS (b : Nat) (s : Int32) : Nat → Nat → ME → ME
  | 0, _, C => C
  | f + 1, p, C => mmS b s f (p + 1) (mmStep b s p C)
def mmM (b : Nat) : Nat → ME → ME
  | 0, C => C
  | f + 1, C => mmM b f (mmS b (nI f) (mNp C) 0 C)
/-- how many of the first n have pr -/
def ctb (pr : Nat → Bool) : Nat → Nat
  | 0 => 0
  | n + 1 => ctb pr n + (if pr n = true then 1 else 0)
theorem ctb_le (pr : Nat → Bool) : ∀ n, ctb pr n ≤ n
  | 0 => Nat.le_refl _
  | n + 1 => by
    have := ctb_le pr n
    unfold ctb
    split <;> omega
theorem ctb_mono {pr pr' : Nat → Bool} (h : ∀ q, pr q = true → pr' q = true) : ∀ n, ctb pr n ≤ ctb pr' n
  | 0 => Nat.le_refl _
  | n + 1 => by
    have := ctb_mono h n
    unfold ctb
    by_cases h1 : pr n = true
    · rw [if_pos h1, if_pos (h n h1)]; omega
    · rw [if_neg h1]; split <;> omega
theorem ctb_lt {pr pr' : Nat → Bool} (h : ∀ q, pr q = true → pr' q = true) {p : Nat} (h1 : pr p = false) (h2 : pr' p = true) : ∀ n, p < n → ctb pr n + 1 ≤ ctb pr' n
  | 0, hn => by omega
  | n + 1, hn => by
    unfold ctb
    by_cases hp : p = n
    · subst hp
      have := ctb_mono h p
      rw [h1, h2, if_neg (by decide), if_pos rfl]; omega
    · have := ctb_lt h h1 h2 n (by omega)
      by_cases h3 : pr n = true
      · rw [if_pos h3, if_pos (h n h3)]; omega
      · rw [if_neg h3]; split <;> omega
/-- what comes before (s, p) in the panel's order -/
def bef (C : ME) (s : Int32) (p : Nat) : Nat → Bool := fun q => decide (s < C 72 q) || (decide (C 72 q = s) && decide (q < p))
theorem bef_step {C : ME} {s : Int32} {p q : Nat} (h : bef C s p q = true) : bef C s (p + 1) q = true := by
  unfold bef at *
  rw [Bool.or_eq_true, Bool.and_eq_true, decide_eq_true_eq, decide_eq_true_eq, decide_eq_true_eq] at *
  rcases h with h | h
  · exact Or.inl h
  · exact Or.inr ⟨h.1, by omega⟩
theorem bef_no {C : ME} {s : Int32} {p : Nat} (h : C 72 p = s) : bef C s p p = false ∧ bef C s (p + 1) p = true := by
  unfold bef
  constructor
  · rw [Bool.or_eq_false_iff, Bool.and_eq_false_iff]
    refine ⟨decide_eq_false (fun q => ?_), Or.inr (decide_eq_false (Nat.lt_irrefl _))⟩
    rw [h, Int32.lt_iff_toInt_lt] at q
    omega
  · rw [Bool.or_eq_true, Bool.and_eq_true, decide_eq_true_eq, decide_eq_true_eq, decide_eq_true_eq]
    exact Or.inr ⟨h, Nat.lt_succ_self p⟩
theorem bef_next {C : ME} {f n q : Nat} (hf : f < 1000) (h : bef C (nI (f + 1)) n q = true) : bef C (nI f) 0 q = true := by
  unfold bef at *
  rw [Bool.or_eq_true, Bool.and_eq_true, decide_eq_true_eq, decide_eq_true_eq, decide_eq_true_eq] at *
  left
  rw [Int32.lt_iff_toInt_lt, nI_toInt (by omega)] at *
  rcases h with h | h
  · omega
  · rw [h.1, nI_toInt (by omega)]; omega
theorem bef_C {C C' : ME} (h : C' 72 = C 72) (s : Int32) (p : Nat) : bef C' s p = bef C s p := by unfold bef; rw [h]
/-- what the panel's walk keeps -/
def mP (C0 C : ME) (b : Nat) : Prop := mI C ∧ mNp C = mNp C0 ∧ mNb C = mNb C0 ∧ C 72 = C0 72
theorem mmY_nq {C : ME} {b p : Nat} (h : C 66 b = nI (mNq C b)) (hn : mNq C b < 8) : mNq (mmY C b p) b = mNq C b + 1 := by
  have e : mmY C b p 66 b = nI (mNq C b + 1) := by
    unfold mmY
    rw [up2_at, if_neg (by omega), up2_at, if_neg (by omega), up2_at, if_pos ⟨rfl, rfl⟩, h]
    exact nI_1 _
  unfold mNq at e ⊢
  rw [e, tn_nI (by unfold mNq at hn; omega)]
theorem mmY_I {C : ME} {b p : Nat} (hI : mI C) (hb : b < 2) (hp : p < mNp C) (hn : mNq C b < 8) : mI (mmY C b p) := by
  obtain ⟨h1, h2, h3, h4, h5, h6⟩ := hI
  have e0 : ∀ r k, r ≠ 67 → r ≠ 66 → r ≠ 75 → r ≠ 65 → mmY C b p r k = C r k := fun r k a1 a2 a3 a4 => by
    unfold mmY
    rw [up2_at, if_neg (fun q => a4 q.1), up2_at, if_neg (fun q => a3 q.1), up2_at, if_neg (fun q => a2 q.1), up2_at, if_neg (fun q => a1 q.1)]
  have e66 : ∀ k, k ≠ b → mmY C b p 66 k = C 66 k := fun k hk => by
    unfold mmY
    rw [up2_at, if_neg (by omega), up2_at, if_neg (by omega), up2_at, if_neg (by omega), up2_at, if_neg (by omega)]
  have e67 : ∀ k, mmY C b p 67 k = if k = 8 * b + mNq C b then nI p else C 67 k := fun k => by
    unfold mmY
    rw [up2_at, if_neg (by omega), up2_at, if_neg (by omega), up2_at, if_neg (by omega), up2_at]
    by_cases hk : k = 8 * b + mNq C b
    · rw [if_pos hk, if_pos ⟨rfl, hk⟩]
    · rw [if_neg hk, if_neg (fun q => hk q.2)]
  have eb : mNb (mmY C b p) = mNb C := by unfold mNb; rw [e0 _ _ (by omega) (by omega) (by omega) (by omega)]
  have ep : mNp (mmY C b p) = mNp C := by unfold mNp; rw [e0 _ _ (by omega) (by omega) (by omega) (by omega)]
  have eq := mmY_nq (p := p) (h5 b hb).1 hn
  unfold mI
  rw [eb, ep, e0 60 1 (by omega) (by omega) (by omega) (by omega), e0 60 2 (by omega) (by omega) (by omega) (by omega)]
  refine ⟨h1, h2, h3, h4, fun b' hb' => ?_, fun p' hp' => ?_⟩
  · by_cases hbb : b' = b
    · subst hbb
      rw [eq]
      refine ⟨?_, by omega, fun k hk => ?_⟩
      · have h7 : mmY C b' p 66 b' = C 66 b' + 1 := by
          unfold mmY
          rw [up2_at, if_neg (by omega), up2_at, if_neg (by omega), up2_at, if_pos ⟨rfl, rfl⟩]
        rw [h7, (h5 b' hb').1]
        exact nI_1 _
      · rw [e67]
        by_cases hk2 : k = mNq C b'
        · rw [if_pos (by omega)]; exact ⟨p, hp, rfl⟩
        · rw [if_neg (by omega)]; exact (h5 b' hb').2.2 k (by omega)
    · have en : mNq (mmY C b p) b' = mNq C b' := by unfold mNq; rw [e66 _ hbb]
      have hnb := (h5 b hb).2.1
      rw [en, e66 _ hbb]
      refine ⟨(h5 b' hb').1, (h5 b' hb').2.1, fun k hk => ?_⟩
      have := (h5 b' hb').2.1
      rw [e67, if_neg (by omega)]
      exact (h5 b' hb').2.2 k hk
  · rw [e0 70 p' (by omega) (by omega) (by omega) (by omega), e0 71 p' (by omega) (by omega) (by omega) (by omega)]
    exact h6 p' hp'
/-- the walk's state at (s, p) -/
def mW (C0 C : ME) (b : Nat) (s : Int32) (p : Nat) : Prop := mI C ∧ mNp C = mNp C0 ∧ mNb C = mNb C0 ∧ C 72 = C0 72 ∧ mNq C b ≤ ctb (bef C0 s p) (mNp C0)
theorem mmY_0 {C : ME} {b p r k : Nat} (a1 : r ≠ 67) (a2 : r ≠ 66) (a3 : r ≠ 75) (a4 : r ≠ 65) : mmY C b p r k = C r k := by
  unfold mmY
  rw [up2_at, if_neg (fun q => a4 q.1), up2_at, if_neg (fun q => a3 q.1), up2_at, if_neg (fun q => a2 q.1), up2_at, if_neg (fun q => a1 q.1)]
theorem mW_lt {C0 C : ME} {b p : Nat} {s : Int32} (h : mW C0 C b s p) (hp : p < mNp C0) (hs : C 72 p = s) : mNq C b < 8 := by
  have h1 := ctb_lt (pr := bef C0 s p) (pr' := bef C0 s (p + 1)) (fun q hq => bef_step hq) (bef_no (by rw [← hs, h.2.2.2.1])).1 (bef_no (by rw [← hs, h.2.2.2.1])).2 (mNp C0) hp
  have h2 := ctb_le (bef C0 s (p + 1)) (mNp C0)
  have h3 := h.2.2.2.2
  have h4 := h.1.2.2.2.1
  rw [h.2.1] at h4
  omega
theorem mW_no {C0 C : ME} {b p : Nat} {s : Int32} (h : mW C0 C b s p) : mW C0 C b s (p + 1) := ⟨h.1, h.2.1, h.2.2.1, h.2.2.2.1, Nat.le_trans h.2.2.2.2 (ctb_mono (fun q hq => bef_step hq) _)⟩
theorem mW_yes {C0 C : ME} {b p : Nat} {s : Int32} (h : mW C0 C b s p) (hb : b < 2) (hp : p < mNp C0) (hs : C 72 p = s) : mW C0 (mmY C b p) b s (p + 1) := by
  have hlt := mW_lt h hp hs
  have h1 := ctb_lt (pr := bef C0 s p) (pr' := bef C0 s (p + 1)) (fun q hq => bef_step hq) (bef_no (by rw [← hs, h.2.2.2.1])).1 (bef_no (by rw [← hs, h.2.2.2.1])).2 (mNp C0) hp
  refine ⟨mmY_I h.1 hb (by rw [h.2.1]; exact hp) hlt, ?_, ?_, ?_, ?_⟩
  · rw [← h.2.1]; unfold mNp; rw [mmY_0 (by omega) (by omega) (by omega) (by omega)]
  · rw [← h.2.2.1]; unfold mNb; rw [mmY_0 (by omega) (by omega) (by omega) (by omega)]
  · rw [← h.2.2.2.1]; funext k; exact mmY_0 (by omega) (by omega) (by omega) (by omega)
  · rw [mmY_nq (h.1.2.2.2.2.1 b hb).1 hlt]
    have := h.2.2.2.2
    omega
theorem mW_next {C0 C : ME} {b f n : Nat} (hf : f < 1000) (h : mW C0 C b (nI (f + 1)) n) : mW C0 C b (nI f) 0 := ⟨h.1, h.2.1, h.2.2.1, h.2.2.2.1, Nat.le_trans h.2.2.2.2 (ctb_mono (fun q hq => bef_next hf hq) _)⟩
def mMeet0 (C : ME) (b : Nat) : ME := up2 (up2 C 68 b 1) 65 b (C 61 b)
def mMeet (C : ME) (b : Nat) : ME := mmM b 101 (mMeet0 C b)
def jMeet (C : ME) (b : Int32) : Int32 := if okm (mNb C) b then (if C 68 (tn b) = 0 then 0 else 2) else 1
def pl0 : Nat → Int32 := va_up (va_up (va_up (va_up (va_up (va_up (va_up (va_up (fun _ => 0) 0 110) 1 110) 2 110) 3 110) 4 110) 5 110) 6 110) 7 110
theorem rng23 {x : Nat} (h : 61 ≤ x ∧ x < 84) : x = 61 ∨ x = 62 ∨ x = 63 ∨ x = 64 ∨ x = 65 ∨ x = 66 ∨ x = 67 ∨ x = 68 ∨ x = 69 ∨ x = 70 ∨ x = 71 ∨ x = 72 ∨ x = 73 ∨ x = 74 ∨ x = 75 ∨ x = 76 ∨ x = 77 ∨ x = 78 ∨ x = 79 ∨ x = 80 ∨ x = 81 ∨ x = 82 ∨ x = 83 := by omega
