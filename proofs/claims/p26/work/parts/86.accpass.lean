/-! a pass of one shift, in the reference's numbers -/
section ACP
variable {B : ME} {n b : Nat}
theorem body_fr (hq : qOK B n) (hb : b < 2) {r k : Nat} (h1 : ¬ ((r = 64 ∨ r = 65) ∧ k = b)) (h2 : ¬ (75 ≤ r ∧ r ≤ 79 ∧ B 70 k = nI b)) : mBody B b r k = B r k := by
  rcases e : kFst (mNq B b) (mLf B b) with _ | k1
  · rw [mBody_n e]
  rw [mBody_s e]
  obtain ⟨hj, hl⟩ := hq b hb k1 (kFst_lt e)
  generalize tn (mQ B b k1) = j at hj hl
  have hne : ∀ x, 75 ≤ x → x ≤ 79 → ¬ (r = x ∧ k = j) := fun x a1 a2 q => h2 ⟨by omega, by omega, by rw [q.2]; exact hl⟩
  unfold mBodyJ
  by_cases c1 : mWhyJ B b j = 45
  · rw [if_pos c1, up2_ne (by omega), up2_ne (hne 76 (by decide) (by decide)), up2_ne (hne 75 (by decide) (by decide))]
  rw [if_neg c1]
  by_cases c2 : mWhyJ B b j = 102
  · rw [if_pos c2]
    unfold mLoses
    by_cases hr : 0 < B 65 b
    · rw [if_pos hr, up2_ne (by omega), up2_ne (hne 78 (by decide) (by decide))]
    · rw [if_neg hr]
      obtain ⟨k2, e2, hk2⟩ := lst_some e
      obtain ⟨hj2, hl2⟩ := hq b hb k2 hk2
      rw [e2]
      dsimp only
      generalize tn (mQ B b k2) = j2 at hj2 hl2
      have hne2 : ∀ x, 75 ≤ x → x ≤ 79 → ¬ (r = x ∧ k = j2) := fun x a1 a2 q => h2 ⟨by omega, by omega, by rw [q.2]; exact hl2⟩
      rw [up2_ne (hne2 79 (by decide) (by decide)), up2_ne (hne2 75 (by decide) (by decide)), up2_ne (hne 78 (by decide) (by decide))]
  · rw [if_neg c2, up2_ne (hne 77 (by decide) (by decide)), up2_ne (hne 75 (by decide) (by decide))]
theorem shift_fr (hq : qOK B n) (hb : b < 2) {r k : Nat} (h1 : ¬ ((r = 64 ∨ r = 65 ∨ r = 69) ∧ k = b)) (h2 : ¬ (75 ≤ r ∧ r ≤ 79 ∧ B 70 k = nI b)) : mShift B b r k = B r k := by
  unfold mShift mEnd
  rw [up2_ne (by omega), up2_ne (by omega)]
  exact body_fr hq hb (by omega) h2
theorem shift_lo (hq : qOK B n) (hb : b < 2) {r k : Nat} (h : ¬ (r = 64 ∨ r = 65 ∨ r = 69)) (h2 : ¬ (75 ≤ r ∧ r ≤ 79)) : mShift B b r k = B r k := shift_fr hq hb (fun q => h q.1) (fun q => h2 ⟨q.1, q.2.1⟩)
theorem shift_69 : mShift B b 69 b = 0 := by
  unfold mShift mEnd
  exact up2_eq
theorem shift_body {r k : Nat} (h : ¬ ((r = 64 ∨ r = 69) ∧ k = b)) : mShift B b r k = mBody B b r k := by
  unfold mShift mEnd
  rw [up2_ne (by omega), up2_ne (by omega)]
theorem shift_ac (hq : qOK B n) (hb : b < 2) (h1 : ac1 B n) (h2 : ∀ b', b' < 2 → ac2 B n b') : ac1 (mShift B b) n ∧ ∀ b', b' < 2 → ac2 (mShift B b) n b' := by
  obtain ⟨a1, a2⟩ := body_ac hq hb h1 h2
  exact ⟨a1.same (fun r k _ _ => shift_body (by omega)), fun b' hb' => (a2 b' hb').same (fun r k _ _ => shift_body (by omega)) (shift_body (by omega)) (shift_body (by omega))⟩
theorem shift_q (hq : qOK B n) (hb : b < 2) : qOK (mShift B b) n := fun b' hb' k hk => by
  have e66 : ∀ k, mShift B b 66 k = B 66 k := fun k => shift_lo hq hb (by omega) (by omega)
  have e67 : ∀ k, mShift B b 67 k = B 67 k := fun k => shift_lo hq hb (by omega) (by omega)
  have e70 : ∀ k, mShift B b 70 k = B 70 k := fun k => shift_lo hq hb (by omega) (by omega)
  unfold mNq at hk
  rw [e66] at hk
  unfold mQ
  rw [e67, e70]
  exact hq b' hb' k hk
/-- what the other line sees of it -/
theorem cur_fr (hq : qOK B n) (hb : b < 2) {b' : Nat} (hb' : b' < 2) (hne : b' ≠ b) : mNq (mShift B b) b' = mNq B b' ∧ (∀ k, mQ (mShift B b) b' k = mQ B b' k) ∧ kFst (mNq (mShift B b) b') (mLf (mShift B b) b') = kFst (mNq B b') (mLf B b') := by
  have e66 : mNq (mShift B b) b' = mNq B b' := by unfold mNq; rw [shift_lo hq hb (by omega) (by omega)]
  have e67 : ∀ k, mQ (mShift B b) b' k = mQ B b' k := fun k => by unfold mQ; rw [shift_lo hq hb (by omega) (by omega)]
  refine ⟨e66, e67, ?_⟩
  rw [e66]
  refine kFst_ag (fun k hk => ?_)
  unfold mLf
  rw [e67]
  refine shift_fr hq hb (by omega) (fun q => ?_)
  have h := (hq b' hb' k hk).2
  rw [q.2.2] at h
  exact hne ((nI_eq (by omega) (by omega)).mp h).symm
theorem why_fr (hq : qOK B n) (hb : b < 2) {b' : Nat} (hb' : b' < 2) (hne : b' ≠ b) : mWhy (mShift B b) b' = mWhy B b' := by
  obtain ⟨e1, e2, e3⟩ := cur_fr hq hb hb' hne
  rcases e : kFst (mNq B b') (mLf B b') with _ | k
  · rw [mWhy_n e, mWhy_n (e3.trans e)]
  · rw [mWhy_s e, mWhy_s (e3.trans e), e2]
    unfold mWhyJ
    rw [shift_fr (r := 69) hq hb (by omega) (by omega), shift_fr (r := 62) hq hb (by omega) (by omega), shift_fr (r := 64) hq hb (by omega) (by omega), shift_lo (r := 71) hq hb (by omega) (by omega), shift_lo (r := 74) hq hb (by omega) (by omega), shift_lo (r := 80) hq hb (by omega) (by omega), shift_lo (r := 81) hq hb (by omega) (by omega), shift_lo (r := 82) hq hb (by omega) (by omega), shift_lo (r := 83) hq hb (by omega) (by omega)]
theorem did_fr (hq : qOK B n) (hb : b < 2) {b' : Nat} (hb' : b' < 2) (hne : b' ≠ b) : mDid (mShift B b) b' = mDid B b' := by unfold mDid; rw [why_fr hq hb hb' hne]
/-- the proposal that is on has one shift less -/
theorem shift_on {k : Nat} (e : kFst (mNq B b) (mLf B b) = some k) (hw : ¬ mWhy B b = 102) : mShift B b 75 (tn (mQ B b k)) = B 75 (tn (mQ B b k)) - 1 := by
  rw [shift_body (by omega), mBody_s e]
  rw [mWhy_s e] at hw
  generalize tn (mQ B b k) = j at hw
  unfold mBodyJ
  by_cases c1 : mWhyJ B b j = 45
  · rw [if_pos c1]
    simp (disch := omega) only [up2_ne, up2_eq]
  · rw [if_neg c1, if_neg hw]
    simp (disch := omega) only [up2_ne, up2_eq]
/-- both lines -/
def m2 (B : ME) : ME := mShift (mShift B 0) 1
theorem m2_on (hq : qOK B n) (hb : b < 2) {k : Nat} (e : kFst (mNq B b) (mLf B b) = some k) (hw : ¬ mWhy B b = 102) : m2 B 75 (tn (mQ B b k)) = B 75 (tn (mQ B b k)) - 1 := by
  have hk := hq b hb k (kFst_lt e)
  unfold m2
  rcases (show b = 0 ∨ b = 1 by omega) with rfl | rfl
  · rw [shift_fr (shift_q hq (by decide)) (by decide) (by omega) (fun q => ?_)]
    · exact shift_on e hw
    · have h := q.2.2
      rw [shift_lo hq (by decide) (by omega) (by omega), hk.2] at h
      exact absurd h (by decide)
  · obtain ⟨e1, e2, e3⟩ := cur_fr hq (b := 0) (b' := 1) (by decide) (by decide) (by decide)
    have h := shift_on (B := mShift B 0) (b := 1) (e3.trans e) (by rw [why_fr hq (by decide) (by decide) (by decide)]; exact hw)
    rw [e2] at h
    rw [h, shift_fr hq (by decide) (by omega) (fun q => ?_)]
    have h9 := q.2.2
    rw [hk.2] at h9
    exact absurd h9 (by decide)
theorem m2_69 (hq : qOK B n) (hb : b < 2) : m2 B 69 b = 0 := by
  unfold m2
  rcases (show b = 0 ∨ b = 1 by omega) with rfl | rfl
  · rw [shift_fr (shift_q hq (by decide)) (by decide) (by omega) (by omega)]
    exact shift_69
  · exact shift_69
theorem m2_lo (hq : qOK B n) {r k : Nat} (h : ¬ (r = 64 ∨ r = 65 ∨ r = 69)) (h2 : ¬ (75 ≤ r ∧ r ≤ 79)) : m2 B r k = B r k := by
  unfold m2
  rw [shift_lo (shift_q hq (by decide)) (by decide) h h2, shift_lo hq (by decide) h h2]
theorem m2_ac (hq : qOK B n) (h1 : ac1 B n) (h2 : ∀ b', b' < 2 → ac2 B n b') : ac1 (m2 B) n ∧ ∀ b', b' < 2 → ac2 (m2 B) n b' := by
  obtain ⟨a1, a2⟩ := shift_ac hq (b := 0) (by decide) h1 h2
  exact shift_ac (shift_q hq (by decide)) (by decide) a1 a2
theorem m2_q (hq : qOK B n) : qOK (m2 B) n := shift_q (shift_q hq (by decide)) (by decide)
theorem maS_ne {r k : Nat} (hr : r ≠ 80) : ∀ {f p : Nat} {C : ME}, maS f p C r k = C r k
  | 0, _, _ => rfl
  | f + 1, p, C => (maS_ne hr (f := f) (p := p + 1)).trans (by unfold maJ; exact up2_ne (by omega))
theorem maS_80 {k : Nat} : ∀ {f p : Nat} {C : ME}, maS f p C 80 k = if p ≤ k ∧ k < p + f then C 80 k - maV C k else C 80 k
  | 0, p, C => by rw [if_neg (by omega)]; rfl
  | f + 1, p, C => by
    have h := maS_80 (k := k) (f := f) (p := p + 1) (C := maJ C p)
    show maS f (p + 1) (maJ C p) 80 k = _
    rw [h]
    by_cases hk : k = p
    · subst hk
      rw [if_neg (by omega), if_pos (by omega)]
      unfold maJ
      exact up2_eq
    · have e : maJ C p 80 k = C 80 k := by unfold maJ; exact up2_ne (by omega)
      have e2 : maV (maJ C p) k = maV C k := by unfold maV; rw [e]; unfold maJ; rw [up2_ne (by omega)]
      rw [e, e2]
      by_cases hc : p + 1 ≤ k ∧ k < p + 1 + f
      · rw [if_pos hc, if_pos (by omega)]
      · rw [if_neg hc, if_neg (by omega)]
/-- the whole pass of one shift -/
def m3 (B : ME) : ME := (mqPass B 1).1
theorem m3_eq (hN : mNb B = 2) : m3 B = mTick (maS (mNp B) 0 (m2 B)) ∧ (mqPass B 1).2 = 0 + mDid B 0 + mDid (mShift B 0) 1 := by
  unfold m3 mqPass
  rw [show tn 1 = 1 from by decide]
  show (mPass1 (B, 0)).1 = _ ∧ (mPass1 (B, 0)).2 = _
  unfold mPass1
  dsimp only
  rw [hN]
  exact ⟨rfl, rfl⟩
theorem m3_ne (hN : mNb B = 2) {r k : Nat} (h : r ≠ 80) (h2 : ¬ (r = 60 ∧ k = 3)) : m3 B r k = m2 B r k := by
  rw [(m3_eq hN).1]
  unfold mTick
  rw [up2_ne h2, maS_ne h]
theorem m3_80 (hq : qOK B n) (hN : mNb B = 2) {k : Nat} (hk : k < mNp B) : m3 B 80 k = B 80 k - maV B k := by
  rw [(m3_eq hN).1]
  unfold mTick
  rw [up2_ne (by omega), maS_80, if_pos (by omega), m2_lo hq (by omega) (by omega)]
  unfold maV
  rw [m2_lo hq (by omega) (by omega), m2_lo hq (by omega) (by omega)]
theorem m3_t (hq : qOK B n) (hN : mNb B = 2) : m3 B 60 3 = B 60 3 + 1 := by
  rw [(m3_eq hN).1]
  unfold mTick
  rw [up2_eq, maS_ne (by decide), m2_lo hq (by omega) (by omega)]
theorem m3_did (hq : qOK B n) (hN : mNb B = 2) : (mqPass B 1).2 = mDid B 0 + mDid B 1 := by
  rw [(m3_eq hN).2, did_fr hq (by decide) (by decide) (by decide), Int32.zero_add]
end ACP
