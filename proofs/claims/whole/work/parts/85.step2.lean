section HIROWS
variable {Lv : Nat → Bool} {C : ME} {b r : Nat} {kd : Int32}
theorem cnt_hi (hI : cI Lv C) (hb : b < cNb C) (hr : 60 ≤ r) : oCnt C b kd r = C r := by
  have hb2 := (cI_lin hI hb).2
  have hn8 := hI.2.1
  unfold oCnt
  rcases h : cCur C b with _ | j
  · rfl
  · have hj := cAt_lt hI hb h
    dsimp only
    have e : oCount C j kd r = C r := va_up_ne _ _ (by omega)
    split
    · rw [up2_row (by omega)]; exact e
    · exact e
theorem shift_hi (hI : cI Lv C) (hb : b < cNb C) (hr : 60 ≤ r) : oShift C b kd r = C r := by
  have hb2 := (cI_lin hI hb).2
  have hn8 := hI.2.1
  unfold oShift
  rw [end_row hb2 (by omega) (by omega)]
  unfold oLost oOwe
  rcases h : cAt (oTake C b kd) b (cFol (oCnt C b kd) b kd).2.2 with _ | j
  · dsimp only
    rw [take_row (by omega) (by omega), cnt_hi hI hb hr]
  · rw [at_take hb2] at h
    have hj := cAt_lt hI hb h
    dsimp only
    rw [up2_row (by omega), take_row (by omega) (by omega), cnt_hi hI hb hr]
theorem paS_hi (hr : 60 ≤ r) : ∀ {f i : Nat} {q : MI}, cI Lv q.1 → i + f ≤ cNb q.1 → (paS f i q).1 r = q.1 r
  | 0, _, _, _, _ => rfl
  | f + 1, i, q, hI, hi => by
    have h := cE_shift (kd := kKind (cWhy q.1 i)) hI (show i < cNb q.1 by omega)
    have e := paS_hi hr (f := f) (i := i + 1) (q := (oShift q.1 i (kKind (cWhy q.1 i)), if kKind (cWhy q.1 i) = 100 then q.2 + 1 else q.2)) (h.keep hI) (by show i + 1 + f ≤ cNb (oShift q.1 i (kKind (cWhy q.1 i))); rw [h.nb]; omega)
    exact e.trans (shift_hi hI (by omega) hr)
theorem agS_hi (hr : 60 ≤ r) : ∀ {f i : Nat} {C : ME}, i + f ≤ 8 → agS f i C r = C r
  | 0, _, _, _ => rfl
  | f + 1, i, C, hi => (agS_hi hr (f := f) (i := i + 1) (C := agJ C i) (by omega)).trans (by unfold agJ; exact up2_row (by omega))
theorem pass1_hi (hI : cI Lv C) (hr : 60 ≤ r) : oPass1 C r = C r := by
  have hn8 := hI.2.1
  unfold oPass1
  rw [up2_row (by omega), agS_hi hr (by omega)]
  exact paS_hi hr (q := (C, 0)) hI (by show 0 + cNb C ≤ cNb C; omega)
theorem pasN_hi (hr : 60 ≤ r) : ∀ {f : Nat} {q : MI}, cI Lv q.1 → (pasN f q).1 r = q.1 r
  | 0, _, _ => rfl
  | f + 1, q, hI => (pasN_hi hr (f := f) (q := (oPass1 q.1, q.2 + (qShift q.1).2)) ((cE_pass1 hI).keep hI)).trans (pass1_hi hI hr)
/-! the model keeps the class's rows -/
theorem mShift_lo {B : ME} (hr : r < 60) : mShift B b r = B r := by
  have hl : ∀ {j : Nat}, mLoses B b j r = B r := fun {j} => by
    unfold mLoses
    split
    · rw [up2_row (by omega), up2_row (by omega)]
    · rcases mLst B b with _ | k
      · dsimp only; rw [up2_row (by omega)]
      · dsimp only; rw [up2_row (by omega), up2_row (by omega), up2_row (by omega)]
  unfold mShift mEnd
  rw [up2_row (by omega), up2_row (by omega)]
  unfold mBody
  rcases kFst (mNq B b) (mLf B b) with _ | k
  · rfl
  · dsimp only
    unfold mBodyJ
    split
    · rw [up2_row (by omega), up2_row (by omega), up2_row (by omega)]
    · split
      · exact hl
      · rw [up2_row (by omega), up2_row (by omega)]
theorem mpS_lo (hr : r < 60) : ∀ {f b : Nat} {q : MI}, (mpS f b q).1 r = q.1 r
  | 0, _, _ => rfl
  | f + 1, b, q => (mpS_lo hr (f := f) (b := b + 1) (q := (mShift q.1 b, q.2 + mDid q.1 b))).trans (mShift_lo hr)
theorem maS_lo (hr : r < 60) : ∀ {f p : Nat} {B : ME}, maS f p B r = B r
  | 0, _, _ => rfl
  | f + 1, p, B => (maS_lo hr (f := f) (p := p + 1) (B := maJ B p)).trans (by unfold maJ; exact up2_row (by omega))
theorem mPass1_lo (hr : r < 60) {q : MI} : (mPass1 q).1 r = q.1 r := by
  unfold mPass1 mTick
  dsimp only
  rw [up2_row (by omega), maS_lo hr, mpS_lo hr]
theorem mpN_lo (hr : r < 60) : ∀ {f : Nat} {q : MI}, (mpN f q).1 r = q.1 r
  | 0, _ => rfl
  | f + 1, q => (mpN_lo hr (f := f) (q := mPass1 q)).trans (mPass1_lo hr)
/-! the panel -/
theorem alStep_row {sc : Int32} {i : Nat} {q : LM} (hb : b < 2) (hi : i < 8) (hr : r < 11 ∨ 60 ≤ r) : (alStep b sc i q).2 r = q.2 r := by
  unfold alStep
  split
  · dsimp only
    unfold oAllot
    split
    · rfl
    · exact oAllotY_ne (by omega) (by omega) (by omega) (by omega) (by omega)
  · rfl
theorem alS_row {sc : Int32} (hb : b < 2) (hr : r < 11 ∨ 60 ≤ r) : ∀ {f i : Nat} {q : LM}, i + f ≤ 8 → (alS b sc f i q).2 r = q.2 r
  | 0, _, _, _ => rfl
  | f + 1, i, q, hi => (alS_row hb hr (f := f) (i := i + 1) (q := alStep b sc i q) (by omega)).trans (alStep_row hb (by omega) hr)
theorem alM_row (hb : b < 2) (hr : r < 11 ∨ 60 ≤ r) : ∀ {f : Nat} {q : LM}, cNp q.2 ≤ 8 → (alM b f q).2 r = q.2 r
  | 0, _, _ => rfl
  | f + 1, q, h => by
    have e : cNp (alS b (nI f) (cNp q.2) 0 q).2 = cNp q.2 := by
      show tn ((alS b (nI f) (cNp q.2) 0 q).2 3 2) = tn (q.2 3 2)
      rw [alS_row hb (Or.inl (by decide)) (by omega)]
    exact (alM_row hb hr (f := f) (q := alS b (nI f) (cNp q.2) 0 q) (by rw [e]; exact h)).trans (alS_row hb hr (by omega))
theorem alStep_lv {sc : Int32} {i x : Nat} {q : LM} (hx : x ≠ 12 + 10 * b) : (alStep b sc i q).1 x = q.1 x := by
  unfold alStep
  split
  · dsimp only
    unfold lAllot
    split
    · rfl
    · exact va_up_ne _ _ hx
  · rfl
theorem alS_lv {sc : Int32} {x : Nat} (hx : x ≠ 12 + 10 * b) : ∀ {f i : Nat} {q : LM}, (alS b sc f i q).1 x = q.1 x
  | 0, _, _ => rfl
  | f + 1, i, q => (alS_lv hx (f := f) (i := i + 1) (q := alStep b sc i q)).trans (alStep_lv hx)
theorem alM_lv {x : Nat} (hx : x ≠ 12 + 10 * b) : ∀ {f : Nat} {q : LM}, (alM b f q).1 x = q.1 x
  | 0, _ => rfl
  | f + 1, q => (alM_lv hx (f := f) (q := alS b (nI f) (cNp q.2) 0 q)).trans (alS_lv hx)
theorem mmY_lo {B : ME} {p : Nat} (hr : r < 60) : mmY B b p r = B r := by
  unfold mmY
  rw [up2_row (by omega), up2_row (by omega), up2_row (by omega), up2_row (by omega)]
theorem mmStep_lo {B : ME} {s : Int32} {p : Nat} (hr : r < 60) : mmStep b s p B r = B r := by
  unfold mmStep
  split
  · exact mmY_lo hr
  · rfl
theorem mmS_lo {s : Int32} (hr : r < 60) : ∀ {f p : Nat} {B : ME}, mmS b s f p B r = B r
  | 0, _, _ => rfl
  | f + 1, p, B => (mmS_lo hr (f := f) (p := p + 1) (B := mmStep b s p B)).trans (mmStep_lo hr)
theorem mmM_lo (hr : r < 60) : ∀ {f : Nat} {B : ME}, mmM b f B r = B r
  | 0, _ => rfl
  | f + 1, B => (mmM_lo hr (f := f) (B := mmS b (nI f) (mNp B) 0 B)).trans (mmS_lo hr)
theorem mMeet_lo {B : ME} (hr : r < 60) : mMeet B b r = B r := by
  unfold mMeet
  rw [mmM_lo hr]
  unfold mMeet0
  rw [up2_row (by omega), up2_row (by omega)]
theorem E_pass (h : lwP Lv C) {n : Int32} (hk : kPass C n = 0) : mI (qPass C n).1 ∧ jPass (qPass C n).1 n = 0 ∧ (qPass C n).2 = (mqPass (qPass C n).1 n).2 ∧ ∀ x, lwP Lv (up2 (mqPass (qPass C n).1 n).1 60 0 x) := by
  obtain ⟨hI, hM, hJ, hL, hR, hC⟩ := h
  have hi : ∀ r k, 60 ≤ r → (qPass C n).1 r k = C r k := fun r k q => by
    unfold qPass
    rw [pasN_hi q (q := (C, 0)) hI]
  have hM1 := (hi_mE hi).keep hM
  obtain ⟨e1, e2⟩ := e_pass (hi_Rel hi hI hR) hI hM1 hC (n := n)
  obtain ⟨e3, e4, e5, e6, e7⟩ := e2 hk
  exact ⟨hM1, e1.symm.trans hk, e3, lwP.end e6 e7 hJ hL e4 e5 (fun r k q => by unfold mqPass; rw [mpN_lo q])⟩
theorem E_meet (h : lwP Lv C) {b : Int32} (hk : kMeet C b = 0) : mI (qMeet Lv C (tn b)).2 ∧ jMeet (qMeet Lv C (tn b)).2 b = 0 ∧ (okm (mNb (qMeet Lv C (tn b)).2) b → (qMeet Lv C (tn b)).2 68 (tn b) = 0 → mNq (qMeet Lv C (tn b)).2 (tn b) = 0) ∧ nI (cNq (qMeet Lv C (tn b)).2 (tn b)) = mMeet (qMeet Lv C (tn b)).2 (tn b) 66 (tn b) ∧ ∀ x, lwP (qMeet Lv C (tn b)).1 (up2 (mMeet (qMeet Lv C (tn b)).2 (tn b)) 60 0 x) := by
  have hb : tn b < 2 := line_lt h (by unfold kMeet at hk; exact (if0 hk (by decide)).1)
  obtain ⟨hI, hM, hJ, hL, hR, hC⟩ := h
  have hi : ∀ r k, 60 ≤ r → (qMeet Lv C (tn b)).2 r k = C r k := fun r k q => by
    unfold qMeet
    rw [alM_row hb (Or.inr q) (q := (Lv, up2 C (10 + 10 * tn b) 9 1)) (by show cNp (up2 C (10 + 10 * tn b) 9 1) ≤ 8; unfold cNp; rw [up2_ne (by omega)]; exact hI.2.1)]
    exact up2_ne (by omega)
  have hlv : ∀ x, x ≠ 12 + 10 * tn b → (qMeet Lv C (tn b)).1 x = Lv x := fun x hx => by
    unfold qMeet
    exact alM_lv hx
  have hM1 := (hi_mE hi).keep hM
  obtain ⟨e1, e0, e2⟩ := e_meet (hi_Rel hi hI hR) hI hM1 hC (b := b)
  obtain ⟨e3, e4, e5, e6, e7⟩ := e2 hk
  exact ⟨hM1, e1.symm.trans hk, e0, e3, lwP.end e6 e7 (fun x hx => by rw [hlv x (by omega)]; exact hJ x hx) (fun r h1 h2 => by rw [hlv r (by omega)]; exact hL r h1 h2) e4 e5 (fun r k q => by rw [mMeet_lo q])⟩
end HIROWS
