/-! the accounts, in the reference's numbers -/
section ACC
variable {B B' : ME} {n b j : Nat}
def ac1 (B : ME) (n : Nat) : Prop := ∀ j, j < n → B 75 j + B 76 j + B 77 j + B 79 j = 0 ∨ B 75 j + B 76 j + B 77 j + B 79 j = B 73 j
def acG (B : ME) (b : Nat) : Nat → Int32 := fun j => if B 70 j = nI b then B 75 j + B 76 j + B 77 j + B 78 j else 0
def ac2 (B : ME) (n b : Nat) : Prop := B 65 b + psum (acG B b) n = B 61 b
/-- the queue holds proposals of its own line -/
def qOK (B : ME) (n : Nat) : Prop := ∀ b, b < 2 → ∀ k, k < mNq B b → tn (mQ B b k) < n ∧ B 70 (tn (mQ B b k)) = nI b
theorem line_ne {b b' : Nat} (hb : b < 2) (hb' : b' < 2) (h : b' ≠ b) : ¬ nI b = nI b' := fun q => by
  have := (nI_eq (by omega) (by omega)).mp q
  omega
/-- rows that the accounts rest on -/
theorem ac1.same (h : ac1 B n) (e : ∀ r k, 73 ≤ r → r < 80 → B' r k = B r k) : ac1 B' n := fun j hj => by
  rw [e 75 j (by decide) (by decide), e 76 j (by decide) (by decide), e 77 j (by decide) (by decide), e 79 j (by decide) (by decide), e 73 j (by decide) (by decide)]
  exact h j hj
theorem ac2.same (h : ac2 B n b) (e : ∀ r k, 70 ≤ r → r < 80 → B' r k = B r k) (e1 : B' 65 b = B 65 b) (e2 : B' 61 b = B 61 b) : ac2 B' n b := by
  unfold ac2 at *
  rw [e1, e2, psum_cong (h := acG B b) (fun j _ => by unfold acG; rw [e 70 j (by decide) (by decide), e 75 j (by decide) (by decide), e 76 j (by decide) (by decide), e 77 j (by decide) (by decide), e 78 j (by decide) (by decide)])]
  exact h
/-- what is left of j's shift: 45, or a miss -/
theorem take_G {c : Nat} (hc : c = 76 ∨ c = 77) (hb2 : b < 2) (b' : Nat) : acG (up2 (up2 B 75 j (B 75 j - 1)) c j (B c j + 1)) b' = acG B b' := by
  funext i
  unfold acG
  rw [up2_ne (by omega), up2_ne (by omega)]
  by_cases h : B 70 i = nI b'
  · rw [if_pos h, if_pos h]
    by_cases hi : i = j
    · subst hi
      rcases hc with rfl | rfl
      · simp (disch := omega) only [up2_ne, up2_eq]
        grind
      · simp (disch := omega) only [up2_ne, up2_eq]
        grind
    · rcases hc with rfl | rfl
      · simp (disch := omega) only [up2_ne]
      · simp (disch := omega) only [up2_ne]
  · rw [if_neg h, if_neg h]
theorem take_1 {c : Nat} (hc : c = 76 ∨ c = 77) (h : ac1 B n) : ac1 (up2 (up2 B 75 j (B 75 j - 1)) c j (B c j + 1)) n := fun i hi => by
  have h' := h i hi
  have e73 : up2 (up2 B 75 j (B 75 j - 1)) c j (B c j + 1) 73 i = B 73 i := by rw [up2_ne (by omega), up2_ne (by omega)]
  rw [e73]
  by_cases hij : i = j
  · subst hij
    have e : up2 (up2 B 75 i (B 75 i - 1)) c i (B c i + 1) 75 i + up2 (up2 B 75 i (B 75 i - 1)) c i (B c i + 1) 76 i + up2 (up2 B 75 i (B 75 i - 1)) c i (B c i + 1) 77 i + up2 (up2 B 75 i (B 75 i - 1)) c i (B c i + 1) 79 i = B 75 i + B 76 i + B 77 i + B 79 i := by
      rcases hc with rfl | rfl
      · simp (disch := omega) only [up2_ne, up2_eq]
        grind
      · simp (disch := omega) only [up2_ne, up2_eq]
        grind
    rw [e]; exact h'
  · rcases hc with rfl | rfl
    · simp (disch := omega) only [up2_ne]
      exact h'
    · simp (disch := omega) only [up2_ne]
      exact h'
/-- what a lost shift leaves -/
theorem lose_G (hb2 : b < 2) {x : Int32} {b' : Nat} (hb' : b' < 2) (hj : B 70 j = nI b) : acG (up2 (up2 B 78 j (B 78 j + 1)) 65 b x) b' = fun i => acG B b' i + (if b' = b then dl j i else 0) := by
  funext i
  unfold acG
  simp (disch := omega) only [up2_ne]
  by_cases h : B 70 i = nI b'
  · rw [if_pos h, if_pos h]
    by_cases hi : i = j
    · subst hi
      have hbb : b' = b := by
        rw [hj] at h
        exact ((nI_eq (by omega) (by omega)).mp h).symm
      rw [if_pos hbb, up2_eq, show dl i i = 1 from if_pos rfl]
      grind
    · rw [up2_ne (by omega), show dl j i = 0 from if_neg hi]
      split <;> grind
  · rw [if_neg h, if_neg h]
    by_cases hbb : b' = b
    · subst hbb
      rw [if_pos rfl, show dl j i = 0 from if_neg (fun q => h (by rw [q]; exact hj))]; rfl
    · rw [if_neg hbb]; rfl
theorem lose_G2 {j2 : Nat} (hb2 : b < 2) {b' : Nat} (hb' : b' < 2) (hj : B 70 j = nI b) (hj2 : B 70 j2 = nI b) : acG (up2 (up2 (up2 B 78 j (B 78 j + 1)) 75 j2 (B 75 j2 - 1)) 79 j2 (B 79 j2 + 1)) b' = fun i => acG B b' i + (if b' = b then dl j i - dl j2 i else 0) := by
  funext i
  unfold acG
  simp (disch := omega) only [up2_ne]
  by_cases h : B 70 i = nI b'
  · rw [if_pos h, if_pos h]
    have e1 : up2 (up2 B 78 j (B 78 j + 1)) 75 j2 (B 75 j2 - 1) 75 i = B 75 i - dl j2 i := by
      unfold dl
      by_cases q : i = j2
      · subst q; rw [up2_eq, if_pos rfl]
      · rw [up2_ne (by omega), up2_ne (by omega), if_neg q]; grind
    have e2 : up2 B 78 j (B 78 j + 1) 78 i = B 78 i + dl j i := by
      unfold dl
      by_cases q : i = j
      · subst q; rw [up2_eq, if_pos rfl]
      · rw [up2_ne (by omega), if_neg q]; grind
    rw [e1, e2]
    by_cases hbb : b' = b
    · rw [if_pos hbb]; grind
    · have n1 : dl j i = 0 := if_neg (fun q => hbb (by rw [q, hj] at h; exact ((nI_eq (by omega) (by omega)).mp h).symm))
      have n2 : dl j2 i = 0 := if_neg (fun q => hbb (by rw [q, hj2] at h; exact ((nI_eq (by omega) (by omega)).mp h).symm))
      rw [if_neg hbb, n1, n2]; grind
  · rw [if_neg h, if_neg h]
    by_cases hbb : b' = b
    · subst hbb
      rw [if_pos rfl, show dl j i = 0 from if_neg (fun q => h (by rw [q]; exact hj)), show dl j2 i = 0 from if_neg (fun q => h (by rw [q]; exact hj2))]; rfl
    · rw [if_neg hbb]; rfl
/-- the place of a last shift is there where one is on -/
theorem lst_some {k : Nat} (hf : kFst (mNq B b) (mLf B b) = some k) : ∃ k2, mLst B b = some k2 ∧ k2 < mNq B b := by
  have hk := kFst_lt hf
  have hp : 0 < mLf B b k := by
    have := (fsti_some hf).2.2.1
    unfold kPos at this
    exact of_decide_eq_true this
  rcases e : mLst B b with _ | k2
  · have h := lsti_none e k hk
    have h2 := of_decide_eq_false h
    have h3 : B 75 (tn (mQ B b k)) = 0 := Classical.byContradiction h2
    have h4 : mLf B b k = 0 := h3
    rw [h4] at hp
    exact absurd hp (by decide)
  · exact ⟨k2, rfl, (lsti_some e).1⟩
/-- a shift at line b keeps the accounts -/
theorem body_ac (hq : qOK B n) (hb : b < 2) (h1 : ac1 B n) (h2 : ∀ b', b' < 2 → ac2 B n b') : ac1 (mBody B b) n ∧ ∀ b', b' < 2 → ac2 (mBody B b) n b' := by
  rcases e : kFst (mNq B b) (mLf B b) with _ | k
  · rw [mBody_n e]; exact ⟨h1, h2⟩
  rw [mBody_s e]
  obtain ⟨hj, hl⟩ := hq b hb k (kFst_lt e)
  generalize tn (mQ B b k) = j at hj hl
  unfold mBodyJ
  by_cases c1 : mWhyJ B b j = 45
  · rw [if_pos c1]
    have hd : ∀ r k, 65 ≤ r → r < 80 → up2 (up2 (up2 B 75 j (B 75 j - 1)) 76 j (B 76 j + 1)) 64 b (B 64 b + B 74 j) r k = up2 (up2 B 75 j (B 75 j - 1)) 76 j (B 76 j + 1) r k := fun r k q1 q2 => up2_ne (by omega)
    refine ⟨(take_1 (Or.inl rfl) h1).same (fun r k q1 q2 => hd r k (by omega) q2), fun b' hb' => ac2.same (B := up2 (up2 B 75 j (B 75 j - 1)) 76 j (B 76 j + 1)) ?_ (fun r k q1 q2 => hd r k (by omega) q2) (hd 65 b' (by decide) (by decide)) (up2_ne (by omega))⟩
    unfold ac2
    rw [take_G (Or.inl rfl) hb]
    simp (disch := omega) only [up2_ne]
    exact h2 b' hb'
  rw [if_neg c1]
  by_cases c2 : mWhyJ B b j = 102
  · rw [if_pos c2]
    unfold mLoses
    by_cases hr : 0 < B 65 b
    · rw [if_pos hr]
      refine ⟨fun i hi => ?_, fun b' hb' => ?_⟩
      · have h' := h1 i hi
        simp (disch := omega) only [up2_ne]
        exact h'
      · have h' := h2 b' hb'
        unfold ac2 at *
        rw [lose_G hb hb' hl]
        simp (disch := omega) only [up2_ne (r' := 61)]
        by_cases hbb : b' = b
        · subst hbb
          simp only [if_true]
          rw [psum_add, psum_dl, if_pos hj, up2_eq]
          grind
        · rw [psum_cong (h := acG B b') (fun i _ => by rw [if_neg hbb]; exact Int32.add_zero _), up2_ne (by omega), up2_ne (by omega)]
          exact h'
    · rw [if_neg hr]
      obtain ⟨k2, e2, hk2⟩ := lst_some e
      obtain ⟨hj2, hl2⟩ := hq b hb k2 hk2
      rw [e2]
      dsimp only
      generalize tn (mQ B b k2) = j2 at hj2 hl2
      refine ⟨fun i hi => ?_, fun b' hb' => ?_⟩
      · have h' := h1 i hi
        by_cases hij : i = j2
        · subst hij
          simp (disch := omega) only [up2_ne, up2_eq]
          have e9 : B 75 i - 1 + B 76 i + B 77 i + (B 79 i + 1) = B 75 i + B 76 i + B 77 i + B 79 i := by grind
          rw [e9]
          exact h'
        · simp (disch := omega) only [up2_ne]
          exact h'
      · have h' := h2 b' hb'
        unfold ac2 at *
        rw [lose_G2 hb hb' hl hl2]
        simp (disch := omega) only [up2_ne]
        by_cases hbb : b' = b
        · subst hbb
          simp only [if_true]
          rw [psum_add, psum_sub, psum_dl, psum_dl, if_pos hj, if_pos hj2]
          grind
        · rw [psum_cong (h := acG B b') (fun i _ => by rw [if_neg hbb]; exact Int32.add_zero _)]
          exact h'
  · rw [if_neg c2]
    refine ⟨take_1 (Or.inr rfl) h1, fun b' hb' => ?_⟩
    unfold ac2
    rw [take_G (Or.inr rfl) hb]
    simp (disch := omega) only [up2_ne]
    exact h2 b' hb'
end ACC
