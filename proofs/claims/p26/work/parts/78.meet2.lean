section MEET2
theorem ctb_cong {pr pr' : Nat → Bool} (h : ∀ q, pr q = pr' q) (n : Nat) : ctb pr n = ctb pr' n := by rw [show pr = pr' from funext h]
theorem rC.cong {A A' : ME} (hn : cNp A' = cNp A) (h : ∀ j, isC A' j = isC A j) (hC : rC A) : rC A' := by
  unfold rC cldN at *
  rw [hn, ctb_cong (pr' := fun j => decide (isC A j = 1)) (fun j => by rw [h j])]
  exact hC
/-- the panel's state at (s, p) -/
def meI (A0 B0 : ME) (T : Nat → Nat) (b : Nat) (s : Int32) (p : Nat) (q : LM) (B : ME) : Prop :=
  cI q.1 q.2 ∧ RelT q.2 B T ∧ mW B0 B b s p ∧ b < cNb q.2 ∧ ¬ q.2 (10 + 10 * b) 9 = 0 ∧ q.2 (10 + 10 * b) 6 = 0 ∧ (∀ j, j < cNp q.2 → q.2 (40 + j) 1 = nI b → ¬ q.2 (40 + j) 6 = -1 → bef B0 s p j = true) ∧ (∀ j, isC q.2 j = isC A0 j) ∧ cNp q.2 = cNp A0 ∧ q.2 0 4 = A0 0 4 ∧ B 60 3 = B0 60 3
variable {A0 B0 B : ME} {T : Nat → Nat} {b p : Nat} {q : LM}
theorem meI.no {s : Int32} (h : meI A0 B0 T b s p q B) : meI A0 B0 T b s (p + 1) q B := by
  obtain ⟨h1, h2, h3, h4, h5, h6, h7, h8⟩ := h
  exact ⟨h1, h2, mW_no h3, h4, h5, h6, fun j a1 a2 a3 => bef_step (h7 j a1 a2 a3), h8⟩
theorem meI.step {s : Int32} (h : meI A0 B0 T b s p q B) (hp : p < cNp A0) : meI A0 B0 T b s (p + 1) (alStep b s p q) (mmStep b s p B) := by
  obtain ⟨Lv, A⟩ := q
  have h' := h.no
  obtain ⟨h1, h2, h3, h4, h5, h6, h7, h8, h9, h10, h11⟩ := h
  dsimp only at h1 h2 h3 h4 h5 h6 h7 h8 h9 h10 h11
  have hpA : p < cNp A := by rw [h9]; exact hp
  have hb2 := (cI_lin h1 h4).2
  have hn8 := h1.2.1
  have hP := h2.2.2.2.1 p hpA
  have hL := h2.2.2.1 b h4
  obtain ⟨l1, l2, l3⟩ := ln_lt h1 hpA
  have h65 : B 65 b = A (13 + 10 * b) 2 := hL.2.2.1.2 h5
  have hnq : mNq B b = cNq A b := hL.2.2.2.1.1
  have h70 : B 70 p = A (40 + p) 1 := hP.1.1
  have h72 : B 72 p = A (40 + p) 3 := hP.1.2.2.1
  have h73 : B 73 p = A (40 + p) 4 := hP.1.2.2.2.1
  have hmp : mNp B0 = cNp A := by rw [← h3.2.1, h2.1.2]
  by_cases hc : A (40 + p) 1 = nI b ∧ A (40 + p) 3 = s
  · have hct : tn (A (40 + p) 1) = b ∧ A (40 + p) 3 = s := ⟨by rw [hc.1, tn_nI (by omega)], hc.2⟩
    have hlt : cNq A b < 8 := by
      rw [← hnq]
      exact mW_lt h3 (by rw [hmp]; exact hpA) (by rw [h72]; exact hc.2)
    unfold alStep
    dsimp only
    rw [if_pos hct]
    by_cases hw : A (13 + 10 * b) 2 < A (40 + p) 4
    · have e1 : oAllot A b p = A := by unfold oAllot; rw [if_pos (Or.inl hw)]
      have e2 : lAllot Lv A b p = Lv := by unfold lAllot; rw [if_pos (Or.inl hw)]
      have e3 : mmStep b s p B = B := by unfold mmStep; rw [h65, h73]; exact if_neg (fun e => e.2.2 hw)
      rw [e1, e2, e3]
      exact h'
    · have e0 : ¬ (A (13 + 10 * b) 2 < A (40 + p) 4 ∨ 8 ≤ cNq A b) := fun e => e.elim hw (fun e => by omega)
      have e1 : oAllot A b p = oAllotY A b p := by unfold oAllot; rw [if_neg e0]
      have e2 : lAllot Lv A b p = va_up Lv (12 + 10 * b) true := by unfold lAllot; rw [if_neg e0]
      have e3 : mmStep b s p B = mmY B b p := by unfold mmStep; exact if_pos ⟨by rw [h70]; exact hc.1, by rw [h72]; exact hc.2, by rw [h65, h73]; exact hw⟩
      have hp6 : A (40 + p) 6 = -1 := by
        apply Classical.byContradiction
        intro hne
        have := h7 p hpA hc.1 hne
        rw [(bef_no (C := B0) (s := s) (p := p) (by rw [← h3.2.2.2.1, h72]; exact hc.2)).1] at this
        exact absurd this (by decide)
      obtain ⟨k1, k2⟩ := meet_1 h2 h1 h3.1 h4 hpA hp6 hc.1 h5 h6 hlt hw
      have ane : ∀ r, r ≠ 13 + 10 * b → r ≠ 14 + 10 * b → r ≠ 40 + p → r ≠ 11 + 10 * b → r ≠ 12 + 10 * b → oAllotY A b p r = A r := fun r a1 a2 a3 a4 a5 => oAllotY_ne a1 a2 a3 a4 a5
      have ep : cNp (oAllotY A b p) = cNp A := by unfold cNp; rw [ane 3 (by omega) (by omega) (by omega) (by omega) (by omega)]
      have eb : cNb (oAllotY A b p) = cNb A := by unfold cNb; rw [ane 1 (by omega) (by omega) (by omega) (by omega) (by omega)]
      rw [e1, e2, e3]
      unfold meI
      dsimp only
      rw [ep, eb, ane (10 + 10 * b) (by omega) (by omega) (by omega) (by omega) (by omega), ane 0 (by omega) (by omega) (by omega) (by omega) (by omega), mmY_0 (r := 60) (by omega) (by omega) (by omega) (by omega)]
      refine ⟨cI_allotY h1 h4 hpA hlt, k1, mW_yes h3 hb2 (by rw [hmp]; exact hpA) (by rw [h72]; exact hc.2), h4, h5, h6, fun j a1 a2 a3 => ?_, fun j => (k2 j).trans (h8 j), h9, h10, h11⟩
      by_cases hj : j = p
      · subst hj
        exact (bef_no (by rw [← h3.2.2.2.1, h72]; exact hc.2)).2
      · rw [ane (40 + j) (by omega) (by omega) (by omega) (by omega) (by omega)] at a2 a3
        exact bef_step (h7 j a1 a2 a3)
  · have e1 : alStep b s p (Lv, A) = (Lv, A) := by
      unfold alStep
      refine if_neg (fun e => hc ⟨?_, e.2⟩)
      rw [l3, show tn (A (40 + p) 1) = b from e.1]
    have e3 : mmStep b s p B = B := by
      unfold mmStep
      refine if_neg (fun e => hc ⟨?_, ?_⟩)
      · rw [← h70]; exact e.1
      · rw [← h72]; exact e.2.1
    rw [e1, e3]
    exact h'
theorem meI.loop {s : Int32} : ∀ {f p : Nat} {q : LM} {B : ME}, p + f = cNp A0 → meI A0 B0 T b s p q B → meI A0 B0 T b s (cNp A0) (alS b s f p q) (mmS b s f p B)
  | 0, p, q, B, e, h => by
    have : p = cNp A0 := by omega
    subst this
    exact h
  | f + 1, p, q, B, e, h => meI.loop (f := f) (p := p + 1) (by omega) (h.step (by omega))
theorem meI.next {f n : Nat} (hf : f < 1000) (h : meI A0 B0 T b (nI (f + 1)) n q B) : meI A0 B0 T b (nI f) 0 q B := by
  obtain ⟨h1, h2, h3, h4, h5, h6, h7, h8⟩ := h
  exact ⟨h1, h2, mW_next hf h3, h4, h5, h6, fun j a1 a2 a3 => bef_next hf (h7 j a1 a2 a3), h8⟩
theorem meI.all : ∀ {f : Nat} {q : LM} {B : ME}, f < 1000 → meI A0 B0 T b (nI f) (cNp A0) q B → meI A0 B0 T b (nI 0) (cNp A0) (alM b f q) (mmM b f B)
  | 0, q, B, _, h => h
  | f + 1, q, B, hf, h => by
    unfold alM mmM
    have hn : mNp B = cNp A0 := by rw [← h.2.1.1.2]; exact h.2.2.2.2.2.2.2.2.1
    have hn2 : cNp q.2 = cNp A0 := h.2.2.2.2.2.2.2.2.1
    rw [hn, hn2]
    exact meI.all (f := f) (by omega) (meI.loop (f := cNp A0) (p := 0) (Nat.zero_add _) (h.next (by omega)))
theorem e_meet {Lv : Nat → Bool} {A B : ME} (h : Rel A B) (hI : cI Lv A) (hM : mI B) (hC : rC A) {b : Int32} : kMeet A b = jMeet B b ∧ (okm (mNb B) b → B 68 (tn b) = 0 → mNq B (tn b) = 0) ∧ (kMeet A b = 0 → nI (cNq (qMeet Lv A (tn b)).2 (tn b)) = mMeet B (tn b) 66 (tn b) ∧ Rel (qMeet Lv A (tn b)).2 (mMeet B (tn b)) ∧ rC (qMeet Lv A (tn b)).2 ∧ cI (qMeet Lv A (tn b)).1 (qMeet Lv A (tn b)).2 ∧ mI (mMeet B (tn b))) := by
  have hnb := h.nb
  obtain ⟨t, t1, t2, t3, hT⟩ := h
  have hnb2 := hI.1
  refine ⟨?_, fun h1 h2 => ?_, fun hk => ?_⟩
  · unfold kMeet jMeet
    by_cases hok : okL A b
    · have hok2 : okm (mNb B) b := by unfold okm; rw [← hnb]; exact hok
      rw [if_pos hok, if_pos hok2]
      have hl := hT.2.2.1 _ (okL_ix hI hok).2
      rw [hl.1.2.2.2.2.1]
    · have hok2 : ¬ okm (mNb B) b := by unfold okm; rw [← hnb]; exact hok
      rw [if_neg hok, if_neg hok2]
  · have hb : tn b < cNb A := by rw [hnb]; exact (okm_ix h1 (by have := hM.2.1; omega)).2
    have hl := hT.2.2.1 _ hb
    rw [hl.1.2.2.2.2.1] at h2
    rw [hl.2.2.2.1.1]
    exact (hl.2.2.1.1 h2).1
  · unfold kMeet at hk
    obtain ⟨hok, hk⟩ := if0 hk (by decide)
    have hm := (if0 hk (by decide)).1
    have hb := (okL_ix hI hok).2
    generalize tn b = b' at hb hm
    have hb2 := (cI_lin hI hb).2
    have hl := hT.2.2.1 b' hb
    obtain ⟨m1, m2, m3⟩ := hl.2.2.1.1 hm
    have key : meI A B (fun _ => t) b' (nI 101) (cNp A) (Lv, up2 A (10 + 10 * b') 9 1) (mMeet0 B b') := by
      have hE : cE A (up2 A (10 + 10 * b') 9 1) := cE.put (by unfold cT; omega)
      refine ⟨hE.keep hI, meet_0 hT hI hb hm, ⟨hM, rfl, rfl, rfl, ?_⟩, by dsimp only; rw [hE.nb]; exact hb, by dsimp only; rw [up2_eq]; decide, by dsimp only; rw [up2_ne (by omega)]; exact m2, fun j a1 a2 a3 => ?_, fun j => ?_, hE.np, up2_ne (by omega), ?_⟩
      · rw [show mNq (mMeet0 B b') b' = mNq B b' from rfl, hl.2.2.2.1.1, m1]; exact Nat.zero_le _
      · dsimp only at a1 a2 a3
        rw [hE.np] at a1
        rw [up2_ne (by omega)] at a2 a3
        rcases (hT.2.2.2.1 j a1).2.2.2.2.2 with ⟨c1, -⟩ | ⟨k, -, c2, -⟩
        · exact absurd c1 a3
        · rw [a2, tn_nI (by omega), m1] at c2
          exact absurd c2 (Nat.not_lt_zero k)
      · show isC (up2 A (10 + 10 * b') 9 1) j = isC A j
        unfold isC
        rw [up2_ne (by omega), up2_ne (by omega)]
      · unfold mMeet0; rw [up2_ne (by omega), up2_ne (by omega)]
    have fin : meI A B (fun _ => t) b' (nI 0) (cNp A) (qMeet Lv A b') (mMeet B b') := meI.all (f := 101) (by decide) key
    generalize qMeet Lv A b' = q at fin
    obtain ⟨f1, f2, f3, f4, f5, f6, f7, f8, f9, f10, f11⟩ := fin
    have g1 := (f3.1.2.2.2.2.1 b' hb2).1
    have hq := (f2.2.2.1 b' f4).2.2.2.1.1
    refine ⟨?_, ⟨t, t1, f10.trans t2, f11.trans t3, f2⟩, hC.cong f9 f8, f1, f3.1⟩
    rw [g1, hq]
end MEET2
