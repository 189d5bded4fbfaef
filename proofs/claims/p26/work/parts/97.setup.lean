/-! the numbers ahead of the law's loop -/
section SETUP
variable {Lv : Nat → Bool} {C B W : ME} {n b p j : Nat}
theorem win_nI {a b x : Nat} (h1 : a ≤ x) (h2 : x ≤ b) (hb : b < 2 ^ 31) : win (nI x) (nI a) (nI b) := ⟨nI_le h1 (by omega), nI_le h2 hb⟩
theorem alStep_lv {sc : Int32} {i x : Nat} {q : LM} (hx : x ≠ 12 + 10 * b) : (alStep b sc i q).1 x = q.1 x := by
  unfold alStep
  split
  · dsimp only
    unfold lAllot
    split
    · rfl
    · exact va_up_ne _ _ hx
  · rfl
theorem alS_lv {sc : Int32} {x : Nat} (hx : x ≠ 12 + 10 * b) : ∀ {f i : Nat} {q : LM}, (alS b sc f i q).1 x = q.1 x
  | 0, _, _ => rfl
  | f + 1, i, q => (alS_lv hx (f := f) (i := i + 1) (q := alStep b sc i q)).trans (alStep_lv hx)
theorem alM_lv {x : Nat} (hx : x ≠ 12 + 10 * b) : ∀ {f : Nat} {q : LM}, (alM b f q).1 x = q.1 x
  | 0, _ => rfl
  | f + 1, q => (alM_lv hx (f := f) (q := alS b (nI f) (cNp q.2) 0 q)).trans (alS_lv hx)
theorem pI.nb (h : pI Lv C B) : mNb B = cNb C := h.2.2.1.nb.symm
theorem pI.np (h : pI Lv C B) : mNp B = cNp C := h.2.2.1.np.symm
theorem pI.z (h : pI Lv C B) : rZ B := by
  obtain ⟨t, -, -, -, hT⟩ := h.2.2.1
  exact hT.2.2.2.2
/-- two beamlines -/
def sA (b : Nat) (W : ME) (Lv : Nat → Bool) (C B : ME) : Prop :=
  pI Lv C B ∧ cNb C = b ∧ cNp C = 0 ∧ (∀ i, i < b → B 61 i = W 84 i ∧ B 68 i = 0) ∧ (∀ u, u < 10 → B 82 u = 0 ∧ B 83 u = 0) ∧ B 60 3 = 0
theorem sA.k (h : sA b W Lv C B) (hb : b < 2) {s m : Nat} (h1 : 3 ≤ s) (h2 : s ≤ 40) (h3 : 10 ≤ m) (h4 : m ≤ 999) : kBeam C (nI s) (nI m) = 0 := by
  obtain ⟨⟨hI, hJ, hR, hM, hC⟩, a1, -⟩ := h
  rw [(e_addBeamline hR hI hM (s := nI s) (m := nI m)).1]
  unfold jBeam
  rw [if_pos ⟨win_nI (a := 3) (b := 40) h1 h2 (by decide), win_nI (a := 10) (b := 999) h3 h4 (by decide)⟩, if_neg]
  rw [hM.1, ← hR.nb, a1]
  intro q
  have := (nI_eq (a := b) (b := 2) (by omega) (by decide)).mp q
  omega
theorem sA.add (h : sA b W Lv C B) (hb : b < 2) {s m : Int32} (hk : kBeam C s m = 0) : ∃ B', sA (b + 1) (up2 W 84 b s) (lBeam Lv C) (oBeam C s m) B' ∧ B' 63 b = 0 := by
  have hz := h.1.z
  have hnb := h.1.nb
  obtain ⟨⟨hI, hJ, hR, hM, hC⟩, a1, a2, a3, a4, a5⟩ := h
  have hR2 := ((e_addBeamline hR hI hM (s := s) (m := m)).2 hk).2
  have hn : cNb C < 2 := by omega
  rw [a1] at hnb
  have ne : ∀ r k, ¬ ((r = 61 ∨ r = 62) ∧ k = b) → ¬ (r = 60 ∧ k = 1) → up2 (up2 (up2 B 61 (mNb B) s) 62 (mNb B) m) 60 1 (B 60 1 + 1) r k = B r k := fun r k q1 q2 => by
    rw [up2_ne q2, up2_ne (by omega), up2_ne (by omega)]
  refine ⟨_, ⟨⟨cI_beam hI hn, fun x hx => ?_, hR2, mI_beam hM (by omega), hC.cong oBeam_np (fun j => ?_)⟩, ?_, ?_, fun i hi => ?_, fun u hu => ?_, ?_⟩, ?_⟩
  · unfold lBeam
    rw [va_up_ne _ _ (by omega), lvLine_ne (by omega)]
    exact hJ x hx
  · unfold isC
    rw [oBeam_ne (by omega) (by omega) (by omega)]
  · rw [oBeam_nb hn, a1]
  · rw [oBeam_np, a2]
  · by_cases q : i = b
    · subst q
      refine ⟨?_, ?_⟩
      · rw [up2_ne (by omega), up2_ne (by omega), hnb, up2_eq, up2_eq]
      · rw [ne 68 i (by omega) (by omega)]
        exact (hz.1 i (by omega) hb).2.2.1
    · rw [ne 61 i (by omega) (by omega), ne 68 i (by omega) (by omega), up2_ne (by omega)]
      exact a3 i (by omega)
  · rw [ne 82 u (by omega) (by omega), ne 83 u (by omega) (by omega)]; exact a4 u hu
  · rw [ne 60 3 (by omega) (by omega)]; exact a5
  · rw [ne 63 b (by omega) (by omega)]
    exact (hz.1 b (by omega) hb).1
theorem sA.rate {b' : Nat} (h : sA b' W Lv C B) (hb : b < b') (hb2 : b < 2) (h63 : B 63 b = 0) {u : Nat} (hu : u ≤ 99) : kSetRate C (nI b) (nI u) = 0 ∧ C (10 + 10 * tn (nI b)) 7 = 0 ∧ ∃ B', sA b' W Lv (up2 C (10 + 10 * tn (nI b)) 7 (nI u)) B' := by
  have hnb := h.1.nb
  obtain ⟨⟨hI, hJ, hR, hM, hC⟩, a1, a2, a3, a4, a5⟩ := h
  have e := e_setRate hR hI (b := nI b) (u := nI u)
  have hk : kSetRate C (nI b) (nI u) = 0 := by
    rw [e.1]
    unfold jRate
    rw [hnb, a1, if_pos (ok_m hb (by have := hI.1; omega))]
    exact if_pos (win_nI (a := 0) (b := 99) (Nat.zero_le _) hu (by decide))
  obtain ⟨e1, e2⟩ := e.2 hk
  rw [show tn (nI b) = b from tn_nI (by omega)] at e1 e2 ⊢
  have hE : cE C (up2 C (10 + 10 * b) 7 (nI u)) := cE.put (by unfold cT; omega)
  have ne : ∀ r k, r ≠ 63 → up2 B 63 b (nI u) r k = B r k := fun r k q => up2_ne (by omega)
  refine ⟨hk, e1.trans h63, _, ⟨hE.keep hI, hJ, e2, (mE.put (by omega)).keep hM, rC_put (by omega) (by omega) hC⟩, hE.nb.trans a1, hE.np.trans a2, fun i hi => ?_, fun u hu => ?_, ?_⟩
  · rw [ne 61 i (by omega), ne 68 i (by omega)]; exact a3 i hi
  · rw [ne 82 u (by omega), ne 83 u (by omega)]; exact a4 u hu
  · rw [ne 60 3 (by omega)]; exact a5
/-- the proposals -/
def sB (p : Nat) (W : ME) (Lv : Nat → Bool) (C B : ME) : Prop :=
  pI Lv C B ∧ cNb C = 2 ∧ cNp C = p ∧ lw1 p W B ∧ lw2 W B ∧ (∀ i, i < 2 → B 61 i = W 84 i ∧ B 68 i = 0) ∧ (∀ j, j < p → B 75 j = 0 ∧ B 76 j = 0 ∧ B 77 j = 0 ∧ B 78 j = 0 ∧ B 79 j = 0 ∧ B 81 j = 110) ∧ (∀ j, W 90 j = 0) ∧ B 60 3 = 0
theorem sB.of (h : sA 2 W Lv C B) {W' : ME} (h84 : W' 84 = W 84) (h0 : ∀ r k, r ≠ 84 → W' r k = 0) : sB 0 W' Lv C B := by
  obtain ⟨hP, a1, a2, a3, a4, a5⟩ := h
  exact ⟨hP, a1, a2, fun j hj => absurd hj (Nat.not_lt_zero j), fun u hu => by rw [h0 88 u (by decide), h0 89 u (by decide)]; exact a4 u hu, fun i hi => by rw [h84]; exact a3 i hi, fun j hj => absurd hj (Nat.not_lt_zero j), fun j => h0 90 j (by decide), a5⟩
theorem sB.k (h : sB p W Lv C B) (hp : p < 8) {b u sc w d : Nat} (hb : b < 2) (hu : u < 10) (hsc : sc ≤ 100) (hw1 : 1 ≤ w) (hw : w ≤ 9) (hd : d ≤ 99) : kPrp C (nI b) (nI u) (nI sc) (nI w) (nI d) = 0 := by
  have hnb := h.1.nb
  have hnp := h.1.np
  obtain ⟨⟨hI, hJ, hR, hM, hC⟩, a1, a2, a3, a4, a5, -⟩ := h
  rw [prp_code hR hI hM]
  unfold jPrp
  rw [hnb, a1, if_pos (ok_m hb (by decide)), if_pos ⟨ok_m hu (by decide), win_nI (a := 0) (b := 100) (Nat.zero_le _) hsc (by decide), win_nI (a := 1) (b := 9) hw1 hw (by decide), win_nI (a := 0) (b := 99) (Nat.zero_le _) hd (by decide)⟩, tn_nI (by omega), if_pos (a5 b hb).2, if_neg]
  rw [hM.2.2.1, hnp, a2]
  intro q
  have := (nI_eq (a := p) (b := 8) (by omega) (by decide)).mp q
  omega
theorem sB.prp (h : sB p W Lv C B) (hp : p < 8) {b u sc w d : Nat} (hb : b < 2) (hu : u < 4) (hk : kPrp C (nI b) (nI u) (nI sc) (nI w) (nI d) = 0) : ∃ B', sB (p + 1) (up2 (up2 (up2 W 85 p (nI b)) 87 p (nI u)) 86 p (nI w)) (lPrp Lv C) (oPrp C (nI b) (nI u) (nI sc) (nI w) (nI d)) B' := by
  have hz := h.1.z
  have hnb := h.1.nb
  have hnp := h.1.np
  obtain ⟨⟨hI, hJ, hR, hM, hC⟩, a1, a2, a3, a4, a5, a6, a7, a8⟩ := h
  obtain ⟨-, e4, e5⟩ := e_propose hR hI hM hC hk
  have hn : cNp C < 8 := by omega
  have hok : okL C (nI b) := by
    have := ok_m (k := b) (m := 2) hb (by decide)
    unfold okL
    rw [a1]; exact this
  rw [a2] at hnp
  obtain ⟨B', hB'⟩ : ∃ B', B' = up2 (up2 (up2 (up2 (up2 (up2 B 70 (mNp B) (nI b)) 71 (mNp B) (nI u)) 72 (mNp B) (nI sc)) 73 (mNp B) (nI w)) 74 (mNp B) (nI d)) 60 2 (B 60 2 + 1) := ⟨_, rfl⟩
  have hM2 := mI_prp hM (show mNp B < 8 by omega) (b := nI b) (us := nI u) (sc := nI sc) (w := nI w) (d := nI d) (by rw [hnb, a1]; exact ok_m hb (by decide)) (ok_m (by omega) (by decide))
  rw [← hB'] at e4 hM2
  have ne : ∀ r k, ¬ (70 ≤ r ∧ r ≤ 74 ∧ k = p) → ¬ (r = 60 ∧ k = 2) → B' r k = B r k := fun r k q1 q2 => by
    rw [hB', up2_ne q2, up2_ne (by omega), up2_ne (by omega), up2_ne (by omega), up2_ne (by omega), up2_ne (by omega)]
  have e7 : B' 70 p = nI b ∧ B' 71 p = nI u ∧ B' 73 p = nI w := by
    rw [hB', hnp]
    simp (disch := omega) only [up2_ne, up2_eq]
    exact ⟨trivial, trivial, trivial⟩
  have wn : ∀ r k, ¬ (85 ≤ r ∧ r ≤ 87 ∧ k = p) → up2 (up2 (up2 W 85 p (nI b)) 87 p (nI u)) 86 p (nI w) r k = W r k := fun r k q => by
    rw [up2_ne (by omega), up2_ne (by omega), up2_ne (by omega)]
  have w7 : up2 (up2 (up2 W 85 p (nI b)) 87 p (nI u)) 86 p (nI w) 85 p = nI b ∧ up2 (up2 (up2 W 85 p (nI b)) 87 p (nI u)) 86 p (nI w) 87 p = nI u ∧ up2 (up2 (up2 W 85 p (nI b)) 87 p (nI u)) 86 p (nI w) 86 p = nI w := by
    simp (disch := omega) only [up2_ne, up2_eq]
    exact ⟨trivial, trivial, trivial⟩
  generalize up2 (up2 (up2 W 85 p (nI b)) 87 p (nI u)) 86 p (nI w) = W' at wn w7 ⊢
  refine ⟨B', ⟨cI_prp' hI hn hok, fun x hx => ?_, e4, hM2, e5⟩, oPrp_nb.trans a1, ?_, fun i hi => ?_, fun i hi => ?_, fun i hi => ?_, fun i hi => ?_, fun i => ?_, ?_⟩
  · unfold lPrp
    rw [va_up_ne _ _ (by omega), va_up_ne _ _ (by omega)]
    exact hJ x hx
  · rw [oPrp_np hn, a2]
  · by_cases q : i = p
    · subst q
      rw [e7.1, e7.2.1, e7.2.2, w7.1, w7.2.1, w7.2.2]
      exact ⟨⟨b, hb, rfl, rfl⟩, ⟨u, hu, rfl, rfl⟩, rfl⟩
    · rw [ne 70 i (by omega) (by omega), ne 71 i (by omega) (by omega), ne 73 i (by omega) (by omega), wn 85 i (by omega), wn 86 i (by omega), wn 87 i (by omega)]
      exact a3 i (by omega)
  · rw [ne 82 i (by omega) (by omega), ne 83 i (by omega) (by omega), wn 88 i (by omega), wn 89 i (by omega)]; exact a4 i hi
  · rw [ne 61 i (by omega) (by omega), ne 68 i (by omega) (by omega), wn 84 i (by omega)]; exact a5 i hi
  · rw [ne 75 i (by omega) (by omega), ne 76 i (by omega) (by omega), ne 77 i (by omega) (by omega), ne 78 i (by omega) (by omega), ne 79 i (by omega) (by omega), ne 81 i (by omega) (by omega)]
    by_cases q : i = p
    · subst q
      exact hz.2 i (by omega) hp
    · exact a6 i (by omega)
  · rw [wn 90 i (by omega)]; exact a7 i
  · rw [ne 60 3 (by omega) (by omega)]; exact a8
/-- the panels -/
def sC (b n : Nat) (W : ME) (Lv : Nat → Bool) (C B : ME) : Prop :=
  pI Lv C B ∧ (1 ≤ n ∧ n ≤ 8 ∧ cNb C = 2 ∧ cNp C = n) ∧ lw1 n W B ∧ lw2 W B ∧ (∀ i, i < 2 → B 61 i = W 84 i) ∧ (∀ i, i < b → ¬ B 68 i = 0 ∧ ac2 B n i) ∧ (∀ i, b ≤ i → i < 2 → B 68 i = 0 ∧ ∀ j, j < n → B 70 j = nI i → B 75 j = 0) ∧ (∀ j, j < n → (B 75 j = 0 ∨ B 75 j = B 73 j) ∧ B 76 j = 0 ∧ B 77 j = 0 ∧ B 78 j = 0 ∧ B 79 j = 0 ∧ B 81 j = 110) ∧ (∀ j, W 90 j = 0) ∧ B 60 3 = 0
theorem sC.of (h : sB n W Lv C B) (h1 : 1 ≤ n) (h8 : n ≤ 8) : sC 0 n W Lv C B := by
  obtain ⟨hP, a1, a2, a3, a4, a5, a6, a7, a8⟩ := h
  exact ⟨hP, ⟨h1, h8, a1, a2⟩, a3, a4, fun i hi => (a5 i hi).1, fun i hi => absurd hi (Nat.not_lt_zero i), fun i _ hi => ⟨(a5 i hi).2, fun j hj _ => (a6 j hj).1⟩, fun j hj => ⟨Or.inl (a6 j hj).1, (a6 j hj).2⟩, a7, a8⟩
theorem sC.k (h : sC b n W Lv C B) {i : Nat} (hi : i < 2) : kMeet C (nI i) = if B 68 i = 0 then 0 else 2 := by
  have hnb := h.1.nb
  obtain ⟨⟨hI, hJ, hR, hM, hC⟩, ⟨a1, a2, a3, a4⟩, -⟩ := h
  rw [(e_meet (Lv := Lv) hR hI hM hC (b := nI i)).1]
  unfold jMeet
  rw [hnb, a3, if_pos (ok_m hi (by decide)), tn_nI (by omega)]
theorem sC.meet (h : sC b n W Lv C B) (hb : b < 2) : kMeet C (nI b) = 0 ∧ ∃ B', sC (b + 1) n W (qMeet Lv C (tn (nI b))).1 (qMeet Lv C (tn (nI b))).2 B' := by
  have hk : kMeet C (nI b) = 0 := by
    rw [h.k hb, if_pos (h.2.2.2.2.2.2.1 b (Nat.le_refl b) hb).1]
  have hnb := h.1.nb
  have hnp := h.1.np
  obtain ⟨⟨hI, hJ, hR, hM, hC⟩, ⟨a1, a2, a3, a4⟩, b1, b2, b3, b4, b5, b6, b7, b8⟩ := h
  obtain ⟨-, e4, e5, e6, e7⟩ := (e_meet (Lv := Lv) hR hI hM hC (b := nI b)).2.2 hk
  rw [show tn (nI b) = b from tn_nI (by omega)] at e4 e5 e6 e7 ⊢
  obtain ⟨c1, c2, c3, c4, c5⟩ := meet_ac (B := B) (n := n) (b := b) (hnp.trans a4) (fun j hj => ⟨(b6 j hj).2.1, (b6 j hj).2.2.1, (b6 j hj).2.2.2.1, (b6 j hj).2.2.2.2.1⟩) (b5 b (Nat.le_refl b) hb).2
  have hlv : ∀ x, x ≠ 12 + 10 * b → (qMeet Lv C b).1 x = Lv x := fun x hx => by
    unfold qMeet
    exact alM_lv hx
  have lineOf : ∀ j, j < n → ∃ i, i < 2 ∧ B 70 j = nI i := fun j hj => by
    obtain ⟨⟨i, q1, q2, q3⟩, -⟩ := b1 j hj
    exact ⟨i, q1, q3⟩
  refine ⟨hk, mMeet B b, ⟨e6, fun x hx => by rw [hlv x (by omega)]; exact hJ x hx, e4, e7, e5⟩, ⟨a1, a2, ?_, ?_⟩, fun i hi => ?_, fun i hi => ?_, fun i hi => ?_, fun i hi => ?_, fun i hi hi2 => ?_, fun i hi => ?_, b7, ?_⟩
  · rw [e4.nb]; unfold mNb; rw [c1 60 1 (by decide) (by decide) (by decide) (by omega)]; exact hnb.trans a3
  · rw [e4.np]; unfold mNp; rw [c1 60 2 (by decide) (by decide) (by decide) (by omega)]; exact hnp.trans a4
  · rw [c1 70 i (by decide) (by decide) (by decide) (by omega), c1 71 i (by decide) (by decide) (by decide) (by omega), c1 73 i (by decide) (by decide) (by decide) (by omega)]; exact b1 i hi
  · rw [c1 82 i (by decide) (by decide) (by decide) (by omega), c1 83 i (by decide) (by decide) (by decide) (by omega)]; exact b2 i hi
  · rw [c1 61 i (by decide) (by decide) (by decide) (by omega)]; exact b3 i hi
  · by_cases q : i = b
    · subst q
      exact ⟨by rw [c2]; decide, c4⟩
    · obtain ⟨d1, d2⟩ := b4 i (by omega)
      rw [c1 68 i (by decide) (by decide) (by decide) (by omega)]
      refine ⟨d1, ?_⟩
      unfold ac2 at *
      rw [c1 65 i (by decide) (by decide) (by decide) (by omega), c1 61 i (by decide) (by decide) (by decide) (by omega), psum_cong (h := acG B i) (fun j hj => ?_)]
      · exact d2
      · unfold acG
        rw [c1 70 j (by decide) (by decide) (by decide) (by omega), c1 76 j (by decide) (by decide) (by decide) (by omega), c1 77 j (by decide) (by decide) (by decide) (by omega), c1 78 j (by decide) (by decide) (by decide) (by omega)]
        by_cases q2 : B 70 j = nI i
        · rw [if_pos q2, if_pos q2, c3 j (fun z => q ((nI_eq (by omega) (by omega)).mp (q2.symm.trans z)))]
        · rw [if_neg q2, if_neg q2]
  · obtain ⟨d1, d2⟩ := b5 i (by omega) hi2
    rw [c1 68 i (by decide) (by decide) (by decide) (by omega)]
    refine ⟨d1, fun j hj q => ?_⟩
    rw [c1 70 j (by decide) (by decide) (by decide) (by omega)] at q
    rw [c3 j (fun z => by have := (nI_eq (by omega) (by omega)).mp (q.symm.trans z); omega)]
    exact d2 j hj q
  · rw [c1 73 i (by decide) (by decide) (by decide) (by omega), c1 76 i (by decide) (by decide) (by decide) (by omega), c1 77 i (by decide) (by decide) (by decide) (by omega), c1 78 i (by decide) (by decide) (by decide) (by omega), c1 79 i (by decide) (by decide) (by decide) (by omega), c1 81 i (by decide) (by decide) (by decide) (by omega)]
    refine ⟨?_, (b6 i hi).2⟩
    by_cases q : B 70 i = nI b
    · exact c5 i hi q
    · rw [c3 i q]; exact (b6 i hi).1
  · rw [c1 60 3 (by decide) (by decide) (by decide) (by omega)]; exact b8
theorem sC.fin (h : sC 2 n W Lv C B) : lwS n 0 W Lv C B := by
  obtain ⟨hP, a, b1, b2, b3, b4, b5, b6, b7, b8⟩ := h
  refine ⟨hP, a, b1, b2, fun j hj => Or.inl ⟨b7 j, (b6 j hj).2.2.2.2.2⟩, fun b hb => ⟨(b4 b hb).1, b3 b hb⟩, fun j hj => ?_, fun b hb => (b4 b hb).2, 0, Nat.le_refl 0, b8⟩
  obtain ⟨c1, c2, c3, c4, c5, -⟩ := b6 j hj
  rw [c2, c3, c5, Int32.add_zero, Int32.add_zero, Int32.add_zero]
  exact c1
end SETUP
