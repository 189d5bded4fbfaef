/-! the law's calls, on the numbers -/
section LW2
variable {Lv : Nat → Bool} {C B W : ME} {n T j b u : Nat}
theorem rC_put {r k : Nat} {x : Int32} (hr : r < 40) (h3 : r ≠ 3) (hC : rC C) : rC (up2 C r k x) := by
  refine hC.cong ?_ (fun j => ?_)
  · unfold cNp; rw [up2_ne (by omega)]
  · unfold isC; rw [up2_ne (by omega), up2_ne (by omega)]
/-- a look at the replay -/
theorem lwS.anew (h : lwS n T W Lv C B) (hj : j < n) : lwS n T W Lv (oK C (tn (C (40 + tn (nI j)) 1)) (cReplay C (tn (C (40 + tn (nI j)) 1)))) B := by
  have h8 := h.n8
  obtain ⟨⟨hI, hJ, hR, hM, hC⟩, ⟨a1, a2, a3, a4⟩, rest⟩ := h
  have hb := (ln_lt hI (show tn (nI j) < cNp C by rw [tn_nI (by omega), a4]; exact hj)).2.1
  generalize tn (C (40 + tn (nI j)) 1) = b at hb
  generalize hq : cReplay C b = q
  have hq8 : q.1 ≤ 8 := by
    rw [← hq]
    unfold cReplay
    rw [rpF_1]
    unfold cAll
    exact rpA_8 (Nat.zero_le _)
  have ne : ∀ r, r ≠ 15 + 10 * b → r ≠ 16 + 10 * b → oK C b q r = C r := fun r h1 h2 => oK_ne C q h1 h2
  have hE : cE C (oK C b q) := cE_k hb hq8
  exact ⟨⟨hE.keep hI, hJ, hR.same hI (fun r k h1 h2 h3 h4 h5 => by rw [ne r (by omega) (by omega)]) (fun _ _ _ _ => rfl) (fun _ _ _ => rfl), hM, hC.cong hE.np (fun i => by unfold isC; rw [ne _ (by omega) (by omega)])⟩, ⟨a1, a2, hE.nb.trans a3, hE.np.trans a4⟩, rest⟩
/-- train -/
theorem k_train (h : lwS n T W Lv C B) (hu : u < 10) : kTrain C (nI u) = if W 88 u = 0 then 0 else 2 := by
  rw [(e_train h.R h.I (u := nI u)).1]
  unfold jTrain
  rw [if_pos (ok_m hu (by decide)), tn_nI (by omega), (h.2.2.2.1 u hu).1]
theorem trained_n (w : Nat → Int32) : ∃ s : Nat, s ≤ 10 ∧ cTrained w = nI s := by
  obtain ⟨s, h1, h2⟩ := sumf_nI (f := fun i => if w i = 0 then 0 else 1) (M := 1) (n := 10) (i := 0) (a := 0) (fun k _ _ => by
    by_cases q : w k = 0
    · exact ⟨0, by decide, if_pos q⟩
    · exact ⟨1, by decide, if_neg q⟩)
  exact ⟨s, by omega, h2⟩
theorem v_train (h : lwS n T W Lv C B) (hu : u < 10) (a : Int32) (ha : ∃ s : Nat, s ≤ 10 ∧ a = nI s) : (rr (kTrain C (nI u)) a = -1002) ↔ ¬ W 88 u = 0 := by
  rw [k_train h hu]
  by_cases q : W 88 u = 0
  · rw [if_pos q]
    obtain ⟨s, s1, s2⟩ := ha
    constructor
    · intro z
      unfold rr at z
      rw [if_pos rfl, s2] at z
      exact absurd (congrArg Int32.toInt z) (by rw [nI_toInt (by omega), show (-1002 : Int32).toInt = -1002 from by decide]; omega)
    · intro z; exact absurd q z
  · rw [if_neg q]
    exact ⟨fun _ => q, fun _ => rr_no rfl (by decide) (by decide)⟩
theorem lwS.train (h : lwS n T W Lv C B) (hu : u < 10) (hk : kTrain C (nI u) = 0) : ∃ B', lwS n T (up2 W 88 u 1) Lv (up2 C 5 (tn (nI u)) 1) B' := by
  rw [show tn (nI u) = u from tn_nI (by omega)]
  have h4 := ((e_train h.R h.I (u := nI u)).2 hk).2
  rw [tn_nI (by omega)] at h4
  obtain ⟨⟨hI, hJ, hR, hM, hC⟩, ⟨a1, a2, a3, a4⟩, b1, b2, b3, b4, b5, b6, b7⟩ := h
  have hE : cE C (up2 C 5 u 1) := cE.put (by unfold cT; omega)
  have ne : ∀ r k, r < 82 → ¬ (r = 60 ∧ k = 4) → up2 (up2 B 82 u 1) 60 4 (B 60 4 + 1) r k = B r k := fun r k q1 q2 => by rw [up2_ne q2, up2_ne (by omega)]
  refine ⟨_, ⟨hE.keep hI, hJ, h4, ((mE.put (by omega)).trans (mE.put (by omega))).keep hM, rC_put (by omega) (by omega) hC⟩, ⟨a1, a2, hE.nb.trans a3, hE.np.trans a4⟩, fun j hj => ?_, fun i hi => ?_, fun j hj => ?_, fun b hb => ?_, b5.same (fun r k _ _ => ne r k (by omega) (by omega)), fun b hb => (b6 b hb).same (fun r k _ _ => ne r k (by omega) (by omega)) (ne _ _ (by omega) (by omega)) (ne _ _ (by omega) (by omega)), ?_⟩
  · rw [ne 70 j (by omega) (by omega), ne 71 j (by omega) (by omega), ne 73 j (by omega) (by omega), up2_ne (by omega), up2_ne (by omega), up2_ne (by omega)]; exact b1 j hj
  · by_cases q : i = u
    · subst q
      rw [up2_ne (by omega), up2_eq, up2_eq, up2_ne (by omega), up2_ne (by omega), up2_ne (by omega)]
      exact ⟨rfl, (b2 i hi).2⟩
    · rw [up2_ne (by omega), up2_ne (by omega), up2_ne (by omega), up2_ne (by omega), up2_ne (by omega), up2_ne (by omega)]
      exact b2 i hi
  · rw [ne 80 j (by omega) (by omega), ne 81 j (by omega) (by omega), up2_ne (by omega)]; exact b3 j hj
  · rw [ne 68 b (by omega) (by omega), ne 61 b (by omega) (by omega), up2_ne (by omega)]; exact b4 b hb
  · rw [ne 60 3 (by omega) (by omega)]; exact b7
/-- setThere -/
theorem k_there (hu : u < 10) : kThere (nI u) = 0 := by
  unfold kThere
  rw [if_pos (ok_m hu (by decide))]
theorem lwS.b6 (h : lwS n T W Lv C B) : ∀ i, C 6 i = 0 ∨ C 6 i = 1 := by
  obtain ⟨t, -, -, -, hT⟩ := h.R
  exact hT.2.1.2.2.1
theorem lwS.c6 (h : lwS n T W Lv C B) (hu : u < 10) : C 6 u = W 89 u := by
  obtain ⟨t, -, -, -, hT⟩ := h.R
  rw [← (hT.2.1.1 u hu).2]
  exact (h.2.2.2.1 u hu).2
theorem lwS.c5 (h : lwS n T W Lv C B) (hu : u < 10) : C 5 u = W 88 u := by
  obtain ⟨t, -, -, -, hT⟩ := h.R
  rw [← (hT.2.1.1 u hu).1]
  exact (h.2.2.2.1 u hu).1
theorem lwS.there (h : lwS n T W Lv C B) (hu : u < 10) {z : Int32} (hz : z = 0 ∨ z = 1) : ∃ B', lwS n T (up2 W 89 u z) Lv (up2 C 6 (tn (nI u)) z) B' := by
  rw [show tn (nI u) = u from tn_nI (by omega)]
  have h4 := ((e_setThere h.R h.I (u := nI u) hz).2 (k_there hu)).2
  rw [tn_nI (by omega)] at h4
  obtain ⟨⟨hI, hJ, hR, hM, hC⟩, ⟨a1, a2, a3, a4⟩, b1, b2, b3, b4, b5, b6, b7⟩ := h
  have hE : cE C (up2 C 6 u z) := cE.put (by unfold cT; omega)
  have ne : ∀ r k, r < 83 → up2 B 83 u z r k = B r k := fun r k q1 => up2_ne (by omega)
  refine ⟨_, ⟨hE.keep hI, hJ, h4, (mE.put (by omega)).keep hM, rC_put (by omega) (by omega) hC⟩, ⟨a1, a2, hE.nb.trans a3, hE.np.trans a4⟩, fun j hj => ?_, fun i hi => ?_, fun j hj => ?_, fun b hb => ?_, b5.same (fun r k _ _ => ne r k (by omega)), fun b hb => (b6 b hb).same (fun r k _ _ => ne r k (by omega)) (ne _ _ (by omega)) (ne _ _ (by omega)), ?_⟩
  · rw [ne 70 j (by omega), ne 71 j (by omega), ne 73 j (by omega), up2_ne (by omega), up2_ne (by omega), up2_ne (by omega)]; exact b1 j hj
  · by_cases q : i = u
    · subst q
      rw [up2_eq, up2_eq, up2_ne (by omega), up2_ne (by omega)]
      exact ⟨(b2 i hi).1, rfl⟩
    · rw [up2_ne (by omega), up2_ne (by omega), up2_ne (by omega), up2_ne (by omega)]
      exact b2 i hi
  · rw [ne 80 j (by omega), ne 81 j (by omega), up2_ne (by omega)]; exact b3 j hj
  · rw [ne 68 b (by omega), ne 61 b (by omega), up2_ne (by omega)]; exact b4 b hb
  · rw [ne 60 3 (by omega)]; exact b7
/-- bring -/
theorem k_bring (h : lwS n T W Lv C B) (hj : j < n) {x : Nat} (h1 : 1 ≤ x) (h2 : x ≤ 50) : kBring C (nI j) (nI x) = 0 := by
  have h8 := h.n8
  rw [(e_bring h.R h.I h.1.2.2.2.2 (j := nI j) (x := nI x)).1]
  unfold jBring
  rw [h.np, if_pos (ok_m hj (by omega)), if_pos ⟨(show (1 : Int32) = nI 1 from rfl) ▸ nI_le h1 (by omega), (show (50 : Int32) = nI 50 from rfl) ▸ nI_le h2 (by omega)⟩]
theorem lwS.bring (h : lwS n T W Lv C B) (hj : j < n) {x : Nat} (h1 : 1 ≤ x) (h2 : x ≤ 50) : ∃ B', lwS n T (up2 W 90 j 114) Lv (va_up C (40 + tn (nI j)) (va_up (va_up (C (40 + tn (nI j))) 7 (nI x)) 8 114)) B' ∧ ∃ l : Nat, l ≤ 50 ∧ B' 81 j = 114 ∧ B' 80 j = nI x := by
  have h8 := h.n8
  obtain ⟨-, h4, h5⟩ := (e_bring h.R h.I h.1.2.2.2.2 (j := nI j) (x := nI x)).2 (k_bring h hj h1 h2)
  rw [show tn (nI j) = j from tn_nI (by omega)] at h4 h5 ⊢
  obtain ⟨⟨hI, hJ, hR, hM, hC⟩, ⟨a1, a2, a3, a4⟩, b1, b2, b3, b4, b5, b6, b7⟩ := h
  have hE : cE C (va_up C (40 + j) (va_up (va_up (C (40 + j)) 7 (nI x)) 8 114)) := cE.row (fun k hk => by
    have : k ≤ 1 := by unfold cT at hk; omega
    rw [va_up_ne _ _ (by omega), va_up_ne _ _ (by omega)])
  have ne : ∀ r k, r ≠ 80 → r ≠ 81 → up2 (up2 B 81 j 114) 80 j (nI x) r k = B r k := fun r k q1 q2 => by rw [up2_ne (by omega), up2_ne (by omega)]
  refine ⟨_, ⟨⟨hE.keep hI, hJ, h4, ((mE.put (by omega)).trans (mE.put (by omega))).keep hM, h5⟩, ⟨a1, a2, hE.nb.trans a3, hE.np.trans a4⟩, fun i hi => ?_, fun i hi => ?_, fun i hi => ?_, fun b hb => ?_, b5.same (fun r k _ _ => ne r k (by omega) (by omega)), fun b hb => (b6 b hb).same (fun r k _ _ => ne r k (by omega) (by omega)) (ne _ _ (by omega) (by omega)) (ne _ _ (by omega) (by omega)), ?_⟩, x, h2, by rw [up2_ne (by omega), up2_eq], up2_eq⟩
  · rw [ne 70 i (by omega) (by omega), ne 71 i (by omega) (by omega), ne 73 i (by omega) (by omega), up2_ne (by omega), up2_ne (by omega), up2_ne (by omega)]; exact b1 i hi
  · rw [ne 82 i (by omega) (by omega), ne 83 i (by omega) (by omega), up2_ne (by omega), up2_ne (by omega)]; exact b2 i hi
  · by_cases q : i = j
    · subst q
      refine Or.inr ⟨by rw [up2_ne (by omega), up2_eq, up2_eq], Or.inl up2_eq, x, h2, up2_eq⟩
    · rw [up2_ne (by omega), up2_ne (by omega), up2_ne (by omega), up2_ne (by omega), up2_ne (by omega)]; exact b3 i hi
  · rw [ne 68 b (by omega) (by omega), ne 61 b (by omega) (by omega), up2_ne (by omega)]; exact b4 b hb
  · rw [ne 60 3 (by omega) (by omega)]; exact b7
end LW2
