section CURR
variable {Lv : Nat → Bool} {A B : ME} {T : Nat → Nat}
theorem fst_eq {b : Nat} (h : rLn A B T b) : kFst (mNq B b) (mLf B b) = kFst (cNq A b) (A (14 + 10 * b)) := by
  obtain ⟨-, -, -, p4, -, -⟩ := h
  rw [p4.1]
  exact kFst_ag (fun k hk => (p4.2 k hk).2.1)
theorem cur_n {b : Nat} (h : kFst (cNq A b) (A (14 + 10 * b)) = none) : cCur A b = none := by
  unfold cCur cAt
  rw [h, if_pos (Or.inl (by decide))]
theorem cur_s {b k : Nat} (hI : cI Lv A) (hb : b < cNb A) (h : kFst (cNq A b) (A (14 + 10 * b)) = some k) : ∃ j, k < cNq A b ∧ cCur A b = some j ∧ A (12 + 10 * b) k = nI j ∧ tn (A (12 + 10 * b) k) = j ∧ j < cNp A ∧ 0 < A (14 + 10 * b) k := by
  have hk := kFst_lt h
  obtain ⟨⟨-, -, -, -, -, -, h8, -, -, -, -, hq⟩, hb2⟩ := cI_lin hI hb
  have hn8 := hI.2.1
  obtain ⟨q, h1, h2⟩ := hq k hk
  have ht : tn (A (12 + 10 * b) k) = q := by rw [h2, tn_nI (by omega)]
  refine ⟨q, hk, ?_, h2, ht, h1, ?_⟩
  · unfold cCur cAt
    rw [h, show oI (some k) = nI k from rfl, if_neg (fun e => e.elim (nI_pos (by omega)) (fun e => by have := le_nI e (by omega) (by omega); omega)), tn_nI (by omega), ht]
  · have := (fsti_some h).2.2.1
    unfold kPos at this
    exact of_decide_eq_true this
theorem on_n {b : Nat} (h : rLn A B T b) (e : kFst (cNq A b) (A (14 + 10 * b)) = none) : mOn B b = -1 ∧ mWhy B b = 113 ∧ mBody B b = B := ⟨mOn_n ((fst_eq h).trans e), mWhy_n ((fst_eq h).trans e), mBody_n ((fst_eq h).trans e)⟩
theorem on_s {b k j : Nat} (h : rLn A B T b) (e : kFst (cNq A b) (A (14 + 10 * b)) = some k) (hj : A (12 + 10 * b) k = nI j) (hk : k < cNq A b) (hj8 : j < 8) : mOn B b = nI j ∧ mQ B b k = nI j ∧ tn (mQ B b k) = j ∧ mWhy B b = mWhyJ B b j ∧ mBody B b = mBodyJ B b j := by
  have e2 := (fst_eq h).trans e
  have hq : mQ B b k = nI j := ((h.2.2.2.1).2 k hk).1.trans hj
  have ht : tn (mQ B b k) = j := by rw [hq, tn_nI (by omega)]
  refine ⟨?_, hq, ht, ?_, ?_⟩
  · unfold mOn; rw [e2]; exact hq
  · rw [mWhy_s e2, ht]
  · rw [mBody_s e2, ht]
theorem mark_eq {f : Nat → Int32} {u : Nat} (hu : u < 10) : cMark f (nI u) = if f u = 0 then 0 else 1 := by
  unfold cMark
  rw [if_neg (fun e => e.elim (nI_pos (by omega)) (fun e => by have := le_nI e (by omega) (by decide); omega)), tn_nI (by omega)]
theorem mark_0 {f : Nat → Int32} {u : Nat} (hu : u < 10) : (cMark f (nI u) = 0) = (f u = 0) := by
  rw [mark_eq hu]
  by_cases h : f u = 0
  · rw [if_pos h]; simp [h]
  · rw [if_neg h]; simp [h]
theorem good_eq {j : Nat} (h : rP5 A B j) : (0 < A (40 + j) 7 ∧ A (40 + j) 8 = 98) = (B 81 j = 98 ∧ ¬ B 80 j = 0) := by
  apply propext
  rcases h with ⟨a1, a2, a3⟩ | ⟨a1, a2, ⟨l, a3, a4⟩, a5⟩
  · rw [a1, a2, a3]
    exact ⟨fun q => absurd q.1 (by decide), fun q => absurd q.1 (by decide)⟩
  · rw [a1, a2, a4]
    constructor
    · intro q
      exact ⟨q.2, fun e => by rw [e] at q; exact absurd q.1 (by decide)⟩
    · intro q
      refine ⟨?_, q.1⟩
      rw [show (0 : Int32) = nI 0 from rfl]
      rcases l with _ | l
      · exact absurd rfl q.2
      · exact nI_lt (by omega) (by omega)
theorem disk_eq {us rm d : Nat} (h1 : us ≤ rm) (h2 : rm ≤ 999) (h3 : d ≤ 99) : (nI rm - nI us < nI d) = (nI rm < nI us + nI d) := by
  apply propext
  rw [nI_add]
  have e : (nI rm - nI us).toInt = (rm : Int) - us := by
    rw [Int32.toInt_sub, nI_toInt (by omega), nI_toInt (by omega)]
    rw [Int.bmod_def]
    omega
  rw [Int32.lt_iff_toInt_lt, Int32.lt_iff_toInt_lt, e, nI_toInt (by omega), nI_toInt (by omega), nI_toInt (by omega)]
  omega
theorem whyJ_eq {b j : Nat} (hU : rU A B) (hL : rLn A B T b) (hP : rPj A B T j) : cWhyJ A b j = mWhyJ B b j := by
  obtain ⟨us, sc, w, d, b1, b2, -, -, -, -, -, b8, b9⟩ := hP.2.1
  obtain ⟨u1, rm, rt, c1, c2, c3, c4, c5, c6⟩ := hL.2.1
  obtain ⟨l1, l2, l3, l4, l5, l6⟩ := hL.1
  obtain ⟨q1, q2, q3, q4, q5⟩ := hP.1
  unfold cWhyJ mWhyJ
  simp only [l2, l4, l6, q2, q5, b1, b8, c1, c2, mark_0 b2, tn_nI (show us < 2 ^ 31 by omega), (hU.1 us b2).1, (hU.1 us b2).2, good_eq hP.2.2.2.2.1, disk_eq c4 c5 b9]
theorem why_eq {b : Nat} (hI : cI Lv A) (h : RelT A B T) (hb : b < cNb A) : cWhy A b = mWhy B b := by
  have hL := h.2.2.1 b hb
  rcases e : kFst (cNq A b) (A (14 + 10 * b)) with _ | k
  · rw [cWhy_n (cur_n e), (on_n hL e).2.1]
  · obtain ⟨j, hk, h1, h2, h3, h4, -⟩ := cur_s hI hb e
    have hn8 := hI.2.1
    rw [cWhy_s h1, (on_s hL e h2 hk (by omega)).2.2.2.1]
    exact whyJ_eq h.2.1 hL (h.2.2.2.1 j h4)
theorem on_eq {b : Nat} (hI : cI Lv A) (h : RelT A B T) (hb : b < cNb A) : (cCur A b = none ∧ mOn B b = -1) ∨ (¬ cCur A b = none ∧ ¬ mOn B b = -1 ∧ cOn A b = mOn B b) := by
  have hL := h.2.2.1 b hb
  have hn8 := hI.2.1
  rcases e : kFst (cNq A b) (A (14 + 10 * b)) with _ | k
  · exact Or.inl ⟨cur_n e, (on_n hL e).1⟩
  · obtain ⟨j, hk, h1, h2, h3, h4, -⟩ := cur_s hI hb e
    have ho := (on_s hL e h2 hk (by omega)).1
    refine Or.inr ⟨(by rw [h1]; exact fun q => (by cases q)), by rw [ho]; exact nI_ne1 (by omega), ?_⟩
    unfold cOn
    rw [h1, ho]
end CURR
section EASY2
variable {Lv : Nat → Bool} {A B : ME}
theorem e_reason (h : Rel A B) (hI : cI Lv A) {b : Int32} : kLine A b = jLine B b ∧ (kLine A b = 0 → cWhy A (tn b) = mWhy B (tn b)) := by
  refine ⟨by unfold kLine jLine okL okm; rw [h.nb], fun hk => ?_⟩
  unfold kLine at hk
  obtain ⟨t, t1, t2, t3, hT⟩ := h
  exact why_eq hI hT (okL_ix hI (if0 hk (by decide)).1).2
theorem e_on (h : Rel A B) (hI : cI Lv A) {b : Int32} : kOn A b = jOn B b ∧ (kOn A b = 0 → cOn A (tn b) = mOn B (tn b)) := by
  have hnb := h.nb
  obtain ⟨t, t1, t2, t3, hT⟩ := h
  unfold kOn jOn
  by_cases hok : okL A b
  · have hok2 : okm (mNb B) b := by unfold okm; rw [← hnb]; exact hok
    rw [if_pos hok, if_pos hok2]
    rcases on_eq hI hT (okL_ix hI hok).2 with ⟨a1, a2⟩ | ⟨a1, a2, a3⟩
    · rw [if_pos a1, if_neg (fun q => q a2)]; exact ⟨rfl, fun q => absurd q (by decide)⟩
    · rw [if_neg a1, if_pos a2]; exact ⟨rfl, fun _ => a3⟩
  · have hok2 : ¬ okm (mNb B) b := by unfold okm; rw [← hnb]; exact hok
    rw [if_neg hok, if_neg hok2]; exact ⟨rfl, fun q => absurd q (by decide)⟩
theorem e_fail (h : Rel A B) (hI : cI Lv A) {b : Int32} : kFail A b = jFail B b ∧ (kFail A b = 0 → cFail A (tn b) = (if mOn B (tn b) = -1 then 0 else 1) ∧ Rel (up2 A (10 + 10 * tn b) 10 1) (up2 B 69 (tn b) 1)) := by
  have hnb := h.nb
  obtain ⟨t, t1, t2, t3, hT⟩ := h
  unfold kFail jFail
  by_cases hok : okL A b
  · have hok2 : okm (mNb B) b := by unfold okm; rw [← hnb]; exact hok
    rw [if_pos hok, if_pos hok2]
    have hb := (okL_ix hI hok).2
    generalize tn b = b' at hb
    have hl := hT.2.2.1 b' hb
    have hb2 := (cI_lin hI hb).2
    rw [hl.1.2.2.2.2.2]
    refine ⟨rfl, fun hk => ⟨?_, t, t1, by rw [up2_ne (by omega)]; exact t2, by rw [up2_ne (by omega)]; exact t3, hT.line hI hb (cE.put (by unfold cT; omega)) (fun r k h1 h2 => up2_ne (by omega)) (fun r k h1 h2 h3 => up2_ne (by omega)) (fun k h1 h2 => up2_ne (by omega)) (hl.put hI hb _ (fun r i hr => up2_ne (by omega)) (by omega) ?_ ?_)⟩⟩
    · unfold cFail
      rcases on_eq hI hT hb with ⟨a1, a2⟩ | ⟨a1, a2, a3⟩
      · rw [if_pos a1, if_pos a2]
      · rw [if_neg a1, if_neg a2]
    · obtain ⟨a1, a2, a3, a4, a5, a6⟩ := hl.1
      unfold rL1
      simp (disch := omega) only [up2_ne, up2_eq]
      exact ⟨a1, a2, a3, a4, a5, trivial⟩
    · obtain ⟨us, rm, rt, a1, a2, a3, a4, a5, a6⟩ := hl.2.1
      unfold rL2
      simp (disch := omega) only [up2_ne, up2_eq]
      exact ⟨us, rm, rt, a1, a2, a3, a4, a5, a6⟩
  · have hok2 : ¬ okm (mNb B) b := by unfold okm; rw [← hnb]; exact hok
    rw [if_neg hok, if_neg hok2]; exact ⟨rfl, fun q => absurd q (by decide)⟩
theorem e_reserve (h : Rel A B) (hI : cI Lv A) {b : Int32} : kReserve A b = jRes B b ∧ (kReserve A b = 0 → A (13 + 10 * tn b) 2 = B 65 (tn b)) := by
  have hnb := h.nb
  obtain ⟨t, t1, t2, t3, hT⟩ := h
  unfold kReserve jRes
  by_cases hok : okL A b
  · have hok2 : okm (mNb B) b := by unfold okm; rw [← hnb]; exact hok
    rw [if_pos hok, if_pos hok2]
    have hl := hT.2.2.1 _ (okL_ix hI hok).2
    rw [hl.1.2.2.2.2.1]
    exact ⟨rfl, fun hk => (hl.2.2.1.2 (if0 hk (by decide)).1).symm⟩
  · have hok2 : ¬ okm (mNb B) b := by unfold okm; rw [← hnb]; exact hok
    rw [if_neg hok, if_neg hok2]; exact ⟨rfl, fun q => absurd q (by decide)⟩
theorem e_used (h : Rel A B) (hI : cI Lv A) {b : Int32} : kLine A b = jLine B b ∧ (kLine A b = 0 → A (10 + 10 * tn b) 8 = B 64 (tn b)) := by
  refine ⟨by unfold kLine jLine okL okm; rw [h.nb], fun hk => ?_⟩
  unfold kLine at hk
  obtain ⟨t, t1, t2, t3, hT⟩ := h
  exact (hT.2.2.1 _ (okL_ix hI (if0 hk (by decide)).1).2).1.2.2.2.1.symm
theorem e_time (h : Rel A B) : A 0 4 = B 60 3 := by
  obtain ⟨t, t1, t2, t3, hT⟩ := h
  rw [t2, t3]
end EASY2
