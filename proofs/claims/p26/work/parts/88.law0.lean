/-! the numbers at the law's loop -/
section LW0
variable {Lv : Nat → Bool} {C B W : ME} {n T j b : Nat}
def pI (Lv : Nat → Bool) (C B : ME) : Prop := cI Lv C ∧ lJ Lv ∧ Rel C B ∧ mI B ∧ rC C
def lw1 (n : Nat) (W B : ME) : Prop := ∀ j, j < n → (∃ b, b < 2 ∧ W 85 j = nI b ∧ B 70 j = nI b) ∧ (∃ u, u < 4 ∧ W 87 j = nI u ∧ B 71 j = nI u) ∧ B 73 j = W 86 j
def lw2 (W B : ME) : Prop := ∀ u, u < 10 → B 82 u = W 88 u ∧ B 83 u = W 89 u
def lw3 (n : Nat) (W B : ME) : Prop := ∀ j, j < n → (W 90 j = 0 ∧ B 81 j = 110) ∨ (B 81 j = W 90 j ∧ (W 90 j = 114 ∨ W 90 j = 99 ∨ W 90 j = 98) ∧ ∃ l : Nat, l ≤ 50 ∧ B 80 j = nI l)
def lwS (n T : Nat) (W : ME) (Lv : Nat → Bool) (C B : ME) : Prop :=
  pI Lv C B ∧ (1 ≤ n ∧ n ≤ 8 ∧ cNb C = 2 ∧ cNp C = n) ∧ lw1 n W B ∧ lw2 W B ∧ lw3 n W B ∧ (∀ b, b < 2 → ¬ B 68 b = 0 ∧ B 61 b = W 84 b) ∧ ac1 B n ∧ (∀ b, b < 2 → ac2 B n b) ∧ ∃ t, t ≤ T ∧ B 60 3 = nI t
theorem lwS.R (h : lwS n T W Lv C B) : Rel C B := h.1.2.2.1
theorem lwS.I (h : lwS n T W Lv C B) : cI Lv C := h.1.1
theorem lwS.nb (h : lwS n T W Lv C B) : mNb B = 2 := by rw [← h.R.nb]; exact h.2.1.2.2.1
theorem lwS.np (h : lwS n T W Lv C B) : mNp B = n := by rw [← h.R.np]; exact h.2.1.2.2.2
theorem lwS.n8 (h : lwS n T W Lv C B) : n ≤ 8 := h.2.1.2.1
theorem ok_m {k m : Nat} (h : k < m) (hm : m ≤ 100) : okm m (nI k) := ⟨nI_pos (by omega), nI_ge h (by omega)⟩
theorem lwS.q (h : lwS n T W Lv C B) : qOK B n := fun b hb k hk => by
  have hI := h.I
  have hb' : b < cNb C := by rw [h.2.1.2.2.1]; exact hb
  have hn := h.2.1.2.2.2
  obtain ⟨t, -, -, -, hT⟩ := h.R
  obtain ⟨e1, e2⟩ := (hT.2.2.1 b hb').2.2.2.1
  rw [e1] at hk
  obtain ⟨a1, a2, a3, a4, a5⟩ := e2 k hk
  obtain ⟨q, q1, q2⟩ := (cI_lin hI hb').1.2.2.2.2.2.2.2.2.2.2.2 k hk
  have hq : tn (C (12 + 10 * b) k) = q := by rw [q2, tn_nI (by have := hI.2.1; omega)]
  rw [a1, hq]
  rw [hq] at a5
  exact ⟨by omega, by rw [(hT.2.2.2.1 q q1).1.1]; exact a5⟩
theorem rr_of {K a x : Int32} (h : K = 0) (e : a = x) : rr K a = x := by unfold rr; rw [if_pos h, e]
theorem rr_no {K k a x : Int32} (h : K = k) (h0 : ¬ k = 0) (e : -1000 - k = x) : rr K a = x := by unfold rr; rw [h, if_neg h0, e]
theorem v_reserve (h : lwS n T W Lv C B) (hb : b < 2) : rr (kReserve C (nI b)) (C (13 + 10 * tn (nI b)) 2) = B 65 b := by
  have e := e_reserve h.R h.I (b := nI b)
  have hk : kReserve C (nI b) = 0 := by
    rw [e.1]
    unfold jRes
    rw [h.nb, if_pos (ok_m hb (by decide)), tn_nI (by omega), if_pos (h.2.2.2.2.2.1 b hb).1]
  refine rr_of hk ((e.2 hk).trans ?_)
  rw [tn_nI (by omega)]
theorem k_prop (h : lwS n T W Lv C B) (hj : j < n) : kProp C (nI j) = 0 := by
  have e := (e_left h.R h.I (j := nI j)).1
  rw [e]
  unfold jProp
  rw [h.np, if_pos (ok_m hj (by have := h.n8; omega))]
theorem v_left (h : lwS n T W Lv C B) (hj : j < n) : rr (kProp C (nI j)) (cLeft C (tn (nI j))) = B 75 j := by
  have hk := k_prop h hj
  have h8 := h.n8
  refine rr_of hk (((e_left h.R h.I (j := nI j)).2 hk).trans ?_)
  rw [tn_nI (by omega)]
theorem v_anew (h : lwS n T W Lv C B) (hj : j < n) : rr (kProp C (nI j)) (cAnew C (tn (nI j))) = B 75 j := by
  have hk := k_prop h hj
  have h8 := h.n8
  refine rr_of hk (((e_leftAnew h.R h.I (j := nI j)).2 hk).trans ?_)
  rw [tn_nI (by omega)]
theorem v_count (h : lwS n T W Lv C B) (hj : j < n) {x : Int32} (hx : x = 100 ∨ x = 109 ∨ x = 108 ∨ x = 111) : rr (kCount C (nI j) x) (cCount C (tn (nI j)) x) = mCount B j x := by
  have e := e_count h.R h.I (j := nI j) (x := x)
  have h8 := h.n8
  have hk : kCount C (nI j) x = 0 := by
    rw [e.1]
    unfold jCount
    rw [h.np, if_pos (ok_m hj (by omega)), if_pos hx]
  refine rr_of hk ((e.2 hk).trans ?_)
  rw [tn_nI (by omega)]
theorem v_life (h : lwS n T W Lv C B) (hj : j < n) : rr (kLife C (nI j)) (C (40 + tn (nI j)) 7) = if B 81 j = 110 then -1002 else B 80 j := by
  have e := e_life h.R h.I (j := nI j)
  have h8 := h.n8
  have ek : kLife C (nI j) = if B 81 j = 110 then 2 else 0 := by
    rw [e.1]
    unfold jLife
    rw [h.np, if_pos (ok_m hj (by omega)), tn_nI (by omega)]
    by_cases q : B 81 j = 110
    · rw [if_neg (fun z => z q), if_pos q]
    · rw [if_pos q, if_neg q]
  by_cases q : B 81 j = 110
  · rw [if_pos q] at ek ⊢
    exact rr_no ek (by decide) (by decide)
  · rw [if_neg q] at ek ⊢
    refine rr_of ek ((e.2 ek).trans ?_)
    rw [tn_nI (by omega)]
theorem v_on (h : lwS n T W Lv C B) (hb : b < 2) : rr (kOn C (nI b)) (cOn C (tn (nI b))) = if mOn B b = -1 then -1002 else mOn B b := by
  have e := e_on h.R h.I (b := nI b)
  have ek : kOn C (nI b) = if mOn B b = -1 then 2 else 0 := by
    rw [e.1]
    unfold jOn
    rw [h.nb, if_pos (ok_m hb (by decide)), tn_nI (by omega)]
    by_cases q : mOn B b = -1
    · rw [if_neg (fun z => z q), if_pos q]
    · rw [if_pos q, if_neg q]
  by_cases q : mOn B b = -1
  · rw [if_pos q] at ek ⊢
    exact rr_no ek (by decide) (by decide)
  · rw [if_neg q] at ek ⊢
    refine rr_of ek ((e.2 ek).trans ?_)
    rw [tn_nI (by omega)]
theorem v_reason (h : lwS n T W Lv C B) (hb : b < 2) : rr (kLine C (nI b)) (cWhy C (tn (nI b))) = mWhy B b := by
  have e := e_reason h.R h.I (b := nI b)
  have hk : kLine C (nI b) = 0 := by
    rw [e.1]
    unfold jLine
    rw [h.nb, if_pos (ok_m hb (by decide))]
  refine rr_of hk ((e.2 hk).trans ?_)
  rw [tn_nI (by omega)]
theorem v_time (h : lwS n T W Lv C B) : C 0 4 = B 60 3 := e_time h.R
end LW0
