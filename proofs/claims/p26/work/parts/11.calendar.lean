theorem xm1 (x : Int32) : x + Int32.ofInt (-1) = x - 1 := by rw [Int32.sub_eq_add_neg]; rfl
set_option maxHeartbeats 4000000 in
set_option maxRecDepth 100000 in
/-- leftAt(k): the row at k, 0 outside -/
theorem sp_X1_leftAt {l : Launch} {g : GW} {ad : AD} {τ : RH} {c0 la n : Nat} {lf : Nat → Int32} {rs : Int32} {k : Int32} (hc : τ c0 = some (calO ad la n rs)) (hl : τ la = some (arI g 8 lf)) (hn : n ≤ 8) : Sp l g yX1_leftAt (.code yX1_leftAt cX1_leftAt 2 (some .int)) (rmv 1 0 0) [.ref (ad c0), .int k] ad τ 0 0 (fun v ad' τ' => v = some (.int (kAt n lf k)) ∧ ad' = ad ∧ τ' = τ) (NoX) := by
  refine Sp.of 0 [some (.ref (ad c0)), some (.int k)] (by decide +kernel) (Nat.le_of_ble_eq_true rfl) rfl ?_
  intro p e s m args below meth c A cx hout hr hnm
  refine a_iload_n cx dX1_leftAt_0 rfl rfl ?_
  refine a_if_lt cx (tgt := 21) dX1_leftAt_1 (by decide) (fun c_1 => ?_) (fun c_1 => ?_)
  · refine a_iconst cx (v := 0) dX1_leftAt_21 (by decide) ?_
    exact a_iret cx hr dX1_leftAt_22 (Nat.le_of_ble_eq_true rfl) (Nat.le_of_ble_eq_true rfl) ⟨vI (kAt_out (by first | exact Or.inl c_1 | exact Or.inr c_9)), rfl, rfl⟩
  · refine a_iload_n cx dX1_leftAt_4 rfl rfl ?_
    refine a_aload_n cx dX1_leftAt_5 rfl rfl ?_
    refine gf_X1_15 cx hc dX1_leftAt_6 ?_
    refine a_icmp_ge cx (tgt := 21) dX1_leftAt_9 (by decide) (fun c_9 => ?_) (fun c_9 => ?_)
    · refine a_iconst cx (v := 0) dX1_leftAt_21 (by decide) ?_
      exact a_iret cx hr dX1_leftAt_22 (Nat.le_of_ble_eq_true rfl) (Nat.le_of_ble_eq_true rfl) ⟨vI (kAt_out (by first | exact Or.inl c_1 | exact Or.inr c_9)), rfl, rfl⟩
    · refine a_iload_n cx dX1_leftAt_12 rfl rfl ?_
      refine a_aload_n cx dX1_leftAt_13 rfl rfl ?_
      refine gf_X1_9 cx hc dX1_leftAt_14 ?_
      refine a_alen cx 1 hl rfl rfl dX1_leftAt_17 ?_
      refine a_icmp_lt cx (tgt := 23) dX1_leftAt_18 (by decide) (fun c_18 => ?_) (fun c_18 => absurd (kk_lt c_1 c_9 hn) c_18)
      refine a_aload_n cx dX1_leftAt_23 rfl rfl ?_
      refine gf_X1_9 cx hc dX1_leftAt_24 ?_
      refine a_iload_n cx dX1_leftAt_27 rfl rfl ?_
      refine a_ild cx (tn k) hl ((ix_lt c_1 c_9 (by omega)).1) (Nat.lt_of_lt_of_le (ix_lt c_1 c_9 (by omega)).2 hn) (by decide) dX1_leftAt_28 ?_
      exact a_iret cx hr dX1_leftAt_29 (Nat.le_of_ble_eq_true rfl) (Nat.le_of_ble_eq_true rfl) ⟨vI (kAt_in c_1 c_9), rfl, rfl⟩

theorem kAh_le {n mm : Nat} {k : Int32} (h : mm = (if k < 0 then 0 else if tn k < n then tn k else n)) : mm ≤ n := by
  rw [h]; split
  · exact Nat.zero_le _
  · split <;> omega
theorem kAh_tn {k : Int32} (h : ¬ k < 0) : k = nI (tn k) ∧ tn k < 2 ^ 31 := by
  obtain ⟨j, hj, rfl⟩ := nI_of h
  rw [tn_nI hj]; exact ⟨rfl, hj⟩
theorem kAh_lt {n mm j : Nat} {k : Int32} (h : mm = (if k < 0 then 0 else if tn k < n then tn k else n)) (hj : j ≤ mm) (h1 : ¬ k ≤ nI j) (h2 : ¬ nI n ≤ nI j) : j < mm := by
  have hle := kAh_le h
  rcases Nat.lt_or_ge j mm with q | q
  · exact q
  · exfalso
    have e : j = mm := by omega
    subst e
    by_cases h0 : k < 0
    · exact h1 (by
        rw [if_pos h0] at h; subst h
        rw [Int32.lt_iff_toInt_lt] at h0
        rw [Int32.le_iff_toInt_le]
        have : (nI 0).toInt = 0 := rfl
        have h3 : (0 : Int32).toInt = 0 := rfl
        omega)
    · rw [if_neg h0] at h
      obtain ⟨e1, e2⟩ := kAh_tn h0
      by_cases ht : tn k < n
      · rw [if_pos ht] at h; subst h
        exact h1 (by rw [← e1]; exact Int32.le_refl _)
      · rw [if_neg ht] at h; subst h
        exact h2 (Int32.le_refl _)
theorem kAh_end {n mm j f : Nat} {k : Int32} (h : mm = (if k < 0 then 0 else if tn k < n then tn k else n)) (hj : j + f = mm) (h1 : k ≤ nI j ∨ nI n ≤ nI j) (hn : n ≤ 8 := by assumption) : f = 0 := by
  have hle := kAh_le h
  rcases h1 with h1 | h1
  · by_cases h0 : k < 0
    · rw [if_pos h0] at h; omega
    · rw [if_neg h0] at h
      obtain ⟨e1, e2⟩ := kAh_tn h0
      have : tn k ≤ j := by
        rw [e1] at h1
        exact (nI_leI e2 (by omega)).mp h1
      split at h <;> omega
  · have := (nI_leI (by omega) (by omega)).mp h1
    omega
set_option maxHeartbeats 4000000 in
set_option maxRecDepth 100000 in
/-- leftAheadOf(k): the sum of the places ahead of k -/
theorem sp_X1_leftAheadOf {l : Launch} {g : GW} {ad : AD} {τ : RH} {c0 la n : Nat} {lf : Nat → Int32} {rs : Int32} {k : Int32} (hc : τ c0 = some (calO ad la n rs)) (hl : τ la = some (arI g 8 lf)) (hn : n ≤ 8) : Sp l g yX1_leftAheadOf (.code yX1_leftAheadOf cX1_leftAheadOf 4 (some .int)) (rmv 2 0 0) [.ref (ad c0), .int k] ad τ 0 0 (fun v ad' τ' => v = some (.int (kAhead n lf k)) ∧ ad' = ad ∧ τ' = τ) (NoX) := by
  refine Sp.of 2 [some (.ref (ad c0)), some (.int k), none, none] (by decide +kernel) (Nat.le_of_ble_eq_true rfl) rfl ?_
  intro p e s m args below meth c A cx hout hr hnm
  obtain ⟨mm, hmm⟩ : ∃ mm, mm = (if k < 0 then 0 else if tn k < n then tn k else n) := ⟨_, rfl⟩
  have hka : kAhead n lf k = sumf (fun i => lf i) mm 0 0 := by unfold kAhead; rw [hmm]
  refine a_iconst cx (v := 0) dX1_leftAheadOf_0 (by decide) ?_
  refine a_istore_n2 cx dX1_leftAheadOf_1 rfl (by decide) (by intro w h; first | (cases h; rfl) | (cases h; assumption) | (cases h; done)) ?_
  refine a_iconst cx (v := 0) dX1_leftAheadOf_2 (by decide) ?_
  refine a_istore_n3 cx dX1_leftAheadOf_3 rfl (by decide) (by intro w h; first | (cases h; rfl) | (cases h; assumption) | (cases h; done)) ?_
  refine a_loop (σ := Nat × Int32) (fun f s => s.1 + f = mm ∧ sumf (fun i => lf i) f s.1 s.2 = kAhead n lf k) (fun _ => ad) (fun _ => τ) (fun s => [some (.ref (ad c0)), some (.int k), some (.int s.2), some (.int (nI s.1))]) mm (0, 0) ⟨Nat.zero_add _, hka.symm⟩ rfl rfl rfl ?_
  rintro f ⟨j, x⟩ ⟨hj, hx⟩ ih
  dsimp only at hj hx ⊢
  refine a_iload_n cx dX1_leftAheadOf_4 rfl rfl ?_
  refine a_iload_n cx dX1_leftAheadOf_5 rfl rfl ?_
  refine a_icmp_ge cx (tgt := 31) dX1_leftAheadOf_6 (by decide) (fun c_6 => ?_) (fun c_6 => ?_)
  · refine a_iload_n cx dX1_leftAheadOf_31 rfl rfl ?_
    exact a_iret cx hr dX1_leftAheadOf_32 (Nat.le_of_ble_eq_true rfl) (Nat.le_of_ble_eq_true rfl) ⟨vI (by have hz : f = 0 := kAh_end hmm hj (by first | exact Or.inl c_6 | exact Or.inr c_14); subst hz; exact hx), rfl, rfl⟩
  · refine a_iload_n cx dX1_leftAheadOf_9 rfl rfl ?_
    refine a_aload_n cx dX1_leftAheadOf_10 rfl rfl ?_
    refine gf_X1_15 cx hc dX1_leftAheadOf_11 ?_
    refine a_icmp_ge cx (tgt := 31) dX1_leftAheadOf_14 (by decide) (fun c_14 => ?_) (fun c_14 => ?_)
    · refine a_iload_n cx dX1_leftAheadOf_31 rfl rfl ?_
      exact a_iret cx hr dX1_leftAheadOf_32 (Nat.le_of_ble_eq_true rfl) (Nat.le_of_ble_eq_true rfl) ⟨vI (by have hz : f = 0 := kAh_end hmm hj (by first | exact Or.inl c_6 | exact Or.inr c_14); subst hz; exact hx), rfl, rfl⟩
    · have hjm : j < mm := kAh_lt hmm (by omega) c_6 c_14
      obtain ⟨f, rfl⟩ : ∃ f9, f = f9 + 1 := ⟨f - 1, by omega⟩
      refine a_iload_n cx dX1_leftAheadOf_17 rfl rfl ?_
      refine a_aload_n cx dX1_leftAheadOf_18 rfl rfl ?_
      refine a_iload_n cx dX1_leftAheadOf_19 rfl rfl ?_
      refine a_callV cx 1 (sp_X1_leftAt (k := nI j) hc hl hn) hc rfl ml_X1_22 im_X1_leftAt se_X1_leftAt ini_X1 cd_X1_leftAt rfl rfl (by decide +kernel) rfl rfl ⟨(Nat.le_of_ble_eq_true rfl), (Nat.le_of_ble_eq_true rfl)⟩ (Nat.le_of_ble_eq_true rfl) dX1_leftAheadOf_20 ⟨(Nat.le_of_ble_eq_true rfl), (Nat.le_of_ble_eq_true rfl)⟩ (fun _ _ _ h => h.elim) (fun v9 ad9 τ9 hP => ?_)
      obtain ⟨rfl, h2, h3⟩ := hP
      replace h2 := h2.symm
      subst h2
      replace h3 := h3.symm
      subst h3
      rw [kAt_nI (Nat.lt_of_lt_of_le hjm (kAh_le hmm)) hn]
      refine a_iadd cx dX1_leftAheadOf_23 ?_
      refine a_istore_n2 cx dX1_leftAheadOf_24 rfl (by decide) (by intro w h; first | (cases h; rfl) | (cases h; assumption) | (cases h; done)) ?_
      refine a_iinc3 cx (nI (j + 1)) dX1_leftAheadOf_25 (nI_1 j) (by decide) (by intro w h; first | (cases h; rfl) | (cases h; assumption) | (cases h; done)) ?_
      refine a_goto cx (tgt := 4) dX1_leftAheadOf_28 (by decide) ?_
      exact ih f (j + 1, x + lf j) (Nat.lt_succ_self f) ⟨by omega, hx⟩

set_option maxHeartbeats 4000000 in
set_option maxRecDepth 100000 in
/-- firstPlace() -/
theorem sp_X1_firstPlace {l : Launch} {g : GW} {ad : AD} {τ : RH} {c0 la n : Nat} {lf : Nat → Int32} {rs : Int32} (hc : τ c0 = some (calO ad la n rs)) (hl : τ la = some (arI g 8 lf)) (hn : n ≤ 8) : Sp l g yX1_firstPlace (.code yX1_firstPlace cX1_firstPlace 2 (some .int)) (rmv 2 0 0) [.ref (ad c0)] ad τ 0 0 (fun v ad' τ' => v = some (.int (oI (kFst n lf))) ∧ ad' = ad ∧ τ' = τ) (NoX) := by
  refine Sp.of 1 [some (.ref (ad c0)), none] (by decide +kernel) (Nat.le_of_ble_eq_true rfl) rfl ?_
  intro p e s m args below meth c A cx hout hr hnm
  refine a_iconst cx (v := 0) dX1_firstPlace_0 (by decide) ?_
  refine a_istore_n1 cx dX1_firstPlace_1 rfl (by decide) (by intro w h; first | (cases h; rfl) | (cases h; assumption) | (cases h; done)) ?_
  refine a_loop (σ := Nat) (fun f j => j + f = n ∧ fsti (kPos lf) f j = kFst n lf) (fun _ => ad) (fun _ => τ) (fun j => [some (.ref (ad c0)), some (.int (nI j))]) n 0 ⟨Nat.zero_add _, rfl⟩ rfl rfl rfl ?_
  rintro f j ⟨hj, hx⟩ ih
  try dsimp only
  refine a_iload_n cx dX1_firstPlace_2 rfl rfl ?_
  refine a_aload_n cx dX1_firstPlace_3 rfl rfl ?_
  refine gf_X1_15 cx hc dX1_firstPlace_4 ?_
  refine a_icmp_ge cx (tgt := 26) dX1_firstPlace_7 (by decide) (fun c_7 => ?_) (fun c_7 => ?_)
  · refine a_iconst cx (v := -1) dX1_firstPlace_26 (by decide) ?_
    exact a_iret cx hr dX1_firstPlace_27 (Nat.le_of_ble_eq_true rfl) (Nat.le_of_ble_eq_true rfl) ⟨vI (by have h9 := (nI_leI (by omega) (by omega)).mp c_7; have hz : f = 0 := (by omega); subst hz; rw [← hx]; rfl), rfl, rfl⟩
  · have hjn : j < n := by
      rcases Nat.lt_or_ge j n with q | q
      · exact q
      · exact absurd (nI_le q (by omega)) c_7
    obtain ⟨f, rfl⟩ : ∃ f9, f = f9 + 1 := ⟨f - 1, by omega⟩
    unfold fsti at hx
    refine a_aload_n cx dX1_firstPlace_10 rfl rfl ?_
    refine a_iload_n cx dX1_firstPlace_11 rfl rfl ?_
    refine a_callV cx 1 (sp_X1_leftAt (k := nI j) hc hl hn) hc rfl ml_X1_22 im_X1_leftAt se_X1_leftAt ini_X1 cd_X1_leftAt rfl rfl (by decide +kernel) rfl rfl ⟨(Nat.le_of_ble_eq_true rfl), (Nat.le_of_ble_eq_true rfl)⟩ (Nat.le_of_ble_eq_true rfl) dX1_firstPlace_12 ⟨(Nat.le_of_ble_eq_true rfl), (Nat.le_of_ble_eq_true rfl)⟩ (fun _ _ _ h => h.elim) (fun v9 ad9 τ9 hP => ?_)
    obtain ⟨rfl, h2, h3⟩ := hP
    replace h2 := h2.symm
    subst h2
    replace h3 := h3.symm
    subst h3
    rw [kAt_nI hjn hn]
    refine a_if_le cx (tgt := 20) dX1_firstPlace_15 (by decide) (fun c_15 => ?_) (fun c_15 => ?_)
    · refine a_iinc1 cx (nI (j + 1)) dX1_firstPlace_20 (nI_1 j) (by decide) (by intro w h; first | (cases h; rfl) | (cases h; assumption) | (cases h; done)) ?_
      refine a_goto cx (tgt := 2) dX1_firstPlace_23 (by decide) ?_
      rw [if_neg (by simpa [kPos] using le_not_pos c_15)] at hx
      exact ih f (j + 1) (Nat.lt_succ_self f) ⟨by omega, hx⟩
    · refine a_iload_n cx dX1_firstPlace_18 rfl rfl ?_
      exact a_iret cx hr dX1_firstPlace_19 (Nat.le_of_ble_eq_true rfl) (Nat.le_of_ble_eq_true rfl) ⟨vI (by rw [if_pos (by simpa [kPos] using not_le_pos c_15)] at hx; rw [← hx]; rfl), rfl, rfl⟩

theorem kLs_0 {n j : Nat} (hjn : j ≤ n) (hn : n ≤ 8) (h : nI j - 1 < 0) : j = 0 := by
  cases j with
  | zero => rfl
  | succ j => rw [nI_pred] at h; exact absurd h (nI_pos (by omega))
set_option maxHeartbeats 4000000 in
set_option maxRecDepth 100000 in
/-- lastPlace() -/
theorem sp_X1_lastPlace {l : Launch} {g : GW} {ad : AD} {τ : RH} {c0 la n : Nat} {lf : Nat → Int32} {rs : Int32} (hc : τ c0 = some (calO ad la n rs)) (hl : τ la = some (arI g 8 lf)) (hn : n ≤ 8) : Sp l g yX1_lastPlace (.code yX1_lastPlace cX1_lastPlace 2 (some .int)) (rmv 2 0 0) [.ref (ad c0)] ad τ 0 0 (fun v ad' τ' => v = some (.int (oI (kLst n lf))) ∧ ad' = ad ∧ τ' = τ) (NoX) := by
  refine Sp.of 1 [some (.ref (ad c0)), none] (by decide +kernel) (Nat.le_of_ble_eq_true rfl) rfl ?_
  intro p e s m args below meth c A cx hout hr hnm
  refine a_aload_n cx dX1_lastPlace_0 rfl rfl ?_
  refine gf_X1_15 cx hc dX1_lastPlace_1 ?_
  refine a_iconst cx (v := 1) dX1_lastPlace_4 (by decide) ?_
  refine a_isub cx dX1_lastPlace_5 ?_
  refine a_istore_n1 cx dX1_lastPlace_6 rfl (by decide) (by intro w h; first | (cases h; rfl) | (cases h; assumption) | (cases h; done)) ?_
  refine a_loop (σ := Nat) (fun f j => j = f ∧ j ≤ n ∧ lsti (kPos lf) j = kLst n lf) (fun _ => ad) (fun _ => τ) (fun j => [some (.ref (ad c0)), some (.int (nI j - 1))]) n n ⟨rfl, Nat.le_refl _, rfl⟩ rfl rfl rfl ?_
  rintro f j ⟨rfl, hjn, hx⟩ ih
  try dsimp only
  refine a_iload_n cx dX1_lastPlace_7 rfl rfl ?_
  refine a_if_lt cx (tgt := 27) dX1_lastPlace_8 (by decide) (fun c_8 => ?_) (fun c_8 => ?_)
  · refine a_iconst cx (v := -1) dX1_lastPlace_27 (by decide) ?_
    exact a_iret cx hr dX1_lastPlace_28 (Nat.le_of_ble_eq_true rfl) (Nat.le_of_ble_eq_true rfl) ⟨vI (by have hz : j = 0 := kLs_0 hjn hn c_8; subst hz; rw [← hx]; rfl), rfl, rfl⟩
  · obtain ⟨j, rfl⟩ : ∃ j9, j = j9 + 1 := by
      cases j with
      | zero => exact absurd (by decide) c_8
      | succ j => exact ⟨j, rfl⟩
    rw [nI_pred]
    unfold lsti at hx
    refine a_aload_n cx dX1_lastPlace_11 rfl rfl ?_
    refine a_iload_n cx dX1_lastPlace_12 rfl rfl ?_
    refine a_callV cx 1 (sp_X1_leftAt (k := nI j) hc hl hn) hc rfl ml_X1_22 im_X1_leftAt se_X1_leftAt ini_X1 cd_X1_leftAt rfl rfl (by decide +kernel) rfl rfl ⟨(Nat.le_of_ble_eq_true rfl), (Nat.le_of_ble_eq_true rfl)⟩ (Nat.le_of_ble_eq_true rfl) dX1_lastPlace_13 ⟨(Nat.le_of_ble_eq_true rfl), (Nat.le_of_ble_eq_true rfl)⟩ (fun _ _ _ h => h.elim) (fun v9 ad9 τ9 hP => ?_)
    obtain ⟨rfl, h2, h3⟩ := hP
    replace h2 := h2.symm
    subst h2
    replace h3 := h3.symm
    subst h3
    rw [kAt_nI hjn hn]
    refine a_if_le cx (tgt := 21) dX1_lastPlace_16 (by decide) (fun c_16 => ?_) (fun c_16 => ?_)
    · refine a_iinc1 cx (nI j - 1) dX1_lastPlace_21 (xm1 _) (by decide) (by intro w h; first | (cases h; rfl) | (cases h; assumption) | (cases h; done)) ?_
      refine a_goto cx (tgt := 7) dX1_lastPlace_24 (by decide) ?_
      rw [if_neg (by simpa [kPos] using le_not_pos c_16)] at hx
      exact ih j j (Nat.lt_succ_self j) ⟨rfl, by omega, hx⟩
    · refine a_iload_n cx dX1_lastPlace_19 rfl rfl ?_
      exact a_iret cx hr dX1_lastPlace_20 (Nat.le_of_ble_eq_true rfl) (Nat.le_of_ble_eq_true rfl) ⟨vI (by rw [if_pos (by simpa [kPos] using not_le_pos c_16)] at hx; rw [← hx]; rfl), rfl, rfl⟩

theorem kTake_out {lf : Nat → Int32} {k : Int32} (h : k < 0 ∨ nI 8 ≤ k) : kTake lf k = lf := by unfold kTake; rw [if_pos h]
theorem kTake_no {lf : Nat → Int32} {k : Int32} (h0 : ¬ k < 0) (h1 : ¬ nI 8 ≤ k) (h2 : ¬ 0 < lf (tn k)) : kTake lf k = lf := by unfold kTake; rw [if_neg (fun h => h.elim h0 h1), if_neg h2]
theorem kTake_in {lf : Nat → Int32} {k : Int32} (h0 : ¬ k < 0) (h1 : ¬ nI 8 ≤ k) (h2 : 0 < lf (tn k)) : kTake lf k = va_up lf (tn k) (lf (tn k) - 1) := by unfold kTake; rw [if_neg (fun h => h.elim h0 h1), if_pos h2]
set_option maxHeartbeats 4000000 in
set_option maxRecDepth 100000 in
/-- takeFrom(k) -/
theorem sp_X1_takeFrom {l : Launch} {g : GW} {ad : AD} {τ : RH} {c0 la n : Nat} {lf : Nat → Int32} {rs : Int32} {k : Int32} (hc : τ c0 = some (calO ad la n rs)) (hl : τ la = some (arI g 8 lf)) : Sp l g yX1_takeFrom (.code yX1_takeFrom cX1_takeFrom 2 none) (rmv 1 0 0) [.ref (ad c0), .int k] ad τ 0 0 (fun v ad' τ' => v = none ∧ ad' = ad ∧ τ' = va_up τ la (some (arI g 8 (kTake lf k)))) (NoX) := by
  refine Sp.of 0 [some (.ref (ad c0)), some (.int k)] (by decide +kernel) (Nat.le_of_ble_eq_true rfl) rfl ?_
  intro p e s m args below meth c A cx hout hr hnm
  refine a_iload_n cx dX1_takeFrom_0 rfl rfl ?_
  refine a_if_lt cx (tgt := 32) dX1_takeFrom_1 (by decide) (fun c_1 => ?_) (fun c_1 => ?_)
  · exact a_vret cx hr dX1_takeFrom_32 (Nat.le_of_ble_eq_true rfl) (Nat.le_of_ble_eq_true rfl) ⟨rfl, rfl, by first | (rw [kTake_out (Or.inl c_1), up_some hl]) | (rw [kTake_out (Or.inr c_10), up_some hl]) | (rw [kTake_no c_1 c_10 (le_not_pos c_19), up_some hl]) | (rw [kTake_in c_1 c_10 (not_le_pos c_19)])⟩
  · refine a_iload_n cx dX1_takeFrom_4 rfl rfl ?_
    refine a_aload_n cx dX1_takeFrom_5 rfl rfl ?_
    refine gf_X1_9 cx hc dX1_takeFrom_6 ?_
    refine a_alen cx 1 hl rfl rfl dX1_takeFrom_9 ?_
    refine a_icmp_ge cx (tgt := 32) dX1_takeFrom_10 (by decide) (fun c_10 => ?_) (fun c_10 => ?_)
    · exact a_vret cx hr dX1_takeFrom_32 (Nat.le_of_ble_eq_true rfl) (Nat.le_of_ble_eq_true rfl) ⟨rfl, rfl, by first | (rw [kTake_out (Or.inl c_1), up_some hl]) | (rw [kTake_out (Or.inr c_10), up_some hl]) | (rw [kTake_no c_1 c_10 (le_not_pos c_19), up_some hl]) | (rw [kTake_in c_1 c_10 (not_le_pos c_19)])⟩
    · refine a_aload_n cx dX1_takeFrom_13 rfl rfl ?_
      refine gf_X1_9 cx hc dX1_takeFrom_14 ?_
      refine a_iload_n cx dX1_takeFrom_17 rfl rfl ?_
      refine a_ild cx (tn k) hl ((ix_lt c_1 c_10 (by decide)).1) ((ix_lt c_1 c_10 (by decide)).2) (by decide) dX1_takeFrom_18 ?_
      refine a_if_le cx (tgt := 32) dX1_takeFrom_19 (by decide) (fun c_19 => ?_) (fun c_19 => ?_)
      · exact a_vret cx hr dX1_takeFrom_32 (Nat.le_of_ble_eq_true rfl) (Nat.le_of_ble_eq_true rfl) ⟨rfl, rfl, by first | (rw [kTake_out (Or.inl c_1), up_some hl]) | (rw [kTake_out (Or.inr c_10), up_some hl]) | (rw [kTake_no c_1 c_10 (le_not_pos c_19), up_some hl]) | (rw [kTake_in c_1 c_10 (not_le_pos c_19)])⟩
      · refine a_aload_n cx dX1_takeFrom_22 rfl rfl ?_
        refine gf_X1_9 cx hc dX1_takeFrom_23 ?_
        refine a_iload_n cx dX1_takeFrom_26 rfl rfl ?_
        refine a_dup2 cx dX1_takeFrom_27 rfl rfl ?_
        refine a_ild cx (tn k) hl ((ix_lt c_1 c_10 (by decide)).1) ((ix_lt c_1 c_10 (by decide)).2) (by decide) dX1_takeFrom_28 ?_
        refine a_iconst cx (v := 1) dX1_takeFrom_29 (by decide) ?_
        refine a_isub cx dX1_takeFrom_30 ?_
        refine a_ist cx (tn k) hl ((ix_lt c_1 c_10 (by decide)).1) ((ix_lt c_1 c_10 (by decide)).2) (by decide)  dX1_takeFrom_31 ?_
        exact a_vret cx hr dX1_takeFrom_32 (Nat.le_of_ble_eq_true rfl) (Nat.le_of_ble_eq_true rfl) ⟨rfl, rfl, by first | (rw [kTake_out (Or.inl c_1), up_some hl]) | (rw [kTake_out (Or.inr c_10), up_some hl]) | (rw [kTake_no c_1 c_10 (le_not_pos c_19), up_some hl]) | (rw [kTake_in c_1 c_10 (not_le_pos c_19)])⟩

theorem kLose_r {n : Nat} {lf : Nat → Int32} {rs : Int32} (h : ¬ rs ≤ 0) : kFollow n lf rs 108 = (lf, rs - 1, -1) := by
  unfold kFollow; rw [if_neg (by decide), if_pos rfl, if_pos (not_le_pos h)]
theorem kLose_t {n : Nat} {lf : Nat → Int32} {rs : Int32} (h : rs ≤ 0) : kFollow n lf rs 108 = (kTake lf (oI (kLst n lf)), rs, oI (kLst n lf)) := by
  unfold kFollow; rw [if_neg (by decide), if_pos rfl, if_neg (le_not_pos h)]
set_option maxHeartbeats 4000000 in
set_option maxRecDepth 100000 in
/-- lose() -/
theorem sp_X1_lose {l : Launch} {g : GW} {ad : AD} {τ : RH} {c0 la n : Nat} {lf : Nat → Int32} {rs : Int32} (hc : τ c0 = some (calO ad la n rs)) (hl : τ la = some (arI g 8 lf)) (hn : n ≤ 8) : Sp l g yX1_lose (.code yX1_lose cX1_lose 2 (some .int)) (rmv 3 0 0) [.ref (ad c0)] ad τ 0 0 (fun v ad' τ' => v = some (.int (kFollow n lf rs 108).2.2) ∧ ad' = ad ∧ τ' = va_up (va_up τ la (some (arI g 8 (kFollow n lf rs 108).1))) c0 (some (calO ad la n (kFollow n lf rs 108).2.1))) (NoX) := by
  refine Sp.of 1 [some (.ref (ad c0)), none] (by decide +kernel) (Nat.le_of_ble_eq_true rfl) rfl ?_
  intro p e s m args below meth c A cx hout hr hnm
  refine a_aload_n cx dX1_lose_0 rfl rfl ?_
  refine gf_X1_19 cx hc dX1_lose_1 ?_
  refine a_if_le cx (tgt := 19) dX1_lose_4 (by decide) (fun c_4 => ?_) (fun c_4 => ?_)
  · refine a_aload_n cx dX1_lose_19 rfl rfl ?_
    refine a_callV cx 0 (sp_X1_lastPlace hc hl hn) hc rfl ml_X1_37 im_X1_lastPlace se_X1_lastPlace ini_X1 cd_X1_lastPlace rfl rfl (by decide +kernel) rfl rfl ⟨(Nat.le_of_ble_eq_true rfl), (Nat.le_of_ble_eq_true rfl)⟩ (Nat.le_of_ble_eq_true rfl) dX1_lose_20 ⟨(Nat.le_of_ble_eq_true rfl), (Nat.le_of_ble_eq_true rfl)⟩ (fun _ _ _ h => h.elim) (fun v9 ad9 τ9 hP => ?_)
    obtain ⟨rfl, h2, h3⟩ := hP
    replace h2 := h2.symm
    subst h2
    replace h3 := h3.symm
    subst h3
    refine a_istore_n1 cx dX1_lose_23 rfl (by decide) (by intro w h; first | (cases h; rfl) | (cases h; assumption) | (cases h; done)) ?_
    refine a_aload_n cx dX1_lose_24 rfl rfl ?_
    refine a_iload_n cx dX1_lose_25 rfl rfl ?_
    refine a_callV cx 1 (sp_X1_takeFrom (k := oI (kLst n lf)) hc hl) hc rfl ml_X1_30 im_X1_takeFrom se_X1_takeFrom ini_X1 cd_X1_takeFrom rfl rfl (by decide +kernel) rfl rfl ⟨(Nat.le_of_ble_eq_true rfl), (Nat.le_of_ble_eq_true rfl)⟩ (Nat.le_of_ble_eq_true rfl) dX1_lose_26 ⟨(Nat.le_of_ble_eq_true rfl), (Nat.le_of_ble_eq_true rfl)⟩ (fun _ _ _ h => h.elim) (fun v9 ad9 τ9 hP => ?_)
    obtain ⟨rfl, h2, h3⟩ := hP
    replace h2 := h2.symm
    subst h2
    replace h3 := h3.symm
    subst h3
    refine a_iload_n cx dX1_lose_29 rfl rfl ?_
    exact a_iret cx hr dX1_lose_30 (Nat.le_of_ble_eq_true rfl) (Nat.le_of_ble_eq_true rfl) ⟨vI (by rw [kLose_t c_4]), rfl, by rw [kLose_t c_4]; dsimp only; rw [up_some (r := c0) (by rw [va_up_ne _ _ (r_ne hc hl (by simp))]; exact hc)]⟩
  · refine a_aload_n cx dX1_lose_7 rfl rfl ?_
    refine a_dup cx dX1_lose_8 rfl ?_
    refine gf_X1_19 cx hc dX1_lose_9 ?_
    refine a_iconst cx (v := 1) dX1_lose_12 (by decide) ?_
    refine a_isub cx dX1_lose_13 ?_
    refine pf_X1_19 cx hc dX1_lose_14 ?_
    refine a_iconst cx (v := -1) dX1_lose_17 (by decide) ?_
    exact a_iret cx hr dX1_lose_18 (Nat.le_of_ble_eq_true rfl) (Nat.le_of_ble_eq_true rfl) ⟨vI (by rw [kLose_r c_4]), rfl, by rw [kLose_r c_4, up_some hl]⟩

