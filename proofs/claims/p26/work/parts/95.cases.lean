section LAP
variable {g : GW} {ad : AD} {τ : RH} {Lv : Nat → Bool} {C B W : ME} {n T T' j u b : Nat}
theorem la_p88 (hH : HH g ad Lv C (laR g n W) τ) (i : Nat) (x : Int32) : HH g ad Lv C (laR g n (up2 W 88 i x)) (va_up τ 88 (some (arZ g 10 (va_up (W 88) i x)))) := by
  have h := hH.rho (r := 88) (by decide) (some (arZ g 10 (va_up (W 88) i x)))
  have e : va_up (laR g n W) 88 (some (arZ g 10 (va_up (W 88) i x))) = laR g n (up2 W 88 i x) := by
    funext q
    by_cases hq : q = 88
    · subst hq
      rw [va_up_self]
      show _ = some (arZ g 10 (up2 W 88 i x 88))
      unfold up2
      rw [va_up_self]
    · rw [va_up_ne _ _ hq]
      unfold laR
      rw [up2_row (r' := 84) (by decide), up2_row (r' := 85) (by decide), up2_row (r' := 86) (by decide), up2_row (r' := 87) (by decide), up2_row (r' := 89) (by decide), up2_row (r' := 90) (by decide)]
      simp only [if_neg hq]
  rw [e] at h
  exact h
theorem la_p89 (hH : HH g ad Lv C (laR g n W) τ) (i : Nat) (x : Int32) : HH g ad Lv C (laR g n (up2 W 89 i x)) (va_up τ 89 (some (arZ g 10 (va_up (W 89) i x)))) := by
  have h := hH.rho (r := 89) (by decide) (some (arZ g 10 (va_up (W 89) i x)))
  have e : va_up (laR g n W) 89 (some (arZ g 10 (va_up (W 89) i x))) = laR g n (up2 W 89 i x) := by
    funext q
    by_cases hq : q = 89
    · subst hq
      rw [va_up_self]
      show _ = some (arZ g 10 (up2 W 89 i x 89))
      unfold up2
      rw [va_up_self]
    · rw [va_up_ne _ _ hq]
      unfold laR
      rw [up2_row (r' := 84) (by decide), up2_row (r' := 85) (by decide), up2_row (r' := 86) (by decide), up2_row (r' := 87) (by decide), up2_row (r' := 88) (by decide), up2_row (r' := 90) (by decide)]
      simp only [if_neg hq]
  rw [e] at h
  exact h
theorem la_p90 (hH : HH g ad Lv C (laR g n W) τ) (i : Nat) (x : Int32) : HH g ad Lv C (laR g n (up2 W 90 i x)) (va_up τ 90 (some (arC g n (va_up (W 90) i x)))) := by
  have h := hH.rho (r := 90) (by decide) (some (arC g n (va_up (W 90) i x)))
  have e : va_up (laR g n W) 90 (some (arC g n (va_up (W 90) i x))) = laR g n (up2 W 90 i x) := by
    funext q
    by_cases hq : q = 90
    · subst hq
      rw [va_up_self]
      show _ = some (arC g n (up2 W 90 i x 90))
      unfold up2
      rw [va_up_self]
    · rw [va_up_ne _ _ hq]
      unfold laR
      rw [up2_row (r' := 84) (by decide), up2_row (r' := 85) (by decide), up2_row (r' := 86) (by decide), up2_row (r' := 87) (by decide), up2_row (r' := 88) (by decide), up2_row (r' := 89) (by decide)]
      simp only [if_neg hq]
  rw [e] at h
  exact h
theorem up2_id {r k : Nat} {x : Int32} (h : C r k = x) : up2 C r k x = C := by
  funext r' k'
  rw [up2_at]
  by_cases q : r' = r ∧ k' = k
  · rw [if_pos q, q.1, q.2, h]
  · rw [if_neg q]
theorem lwS.mono (h : lwS n T W Lv C B) (hT : T ≤ T') : lwS n T' W Lv C B := by
  obtain ⟨a1, a2, a3, a4, a5, a6, a7, a8, t, t1, t2⟩ := h
  exact ⟨a1, a2, a3, a4, a5, a6, a7, a8, t, by omega, t2⟩
theorem lwS.t01 (h : lwS n T W Lv C B) (hu : u < 10) (h0 : ¬ W 88 u = 0) : W 88 u = 1 := by
  obtain ⟨t, -, -, -, hT⟩ := h.R
  have h5 := hT.2.1.2.1 u
  rw [h.c5 hu] at h5
  exact h5.resolve_left h0
theorem v_there (h : lwS n T W Lv C B) (hu : u < 10) : rr (kThere (nI u)) (if C 6 (tn (nI u)) = 0 then 0 else 1) = if W 89 u = 0 then 0 else 1 := by
  refine rr_of (k_there hu) ?_
  rw [tn_nI (by omega), h.c6 hu]
theorem bring_ge (h : lwS n T W Lv C B) (hj : j < n) {K : Int32} (hk : K = 0) : ¬ rr K (C (40 + tn (nI j)) 7) < -1 := by
  have h8 := h.n8
  rw [rr_of hk rfl, tn_nI (by omega)]
  obtain ⟨t, -, -, -, hT⟩ := h.R
  rcases (hT.2.2.2.1 j (by rw [h.2.1.2.2.2]; exact hj)).2.2.2.2.1 with ⟨a1, -⟩ | ⟨-, -, ⟨l, a3, a4⟩, -⟩
  · rw [a1]; decide
  · rw [a4]
    intro q
    rw [Int32.lt_iff_toInt_lt, nI_toInt (by omega), show (-1 : Int32).toInt = -1 from by decide] at q
    omega
theorem pl_pos (h : lwS n T W Lv C B) (hj : j < n) (h0 : ¬ W 90 j = 0) : ¬ W 90 j < 0 := by
  rcases h.2.2.2.2.1 j hj with ⟨q, -⟩ | ⟨-, q, -⟩
  · exact absurd q h0
  · rcases q with q | q | q <;> rw [q] <;> decide
theorem why_102 (h : mWhyJ B b j = 102) : ¬ B 69 b = 0 := by
  unfold mWhyJ at h
  by_cases c1 : ¬ B 69 b = 0
  · exact c1
  rw [if_neg c1] at h
  revert h
  repeat' split
  all_goals (intro h; exact absurd h (by decide))
end LAP
section LCASE
variable {l : Launch} {g : GW} {p : Program} {e : Env} {s : State} {m : MethodId} {args : Array Value} {below : List Frame} {meth : Method} {c : Code} {A : Nat → Prop} {Q : State → Prop} {ad : AD} {τ : RH} {cells slots n T V j u k : Nat} {z15 z16 z17 : Option Value} {Lv : Nat → Bool} {C B W : ME}
/-- the law's locals in its loop -/
abbrev lwV (g : GW) (ad : AD) (n k : Nat) (a11 a12 a13 a14 a15 a16 a17 : Option Value) : LV := [some (.ref g.2.2.2.1), some (.ref (ad 0)), some (.ref (ad 84)), some (.int (nI n)), some (.ref (ad 85)), some (.ref (ad 86)), some (.ref (ad 87)), some (.ref (ad 88)), some (.ref (ad 89)), some (.ref (ad 90)), some (.int (nI k)), a11, a12, a13, a14, a15, a16, a17]
set_option maxHeartbeats 4000000 in
set_option maxRecDepth 100000 in
/-- train -/
theorem lw_train (cx : Cx l g p s m args meth c A cL_law 18 RL) (hH : HH g ad Lv C (laR g n W) τ) (hS : lwS n T W Lv C B) (hT : T < 200) (hV : V < 2 ^ 31) (hj : j < n) (hu : u < 4) (hc : cells + 3000 ≤ 600258) (hs : slots + 30000 ≤ 7294186) (K : ∀ ad' τ' C' B' W' z15 z16 z17, HH g ad' Lv C' (laR g n W') τ' → lwS n (T + 1) W' Lv C' B' → AW l g p e room_1 s m args below meth c A 18 Q ad' τ' (cells + 700) (slots + 7000) 750 (lwV g ad' n k (some (.int (nI V))) (some (.int (nI j))) (some (.int (nI u))) (some (.int 1)) z15 z16 z17) []) : AW l g p e room_1 s m args below meth c A 18 Q ad τ cells slots 376 (lwV g ad n k (some (.int (nI V))) (some (.int (nI j))) (some (.int (nI u))) (some (.int 1)) z15 z16 z17) [] := by
  have hI := hS.I
  have h8 := hS.n8
  have hO := (H_lines hH hI).1
  unfold lwV
  by_cases hw : W 88 u = 0
  · have hk : kTrain C (nI u) = 0 := by rw [k_train hS (by omega), if_pos hw]
    refine a_aload_n cx dL_law_376 rfl rfl ?_
    refine a_iload cx dL_law_377 rfl ?_
    refine a_callSH cx 2 (sp_L_train (u := nI u) hH hI) ml_L_138 st_L_train ini_L cd_L_train rfl rfl (by decide +kernel) rfl rfl ⟨(Nat.le_of_ble_eq_true rfl), (Nat.le_of_ble_eq_true rfl)⟩ (Nat.le_of_ble_eq_true rfl) dL_law_379 ⟨show _ ≤ 600258 by omega, show _ ≤ 7294186 by omega⟩ (fun _ _ _ h => h.elim) (fun v9 ad9 τ9 hP => ?_)
    obtain ⟨rfl, hP⟩ := hP
    obtain ⟨-, h2, hH9⟩ : _ ∧ _ ∧ _ := hP.resolve_right (fun q => q.1 hk)
    replace h2 := h2.symm
    subst h2
    obtain ⟨B9, hS9⟩ := hS.train (by omega) hk
    refine a_sipush cx (v := -1002) dL_law_382 (by decide) ?_
    refine a_icmp_ne cx (tgt := 392) dL_law_385 (by decide) (fun c_385 => ?_) (fun c_385 => ((v_train hS (by omega) _ (trained_n _)).mp c_385 hw).elim)
    refine a_iconst cx (v := 0) dL_law_392 (by decide) ?_
    refine a_aload cx dL_law_393 rfl ?_
    refine a_iload cx dL_law_395 rfl ?_
    refine a_zld cx (u) (la_88 hH9) (rfl) ((by omega)) (by decide) dL_law_397 ?_
    rw [hw]
    refine a_icmp_ne cx (tgt := 405) dL_law_398 (by decide) (fun c_398 => absurd rfl c_398) (fun c_398 => ?_)
    refine a_iconst cx (v := 1) dL_law_401 (by decide) ?_
    refine a_goto cx (tgt := 406) dL_law_402 (by decide) ?_
    refine a_istore14 cx dL_law_406 (by decide) (by intro w h; first | (cases h; rfl) | (cases h; assumption) | (cases h; done)) ?_
    refine a_aload cx dL_law_408 rfl ?_
    refine a_iload cx dL_law_410 rfl ?_
    refine a_iconst cx (v := 1) dL_law_412 (by decide) ?_
    refine a_zst cx (u) (la_88 hH9) (rfl) ((by omega)) (by omega) (by first | rfl | decide) dL_law_413 ?_
    refine a_goto cx (tgt := 750) dL_law_414 (by decide) ?_
    exact a_wide (by omega) (by omega) (K _ _ _ _ _ _ _ _ (la_p88 hH9 u 1) (hS9.mono (Nat.le_succ T)))
  · have hk : ¬ kTrain C (nI u) = 0 := by rw [k_train hS (by omega), if_neg hw]; decide
    have hw1 := hS.t01 (by omega) hw
    refine a_aload_n cx dL_law_376 rfl rfl ?_
    refine a_iload cx dL_law_377 rfl ?_
    refine a_callSH cx 2 (sp_L_train (u := nI u) hH hI) ml_L_138 st_L_train ini_L cd_L_train rfl rfl (by decide +kernel) rfl rfl ⟨(Nat.le_of_ble_eq_true rfl), (Nat.le_of_ble_eq_true rfl)⟩ (Nat.le_of_ble_eq_true rfl) dL_law_379 ⟨show _ ≤ 600258 by omega, show _ ≤ 7294186 by omega⟩ (fun _ _ _ h => h.elim) (fun v9 ad9 τ9 hP => ?_)
    obtain ⟨rfl, hP⟩ := hP
    obtain ⟨-, h2, h3⟩ : _ ∧ _ ∧ _ := hP.resolve_left (fun q => hk q.1)
    replace h2 := h2.symm
    subst h2
    replace h3 := h3.symm
    subst h3
    refine a_sipush cx (v := -1002) dL_law_382 (by decide) ?_
    refine a_icmp_ne cx (tgt := 392) dL_law_385 (by decide) (fun c_385 => (c_385 ((v_train hS (by omega) _ (trained_n _)).mpr hw)).elim) (fun c_385 => ?_)
    refine a_iconst cx (v := 1) dL_law_388 (by decide) ?_
    refine a_goto cx (tgt := 393) dL_law_389 (by decide) ?_
    refine a_aload cx dL_law_393 rfl ?_
    refine a_iload cx dL_law_395 rfl ?_
    refine a_zld cx (u) (la_88 hH) (rfl) ((by omega)) (by decide) dL_law_397 ?_
    rw [hw1]
    refine a_icmp_ne cx (tgt := 405) dL_law_398 (by decide) (fun c_398 => absurd rfl c_398) (fun c_398 => ?_)
    refine a_iconst cx (v := 1) dL_law_401 (by decide) ?_
    refine a_goto cx (tgt := 406) dL_law_402 (by decide) ?_
    refine a_istore14 cx dL_law_406 (by decide) (by intro w h; first | (cases h; rfl) | (cases h; assumption) | (cases h; done)) ?_
    refine a_aload cx dL_law_408 rfl ?_
    refine a_iload cx dL_law_410 rfl ?_
    refine a_iconst cx (v := 1) dL_law_412 (by decide) ?_
    refine a_zst cx (u) (la_88 hH) (rfl) ((by omega)) (by omega) (by first | rfl | decide) dL_law_413 ?_
    refine a_goto cx (tgt := 750) dL_law_414 (by decide) ?_
    exact a_wide (by omega) (by omega) (K _ _ _ _ _ _ _ _ (la_p88 hH u 1) (by rw [up2_id hw1]; exact hS.mono (Nat.le_succ T)))
set_option maxHeartbeats 4000000 in
set_option maxRecDepth 100000 in
/-- there -/
theorem lw_there (cx : Cx l g p s m args meth c A cL_law 18 RL) (hH : HH g ad Lv C (laR g n W) τ) (hS : lwS n T W Lv C B) (hT : T < 200) (hV : V < 2 ^ 31) (hj : j < n) (hu : u < 4) (hc : cells + 3000 ≤ 600258) (hs : slots + 30000 ≤ 7294186) (K : ∀ ad' τ' C' B' W' z15 z16 z17, HH g ad' Lv C' (laR g n W') τ' → lwS n (T + 1) W' Lv C' B' → AW l g p e room_1 s m args below meth c A 18 Q ad' τ' (cells + 700) (slots + 7000) 750 (lwV g ad' n k (some (.int (nI V))) (some (.int (nI j))) (some (.int (nI u))) (some (.int 1)) z15 z16 z17) []) : AW l g p e room_1 s m args below meth c A 18 Q ad τ cells slots 417 (lwV g ad n k (some (.int (nI V))) (some (.int (nI j))) (some (.int (nI u))) (some (.int 1)) z15 z16 z17) [] := by
  have hI := hS.I
  have h8 := hS.n8
  have hO := (H_lines hH hI).1
  unfold lwV
  refine a_iload cx dL_law_417 rfl ?_
  refine a_sipush cx (v := 1024) dL_law_419 (by decide) ?_
  refine a_idiv cx (a := V) (b := 1024) rfl rfl (by omega) (by omega) (by omega) dL_law_422 ?_
  refine a_iconst cx (v := 4) dL_law_423 (by decide) ?_
  refine a_irem cx (a := V / 1024) (b := 4) rfl rfl (by omega) (by omega) (by omega) dL_law_424 ?_
  refine a_if_le cx (tgt := 432) dL_law_425 (by decide) (fun c_425 => ?_) (fun c_425 => ?_)
  · refine a_iconst cx (v := 0) dL_law_432 (by decide) ?_
    refine a_istore15 cx dL_law_433 (by decide) (by intro w h; first | (cases h; rfl) | (cases h; assumption) | (cases h; done)) ?_
    refine a_aload_n cx dL_law_435 rfl rfl ?_
    refine a_iload cx dL_law_436 rfl ?_
    refine a_iload cx dL_law_438 rfl ?_
    refine a_callSH cx 3 (sp_L_setThere (u := nI u) (z := 0) hH hI (Or.inl rfl) hS.b6) ml_L_140 st_L_setThere ini_L cd_L_setThere rfl rfl (by decide +kernel) rfl rfl ⟨(Nat.le_of_ble_eq_true rfl), (Nat.le_of_ble_eq_true rfl)⟩ (Nat.le_of_ble_eq_true rfl) dL_law_440 ⟨show _ ≤ 600258 by omega, show _ ≤ 7294186 by omega⟩ (fun _ _ _ h => h.elim) (fun v9 ad9 τ9 hP => ?_)
    obtain ⟨rfl, hP⟩ := hP
    obtain ⟨-, h2, hH9⟩ : _ ∧ _ ∧ _ := hP.resolve_right (fun q => q.1 (k_there (by omega)))
    replace h2 := h2.symm
    subst h2
    rw [v_there hS (by omega)]
    obtain ⟨B9, hS9⟩ := hS.there (u := u) (by omega) (z := 0) (Or.inl rfl)
    refine a_aload cx dL_law_443 rfl ?_
    refine a_iload cx dL_law_445 rfl ?_
    refine a_zld cx (u) (la_89 hH9) (rfl) ((by omega)) (by omega) dL_law_447 ?_
    refine a_if_eq cx (tgt := 455) dL_law_448 (by decide) (fun c_448 => ?_) (fun c_448 => ?_)
    · refine a_iconst cx (v := 0) dL_law_455 (by decide) ?_
      refine a_icmp_ne cx (tgt := 463) dL_law_456 (by decide) (fun c_456 => absurd (if_pos c_448) c_456) (fun c_456 => ?_)
      refine a_iconst cx (v := 1) dL_law_459 (by decide) ?_
      refine a_goto cx (tgt := 464) dL_law_460 (by decide) ?_
      refine a_istore14 cx dL_law_464 (by decide) (by intro w h; first | (cases h; rfl) | (cases h; assumption) | (cases h; done)) ?_
      refine a_aload cx dL_law_466 rfl ?_
      refine a_iload cx dL_law_468 rfl ?_
      refine a_iload cx dL_law_470 rfl ?_
      refine a_zst cx (u) (la_89 hH9) (rfl) ((by omega)) (by omega) (by first | rfl | decide) dL_law_472 ?_
      refine a_goto cx (tgt := 750) dL_law_473 (by decide) ?_
      exact a_wide (by omega) (by omega) (K _ _ _ _ _ _ _ _ (la_p89 hH9 u 0) (hS9.mono (Nat.le_succ T)))
    · refine a_iconst cx (v := 1) dL_law_451 (by decide) ?_
      refine a_goto cx (tgt := 456) dL_law_452 (by decide) ?_
      refine a_icmp_ne cx (tgt := 463) dL_law_456 (by decide) (fun c_456 => absurd (if_neg c_448) c_456) (fun c_456 => ?_)
      refine a_iconst cx (v := 1) dL_law_459 (by decide) ?_
      refine a_goto cx (tgt := 464) dL_law_460 (by decide) ?_
      refine a_istore14 cx dL_law_464 (by decide) (by intro w h; first | (cases h; rfl) | (cases h; assumption) | (cases h; done)) ?_
      refine a_aload cx dL_law_466 rfl ?_
      refine a_iload cx dL_law_468 rfl ?_
      refine a_iload cx dL_law_470 rfl ?_
      refine a_zst cx (u) (la_89 hH9) (rfl) ((by omega)) (by omega) (by first | rfl | decide) dL_law_472 ?_
      refine a_goto cx (tgt := 750) dL_law_473 (by decide) ?_
      exact a_wide (by omega) (by omega) (K _ _ _ _ _ _ _ _ (la_p89 hH9 u 0) (hS9.mono (Nat.le_succ T)))
  · refine a_iconst cx (v := 1) dL_law_428 (by decide) ?_
    refine a_goto cx (tgt := 433) dL_law_429 (by decide) ?_
    refine a_istore15 cx dL_law_433 (by decide) (by intro w h; first | (cases h; rfl) | (cases h; assumption) | (cases h; done)) ?_
    refine a_aload_n cx dL_law_435 rfl rfl ?_
    refine a_iload cx dL_law_436 rfl ?_
    refine a_iload cx dL_law_438 rfl ?_
    refine a_callSH cx 3 (sp_L_setThere (u := nI u) (z := 1) hH hI (Or.inr rfl) hS.b6) ml_L_140 st_L_setThere ini_L cd_L_setThere rfl rfl (by decide +kernel) rfl rfl ⟨(Nat.le_of_ble_eq_true rfl), (Nat.le_of_ble_eq_true rfl)⟩ (Nat.le_of_ble_eq_true rfl) dL_law_440 ⟨show _ ≤ 600258 by omega, show _ ≤ 7294186 by omega⟩ (fun _ _ _ h => h.elim) (fun v9 ad9 τ9 hP => ?_)
    obtain ⟨rfl, hP⟩ := hP
    obtain ⟨-, h2, hH9⟩ : _ ∧ _ ∧ _ := hP.resolve_right (fun q => q.1 (k_there (by omega)))
    replace h2 := h2.symm
    subst h2
    rw [v_there hS (by omega)]
    obtain ⟨B9, hS9⟩ := hS.there (u := u) (by omega) (z := 1) (Or.inr rfl)
    refine a_aload cx dL_law_443 rfl ?_
    refine a_iload cx dL_law_445 rfl ?_
    refine a_zld cx (u) (la_89 hH9) (rfl) ((by omega)) (by omega) dL_law_447 ?_
    refine a_if_eq cx (tgt := 455) dL_law_448 (by decide) (fun c_448 => ?_) (fun c_448 => ?_)
    · refine a_iconst cx (v := 0) dL_law_455 (by decide) ?_
      refine a_icmp_ne cx (tgt := 463) dL_law_456 (by decide) (fun c_456 => absurd (if_pos c_448) c_456) (fun c_456 => ?_)
      refine a_iconst cx (v := 1) dL_law_459 (by decide) ?_
      refine a_goto cx (tgt := 464) dL_law_460 (by decide) ?_
      refine a_istore14 cx dL_law_464 (by decide) (by intro w h; first | (cases h; rfl) | (cases h; assumption) | (cases h; done)) ?_
      refine a_aload cx dL_law_466 rfl ?_
      refine a_iload cx dL_law_468 rfl ?_
      refine a_iload cx dL_law_470 rfl ?_
      refine a_zst cx (u) (la_89 hH9) (rfl) ((by omega)) (by omega) (by first | rfl | decide) dL_law_472 ?_
      refine a_goto cx (tgt := 750) dL_law_473 (by decide) ?_
      exact a_wide (by omega) (by omega) (K _ _ _ _ _ _ _ _ (la_p89 hH9 u 1) (hS9.mono (Nat.le_succ T)))
    · refine a_iconst cx (v := 1) dL_law_451 (by decide) ?_
      refine a_goto cx (tgt := 456) dL_law_452 (by decide) ?_
      refine a_icmp_ne cx (tgt := 463) dL_law_456 (by decide) (fun c_456 => absurd (if_neg c_448) c_456) (fun c_456 => ?_)
      refine a_iconst cx (v := 1) dL_law_459 (by decide) ?_
      refine a_goto cx (tgt := 464) dL_law_460 (by decide) ?_
      refine a_istore14 cx dL_law_464 (by decide) (by intro w h; first | (cases h; rfl) | (cases h; assumption) | (cases h; done)) ?_
      refine a_aload cx dL_law_466 rfl ?_
      refine a_iload cx dL_law_468 rfl ?_
      refine a_iload cx dL_law_470 rfl ?_
      refine a_zst cx (u) (la_89 hH9) (rfl) ((by omega)) (by omega) (by first | rfl | decide) dL_law_472 ?_
      refine a_goto cx (tgt := 750) dL_law_473 (by decide) ?_
      exact a_wide (by omega) (by omega) (K _ _ _ _ _ _ _ _ (la_p89 hH9 u 1) (hS9.mono (Nat.le_succ T)))
set_option maxHeartbeats 4000000 in
set_option maxRecDepth 100000 in
/-- bring -/
theorem lw_bring (cx : Cx l g p s m args meth c A cL_law 18 RL) (hH : HH g ad Lv C (laR g n W) τ) (hS : lwS n T W Lv C B) (hT : T < 200) (hV : V < 2 ^ 31) (hj : j < n) (hu : u < 4) (hc : cells + 3000 ≤ 600258) (hs : slots + 30000 ≤ 7294186) (K : ∀ ad' τ' C' B' W' z15 z16 z17, HH g ad' Lv C' (laR g n W') τ' → lwS n (T + 1) W' Lv C' B' → AW l g p e room_1 s m args below meth c A 18 Q ad' τ' (cells + 700) (slots + 7000) 750 (lwV g ad' n k (some (.int (nI V))) (some (.int (nI j))) (some (.int (nI u))) (some (.int 1)) z15 z16 z17) []) : AW l g p e room_1 s m args below meth c A 18 Q ad τ cells slots 476 (lwV g ad n k (some (.int (nI V))) (some (.int (nI j))) (some (.int (nI u))) (some (.int 1)) z15 z16 z17) [] := by
  have hI := hS.I
  have h8 := hS.n8
  have hO := (H_lines hH hI).1
  unfold lwV
  have hk : kBring C (nI j) (nI (1 + V / 1024 % 20)) = 0 := k_bring hS hj (by omega) (by omega)
  refine a_aload_n cx dL_law_476 rfl rfl ?_
  refine a_iload cx dL_law_477 rfl ?_
  refine a_iconst cx (v := 1) dL_law_479 (by decide) ?_
  refine a_iload cx dL_law_480 rfl ?_
  refine a_sipush cx (v := 1024) dL_law_482 (by decide) ?_
  refine a_idiv cx (a := V) (b := 1024) rfl rfl (by omega) (by omega) (by omega) dL_law_485 ?_
  refine a_bipush cx (v := 20) dL_law_486 (by decide) ?_
  refine a_irem cx (a := V / 1024) (b := 20) rfl rfl (by omega) (by omega) (by omega) dL_law_488 ?_
  refine a_iadd cx dL_law_489 ?_
  refine a_int (y := nI (1 + V / 1024 % 20)) (nI_add 1 _) ?_
  refine a_callSH cx 3 (sp_L_bring (j := nI j) (x := nI (1 + V / 1024 % 20)) hH hI) ml_L_143 st_L_bring ini_L cd_L_bring rfl rfl (by decide +kernel) rfl rfl ⟨(Nat.le_of_ble_eq_true rfl), (Nat.le_of_ble_eq_true rfl)⟩ (Nat.le_of_ble_eq_true rfl) dL_law_490 ⟨show _ ≤ 600258 by omega, show _ ≤ 7294186 by omega⟩ (fun _ _ _ h => h.elim) (fun v9 ad9 τ9 hP => ?_)
  obtain ⟨rfl, hP⟩ := hP
  obtain ⟨-, h2, hH9⟩ : _ ∧ _ ∧ _ := hP.resolve_right (fun q => q.1 hk)
  replace h2 := h2.symm
  subst h2
  obtain ⟨B9, hS9, -, -, hb81, hb80⟩ := hS.bring hj (x := (1 + V / 1024 % 20)) (by omega) (by omega)
  refine a_iconst cx (v := -1) dL_law_493 (by decide) ?_
  refine a_icmp_lt cx (tgt := 521) dL_law_494 (by decide) (fun c_494 => absurd c_494 (bring_ge hS hj hk)) (fun c_494 => ?_)
  refine a_aload_n cx dL_law_497 rfl rfl ?_
  refine a_iload cx dL_law_498 rfl ?_
  refine a_callSH cx 2 (sp_L_life (j := nI j) hH9 hS9.I) ml_L_114 st_L_life ini_L cd_L_life rfl rfl (by decide +kernel) rfl rfl ⟨(Nat.le_of_ble_eq_true rfl), (Nat.le_of_ble_eq_true rfl)⟩ (Nat.le_of_ble_eq_true rfl) dL_law_500 ⟨show _ ≤ 600258 by omega, show _ ≤ 7294186 by omega⟩ (fun _ _ _ h => h.elim) (fun v9 ad9 τ9 hP => ?_)
  obtain ⟨rfl, h2, h3⟩ := hP
  replace h2 := h2.symm
  subst h2
  replace h3 := h3.symm
  subst h3
  rw [v_life hS9 hj, if_neg (by rw [hb81]; decide), hb80]
  refine a_iconst cx (v := 1) dL_law_503 (by decide) ?_
  refine a_iload cx dL_law_504 rfl ?_
  refine a_sipush cx (v := 1024) dL_law_506 (by decide) ?_
  refine a_idiv cx (a := V) (b := 1024) rfl rfl (by omega) (by omega) (by omega) dL_law_509 ?_
  refine a_bipush cx (v := 20) dL_law_510 (by decide) ?_
  refine a_irem cx (a := V / 1024) (b := 20) rfl rfl (by omega) (by omega) (by omega) dL_law_512 ?_
  refine a_iadd cx dL_law_513 ?_
  refine a_int (y := nI (1 + V / 1024 % 20)) (nI_add 1 _) ?_
  refine a_icmp_ne cx (tgt := 521) dL_law_514 (by decide) (fun c_514 => absurd rfl c_514) (fun c_514 => ?_)
  refine a_iconst cx (v := 1) dL_law_517 (by decide) ?_
  refine a_goto cx (tgt := 522) dL_law_518 (by decide) ?_
  refine a_istore14 cx dL_law_522 (by decide) (by intro w h; first | (cases h; rfl) | (cases h; assumption) | (cases h; done)) ?_
  refine a_aload cx dL_law_524 rfl ?_
  refine a_iload cx dL_law_526 rfl ?_
  refine a_bipush cx (v := 114) dL_law_528 (by decide) ?_
  refine a_cst cx (j) (la_90 hH9) (rfl) (hj) (by omega) (by decide) dL_law_530 ?_
  refine a_goto cx (tgt := 750) dL_law_531 (by decide) ?_
  exact a_wide (by omega) (by omega) (K _ _ _ _ _ _ _ _ (la_p90 hH9 j 114) (hS9.mono (Nat.le_succ T)))
set_option maxHeartbeats 4000000 in
set_option maxRecDepth 100000 in
/-- put -/
theorem lw_put (cx : Cx l g p s m args meth c A cL_law 18 RL) (hH : HH g ad Lv C (laR g n W) τ) (hS : lwS n T W Lv C B) (hT : T < 200) (hV : V < 2 ^ 31) (hj : j < n) (hu : u < 4) (hc : cells + 3000 ≤ 600258) (hs : slots + 30000 ≤ 7294186) (K : ∀ ad' τ' C' B' W' z15 z16 z17, HH g ad' Lv C' (laR g n W') τ' → lwS n (T + 1) W' Lv C' B' → AW l g p e room_1 s m args below meth c A 18 Q ad' τ' (cells + 700) (slots + 7000) 750 (lwV g ad' n k (some (.int (nI V))) (some (.int (nI j))) (some (.int (nI u))) (some (.int 1)) z15 z16 z17) []) : AW l g p e room_1 s m args below meth c A 18 Q ad τ cells slots 534 (lwV g ad n k (some (.int (nI V))) (some (.int (nI j))) (some (.int (nI u))) (some (.int 1)) z15 z16 z17) [] := by
  have hI := hS.I
  have h8 := hS.n8
  have hO := (H_lines hH hI).1
  unfold lwV
  refine a_ldcS cx rfl dL_law_534 ?_
  refine a_iload cx dL_law_536 rfl ?_
  refine a_sipush cx (v := 1024) dL_law_538 (by decide) ?_
  refine a_idiv cx (a := V) (b := 1024) rfl rfl (by omega) (by omega) (by omega) dL_law_541 ?_
  refine a_iconst cx (v := 5) dL_law_542 (by decide) ?_
  refine a_irem cx (a := V / 1024) (b := 5) rfl rfl (by omega) (by omega) (by omega) dL_law_543 ?_
  refine a_callT cx 1 (sp_J0_charAt_5068e (k := V / 1024 % 5) (by omega)) ml_L_147 im_J0_charAt_5068e se_J0_charAt_5068e ini_J0 cd_J0_charAt_5068e rfl rfl (by decide +kernel) rfl rfl ⟨(Nat.le_of_ble_eq_true rfl), (Nat.le_of_ble_eq_true rfl)⟩ (Nat.le_of_ble_eq_true rfl) dL_law_544 ⟨show _ ≤ 600258 by omega, show _ ≤ 7294186 by omega⟩ (fun _ _ _ h => h.elim) (fun v9 ad9 τ9 hP => ?_)
  obtain ⟨rfl, h2, h3⟩ := hP
  replace h2 := h2.symm
  subst h2
  replace h3 := h3.symm
  subst h3
  obtain ⟨x, hxe, hx⟩ : ∃ x, chB (V / 1024 % 5) = x ∧ (x = 114 ∨ x = 99 ∨ x = 98) := ⟨_, rfl, chB_in (by omega)⟩
  rw [hxe]
  refine a_istore15 cx dL_law_547 (by decide) (by intro w h; first | (cases h; rfl) | (cases h; assumption) | (cases h; done)) ?_
  rcases k_put hS hj hx with ⟨hw, hk⟩ | ⟨hw, ⟨hk, hv⟩ | ⟨hk, hx9⟩⟩
  · refine a_aload_n cx dL_law_549 rfl rfl ?_
    refine a_iload cx dL_law_550 rfl ?_
    refine a_iload cx dL_law_552 rfl ?_
    refine a_callSH cx 3 (sp_L_put (j := nI j) (x := x) hH hI (ch_vp hx) hS.c8) ml_L_152 st_L_put ini_L cd_L_put rfl rfl (by decide +kernel) rfl rfl ⟨(Nat.le_of_ble_eq_true rfl), (Nat.le_of_ble_eq_true rfl)⟩ (Nat.le_of_ble_eq_true rfl) dL_law_554 ⟨show _ ≤ 600258 by omega, show _ ≤ 7294186 by omega⟩ (fun _ _ _ h => h.elim) (fun v9 ad9 τ9 hP => ?_)
    obtain ⟨rfl, hP⟩ := hP
    obtain ⟨-, h2, h3⟩ : _ ∧ _ ∧ _ := hP.resolve_left (fun q => (fun z => absurd (hk.symm.trans z) (by decide)) q.1)
    replace h2 := h2.symm
    subst h2
    replace h3 := h3.symm
    subst h3
    rw [rr_no (x := -1003) hk (by decide) (by decide)]
    refine a_istore16 cx dL_law_557 (by decide) (by intro w h; first | (cases h; rfl) | (cases h; assumption) | (cases h; done)) ?_
    refine a_aload cx dL_law_559 rfl ?_
    refine a_iload cx dL_law_561 rfl ?_
    refine a_cld cx (j) (la_90 hH) (rfl) (hj) (by omega) dL_law_563 ?_
    refine a_if_ne cx (tgt := 583) dL_law_564 (by decide) (fun c_564 => absurd hw c_564) (fun c_564 => ?_)
    refine a_iload cx dL_law_567 rfl ?_
    refine a_sipush cx (v := -1003) dL_law_569 (by decide) ?_
    refine a_icmp_ne cx (tgt := 579) dL_law_572 (by decide) (fun c_572 => absurd rfl c_572) (fun c_572 => ?_)
    refine a_iconst cx (v := 1) dL_law_575 (by decide) ?_
    refine a_goto cx (tgt := 613) dL_law_576 (by decide) ?_
    refine a_istore14 cx dL_law_613 (by decide) (by intro w h; first | (cases h; rfl) | (cases h; assumption) | (cases h; done)) ?_
    refine a_iload cx dL_law_615 rfl ?_
    refine a_if_lt cx (tgt := 750) dL_law_617 (by decide) (fun c_617 => ?_) (fun c_617 => absurd (by decide) c_617)
    exact a_wide (by omega) (by omega) (K _ _ _ _ _ _ _ _ (hH) (hS.mono (Nat.le_succ T)))
  · refine a_aload_n cx dL_law_549 rfl rfl ?_
    refine a_iload cx dL_law_550 rfl ?_
    refine a_iload cx dL_law_552 rfl ?_
    refine a_callSH cx 3 (sp_L_put (j := nI j) (x := x) hH hI (ch_vp hx) hS.c8) ml_L_152 st_L_put ini_L cd_L_put rfl rfl (by decide +kernel) rfl rfl ⟨(Nat.le_of_ble_eq_true rfl), (Nat.le_of_ble_eq_true rfl)⟩ (Nat.le_of_ble_eq_true rfl) dL_law_554 ⟨show _ ≤ 600258 by omega, show _ ≤ 7294186 by omega⟩ (fun _ _ _ h => h.elim) (fun v9 ad9 τ9 hP => ?_)
    obtain ⟨rfl, hP⟩ := hP
    obtain ⟨-, h2, hH9⟩ : _ ∧ _ ∧ _ := hP.resolve_right (fun q => q.1 hk)
    replace h2 := h2.symm
    subst h2
    rw [rr_of hk hv]
    obtain ⟨B9, hS9⟩ := hS.put hj hx hk
    refine a_istore16 cx dL_law_557 (by decide) (by intro w h; first | (cases h; rfl) | (cases h; assumption) | (cases h; done)) ?_
    refine a_aload cx dL_law_559 rfl ?_
    refine a_iload cx dL_law_561 rfl ?_
    refine a_cld cx (j) (la_90 hH9) (rfl) (hj) (by omega) dL_law_563 ?_
    refine a_if_ne cx (tgt := 583) dL_law_564 (by decide) (fun c_564 => ?_) (fun c_564 => absurd c_564 hw)
    refine a_iload cx dL_law_583 rfl ?_
    refine a_aload cx dL_law_585 rfl ?_
    refine a_iload cx dL_law_587 rfl ?_
    refine a_cld cx (j) (la_90 hH9) (rfl) (hj) (by omega) dL_law_589 ?_
    refine a_icmp_eq cx (tgt := 608) dL_law_590 (by decide) (fun c_590 => ?_) (fun c_590 => absurd rfl c_590)
    refine a_iconst cx (v := 1) dL_law_608 (by decide) ?_
    refine a_goto cx (tgt := 613) dL_law_609 (by decide) ?_
    refine a_istore14 cx dL_law_613 (by decide) (by intro w h; first | (cases h; rfl) | (cases h; assumption) | (cases h; done)) ?_
    refine a_iload cx dL_law_615 rfl ?_
    refine a_if_lt cx (tgt := 750) dL_law_617 (by decide) (fun c_617 => absurd c_617 (pl_pos hS hj hw)) (fun c_617 => ?_)
    refine a_aload cx dL_law_620 rfl ?_
    refine a_iload cx dL_law_622 rfl ?_
    refine a_iload cx dL_law_624 rfl ?_
    refine a_cst cx (j) (la_90 hH9) (rfl) (hj) (by omega) (ch_vp hx) dL_law_626 ?_
    refine a_goto cx (tgt := 750) dL_law_627 (by decide) ?_
    exact a_wide (by omega) (by omega) (K _ _ _ _ _ _ _ _ (la_p90 hH9 j x) (hS9.mono (Nat.le_succ T)))
  · refine a_aload_n cx dL_law_549 rfl rfl ?_
    refine a_iload cx dL_law_550 rfl ?_
    refine a_iload cx dL_law_552 rfl ?_
    refine a_callSH cx 3 (sp_L_put (j := nI j) (x := x) hH hI (ch_vp hx) hS.c8) ml_L_152 st_L_put ini_L cd_L_put rfl rfl (by decide +kernel) rfl rfl ⟨(Nat.le_of_ble_eq_true rfl), (Nat.le_of_ble_eq_true rfl)⟩ (Nat.le_of_ble_eq_true rfl) dL_law_554 ⟨show _ ≤ 600258 by omega, show _ ≤ 7294186 by omega⟩ (fun _ _ _ h => h.elim) (fun v9 ad9 τ9 hP => ?_)
    obtain ⟨rfl, hP⟩ := hP
    obtain ⟨-, h2, h3⟩ : _ ∧ _ ∧ _ := hP.resolve_left (fun q => (fun z => absurd (hk.symm.trans z) (by decide)) q.1)
    replace h2 := h2.symm
    subst h2
    replace h3 := h3.symm
    subst h3
    rw [rr_no (x := -1004) hk (by decide) (by decide)]
    refine a_istore16 cx dL_law_557 (by decide) (by intro w h; first | (cases h; rfl) | (cases h; assumption) | (cases h; done)) ?_
    refine a_aload cx dL_law_559 rfl ?_
    refine a_iload cx dL_law_561 rfl ?_
    refine a_cld cx (j) (la_90 hH) (rfl) (hj) (by omega) dL_law_563 ?_
    refine a_if_ne cx (tgt := 583) dL_law_564 (by decide) (fun c_564 => ?_) (fun c_564 => absurd c_564 hw)
    refine a_iload cx dL_law_583 rfl ?_
    refine a_aload cx dL_law_585 rfl ?_
    refine a_iload cx dL_law_587 rfl ?_
    refine a_cld cx (j) (la_90 hH) (rfl) (hj) (by omega) dL_law_589 ?_
    refine a_icmp_eq cx (tgt := 608) dL_law_590 (by decide) (fun c_590 => ?_) (fun c_590 => ?_)
    · refine a_iconst cx (v := 1) dL_law_608 (by decide) ?_
      refine a_goto cx (tgt := 613) dL_law_609 (by decide) ?_
      refine a_istore14 cx dL_law_613 (by decide) (by intro w h; first | (cases h; rfl) | (cases h; assumption) | (cases h; done)) ?_
      refine a_iload cx dL_law_615 rfl ?_
      refine a_if_lt cx (tgt := 750) dL_law_617 (by decide) (fun c_617 => ?_) (fun c_617 => absurd (by decide) c_617)
      exact a_wide (by omega) (by omega) (K _ _ _ _ _ _ _ _ (hH) (hS.mono (Nat.le_succ T)))
    · refine a_iload cx dL_law_593 rfl ?_
      refine a_sipush cx (v := -1004) dL_law_595 (by decide) ?_
      refine a_icmp_ne cx (tgt := 612) dL_law_598 (by decide) (fun c_598 => absurd rfl c_598) (fun c_598 => ?_)
      refine a_iload cx dL_law_601 rfl ?_
      refine a_bipush cx (v := 99) dL_law_603 (by decide) ?_
      refine a_icmp_ne cx (tgt := 612) dL_law_605 (by decide) (fun c_605 => absurd hx9 c_605) (fun c_605 => ?_)
      refine a_iconst cx (v := 1) dL_law_608 (by decide) ?_
      refine a_goto cx (tgt := 613) dL_law_609 (by decide) ?_
      refine a_istore14 cx dL_law_613 (by decide) (by intro w h; first | (cases h; rfl) | (cases h; assumption) | (cases h; done)) ?_
      refine a_iload cx dL_law_615 rfl ?_
      refine a_if_lt cx (tgt := 750) dL_law_617 (by decide) (fun c_617 => ?_) (fun c_617 => absurd (by decide) c_617)
      exact a_wide (by omega) (by omega) (K _ _ _ _ _ _ _ _ (hH) (hS.mono (Nat.le_succ T)))
set_option maxHeartbeats 4000000 in
set_option maxRecDepth 100000 in
/-- fail -/
theorem lw_fail (cx : Cx l g p s m args meth c A cL_law 18 RL) (hH : HH g ad Lv C (laR g n W) τ) (hS : lwS n T W Lv C B) (hT : T < 200) (hV : V < 2 ^ 31) (hj : j < n) (hu : u < 4) (hc : cells + 3000 ≤ 600258) (hs : slots + 30000 ≤ 7294186) (K : ∀ ad' τ' C' B' W' z15 z16 z17, HH g ad' Lv C' (laR g n W') τ' → lwS n (T + 1) W' Lv C' B' → AW l g p e room_1 s m args below meth c A 18 Q ad' τ' (cells + 700) (slots + 7000) 750 (lwV g ad' n k (some (.int (nI V))) (some (.int (nI j))) (some (.int (nI u))) (some (.int 1)) z15 z16 z17) []) : AW l g p e room_1 s m args below meth c A 18 Q ad τ cells slots 630 (lwV g ad n k (some (.int (nI V))) (some (.int (nI j))) (some (.int (nI u))) (some (.int 1)) z15 z16 z17) [] := by
  have hI := hS.I
  have h8 := hS.n8
  have hO := (H_lines hH hI).1
  unfold lwV
  refine a_iload cx dL_law_630 rfl ?_
  refine a_sipush cx (v := 1024) dL_law_632 (by decide) ?_
  refine a_idiv cx (a := V) (b := 1024) rfl rfl (by omega) (by omega) (by omega) dL_law_635 ?_
  refine a_iconst cx (v := 2) dL_law_636 (by decide) ?_
  refine a_irem cx (a := V / 1024) (b := 2) rfl rfl (by omega) (by omega) (by omega) dL_law_637 ?_
  obtain ⟨b, hbe, hb⟩ : ∃ b, V / 1024 % 2 = b ∧ b < 2 := ⟨_, rfl, by omega⟩
  rw [hbe]
  refine a_istore15 cx dL_law_638 (by decide) (by intro w h; first | (cases h; rfl) | (cases h; assumption) | (cases h; done)) ?_
  rcases hS.cur (Nat.le_of_lt hT) hb with ⟨e1, e2, e3⟩ | ⟨k0, j0, l0, t, e1, htq, hj0, hon, h70, hl1, hl9, h75, hwhy, -⟩
  · by_cases hf : B 69 b = 0
    · have hk : kFail C (nI b) = 0 := by rw [(k_fail hS hb).1, if_pos hf]
      have hcf := (k_fail hS hb).2 hf
      refine a_aload_n cx dL_law_640 rfl rfl ?_
      refine a_iload cx dL_law_641 rfl ?_
      refine a_callSH cx 2 (sp_L_reason (b := nI b) hH hI) ml_L_109 st_L_reason ini_L cd_L_reason rfl rfl (by decide +kernel) rfl rfl ⟨(Nat.le_of_ble_eq_true rfl), (Nat.le_of_ble_eq_true rfl)⟩ (Nat.le_of_ble_eq_true rfl) dL_law_643 ⟨show _ ≤ 600258 by omega, show _ ≤ 7294186 by omega⟩ (fun _ _ _ h => h.elim) (fun v9 ad9 τ9 hP => ?_)
      obtain ⟨rfl, h2, h3⟩ := hP
      replace h2 := h2.symm
      subst h2
      replace h3 := h3.symm
      subst h3
      rw [v_reason hS hb, e3]
      refine a_bipush cx (v := 102) dL_law_646 (by decide) ?_
      refine a_icmp_ne cx (tgt := 655) dL_law_648 (by decide) (fun c_648 => ?_) (fun c_648 => absurd c_648 (by decide))
      refine a_iconst cx (v := 0) dL_law_655 (by decide) ?_
      refine a_istore16 cx dL_law_656 (by decide) (by intro w h; first | (cases h; rfl) | (cases h; assumption) | (cases h; done)) ?_
      refine a_aload_n cx dL_law_658 rfl rfl ?_
      refine a_iload cx dL_law_659 rfl ?_
      refine a_callSH cx 2 (sp_L_fail (b := nI b) hH hI) ml_L_154 st_L_fail ini_L cd_L_fail rfl rfl (by decide +kernel) rfl rfl ⟨(Nat.le_of_ble_eq_true rfl), (Nat.le_of_ble_eq_true rfl)⟩ (Nat.le_of_ble_eq_true rfl) dL_law_661 ⟨show _ ≤ 600258 by omega, show _ ≤ 7294186 by omega⟩ (fun _ _ _ h => h.elim) (fun v9 ad9 τ9 hP => ?_)
      obtain ⟨rfl, hP⟩ := hP
      obtain ⟨-, h2, hH9⟩ : _ ∧ _ ∧ _ := hP.resolve_right (fun q => q.1 hk)
      replace h2 := h2.symm
      subst h2
      rw [rr_of (x := 0) hk (if_pos (hcf.trans (if_pos e2)))]
      have hS9 := hS.fail hb hk
      refine a_istore17 cx dL_law_664 (by decide) (by intro w h; first | (cases h; rfl) | (cases h; assumption) | (cases h; done)) ?_
      refine a_iload cx dL_law_666 rfl ?_
      refine a_if_eq cx (tgt := 687) dL_law_668 (by decide) (fun c_668 => ?_) (fun c_668 => absurd rfl c_668)
      refine a_iload cx dL_law_687 rfl ?_
      refine a_sipush cx (v := -1002) dL_law_689 (by decide) ?_
      refine a_icmp_ne cx (tgt := 712) dL_law_692 (by decide) (fun c_692 => ?_) (fun c_692 => absurd c_692 (by decide))
      refine a_iload cx dL_law_712 rfl ?_
      refine a_aload_n cx dL_law_714 rfl rfl ?_
      refine a_iload cx dL_law_715 rfl ?_
      refine a_callSH cx 2 (sp_L_on (b := nI b) hH9 hS9.I) ml_L_107 st_L_on ini_L cd_L_on rfl rfl (by decide +kernel) rfl rfl ⟨(Nat.le_of_ble_eq_true rfl), (Nat.le_of_ble_eq_true rfl)⟩ (Nat.le_of_ble_eq_true rfl) dL_law_717 ⟨show _ ≤ 600258 by omega, show _ ≤ 7294186 by omega⟩ (fun _ _ _ h => h.elim) (fun v9 ad9 τ9 hP => ?_)
      obtain ⟨rfl, h2, h3⟩ := hP
      replace h2 := h2.symm
      subst h2
      replace h3 := h3.symm
      subst h3
      rw [v_on hS9 hb, on_fail, if_pos e2]
      refine a_if_lt cx (tgt := 727) dL_law_720 (by decide) (fun c_720 => ?_) (fun c_720 => absurd (by decide) c_720)
      refine a_iconst cx (v := 0) dL_law_727 (by decide) ?_
      refine a_icmp_ne cx (tgt := 735) dL_law_728 (by decide) (fun c_728 => absurd rfl c_728) (fun c_728 => ?_)
      refine a_iconst cx (v := 1) dL_law_731 (by decide) ?_
      refine a_goto cx (tgt := 736) dL_law_732 (by decide) ?_
      refine a_istore14 cx dL_law_736 (by decide) (by intro w h; first | (cases h; rfl) | (cases h; assumption) | (cases h; done)) ?_
      refine a_goto cx (tgt := 750) dL_law_738 (by decide) ?_
      exact a_wide (by omega) (by omega) (K _ _ _ _ _ _ _ _ (hH9) (hS9.mono (Nat.le_succ T)))
    · have hk2 : kFail C (nI b) = 2 := by rw [(k_fail hS hb).1, if_neg hf]
      have hk : ¬ kFail C (nI b) = 0 := by rw [hk2]; decide
      refine a_aload_n cx dL_law_640 rfl rfl ?_
      refine a_iload cx dL_law_641 rfl ?_
      refine a_callSH cx 2 (sp_L_reason (b := nI b) hH hI) ml_L_109 st_L_reason ini_L cd_L_reason rfl rfl (by decide +kernel) rfl rfl ⟨(Nat.le_of_ble_eq_true rfl), (Nat.le_of_ble_eq_true rfl)⟩ (Nat.le_of_ble_eq_true rfl) dL_law_643 ⟨show _ ≤ 600258 by omega, show _ ≤ 7294186 by omega⟩ (fun _ _ _ h => h.elim) (fun v9 ad9 τ9 hP => ?_)
      obtain ⟨rfl, h2, h3⟩ := hP
      replace h2 := h2.symm
      subst h2
      replace h3 := h3.symm
      subst h3
      rw [v_reason hS hb, e3]
      refine a_bipush cx (v := 102) dL_law_646 (by decide) ?_
      refine a_icmp_ne cx (tgt := 655) dL_law_648 (by decide) (fun c_648 => ?_) (fun c_648 => absurd c_648 (by decide))
      refine a_iconst cx (v := 0) dL_law_655 (by decide) ?_
      refine a_istore16 cx dL_law_656 (by decide) (by intro w h; first | (cases h; rfl) | (cases h; assumption) | (cases h; done)) ?_
      refine a_aload_n cx dL_law_658 rfl rfl ?_
      refine a_iload cx dL_law_659 rfl ?_
      refine a_callSH cx 2 (sp_L_fail (b := nI b) hH hI) ml_L_154 st_L_fail ini_L cd_L_fail rfl rfl (by decide +kernel) rfl rfl ⟨(Nat.le_of_ble_eq_true rfl), (Nat.le_of_ble_eq_true rfl)⟩ (Nat.le_of_ble_eq_true rfl) dL_law_661 ⟨show _ ≤ 600258 by omega, show _ ≤ 7294186 by omega⟩ (fun _ _ _ h => h.elim) (fun v9 ad9 τ9 hP => ?_)
      obtain ⟨rfl, hP⟩ := hP
      obtain ⟨-, h2, h3⟩ : _ ∧ _ ∧ _ := hP.resolve_left (fun q => hk q.1)
      replace h2 := h2.symm
      subst h2
      replace h3 := h3.symm
      subst h3
      rw [rr_no (k := 2) (x := -1002) hk2 (by decide) (by decide)]
      refine a_istore17 cx dL_law_664 (by decide) (by intro w h; first | (cases h; rfl) | (cases h; assumption) | (cases h; done)) ?_
      refine a_iload cx dL_law_666 rfl ?_
      refine a_if_eq cx (tgt := 687) dL_law_668 (by decide) (fun c_668 => ?_) (fun c_668 => absurd rfl c_668)
      refine a_iload cx dL_law_687 rfl ?_
      refine a_sipush cx (v := -1002) dL_law_689 (by decide) ?_
      refine a_icmp_ne cx (tgt := 712) dL_law_692 (by decide) (fun c_692 => absurd rfl c_692) (fun c_692 => ?_)
      refine a_aload_n cx dL_law_695 rfl rfl ?_
      refine a_iload cx dL_law_696 rfl ?_
      refine a_callSH cx 2 (sp_L_on (b := nI b) hH hI) ml_L_107 st_L_on ini_L cd_L_on rfl rfl (by decide +kernel) rfl rfl ⟨(Nat.le_of_ble_eq_true rfl), (Nat.le_of_ble_eq_true rfl)⟩ (Nat.le_of_ble_eq_true rfl) dL_law_698 ⟨show _ ≤ 600258 by omega, show _ ≤ 7294186 by omega⟩ (fun _ _ _ h => h.elim) (fun v9 ad9 τ9 hP => ?_)
      obtain ⟨rfl, h2, h3⟩ := hP
      replace h2 := h2.symm
      subst h2
      replace h3 := h3.symm
      subst h3
      rw [v_on hS hb, if_pos e2]
      refine a_if_ge cx (tgt := 708) dL_law_701 (by decide) (fun c_701 => absurd c_701 (by decide)) (fun c_701 => ?_)
      refine a_iconst cx (v := 1) dL_law_704 (by decide) ?_
      refine a_goto cx (tgt := 736) dL_law_705 (by decide) ?_
      refine a_istore14 cx dL_law_736 (by decide) (by intro w h; first | (cases h; rfl) | (cases h; assumption) | (cases h; done)) ?_
      refine a_goto cx (tgt := 750) dL_law_738 (by decide) ?_
      exact a_wide (by omega) (by omega) (K _ _ _ _ _ _ _ _ (hH) (hS.mono (Nat.le_succ T)))
  · by_cases hf : B 69 b = 0
    · have hk : kFail C (nI b) = 0 := by rw [(k_fail hS hb).1, if_pos hf]
      have hcf := (k_fail hS hb).2 hf
      refine a_aload_n cx dL_law_640 rfl rfl ?_
      refine a_iload cx dL_law_641 rfl ?_
      refine a_callSH cx 2 (sp_L_reason (b := nI b) hH hI) ml_L_109 st_L_reason ini_L cd_L_reason rfl rfl (by decide +kernel) rfl rfl ⟨(Nat.le_of_ble_eq_true rfl), (Nat.le_of_ble_eq_true rfl)⟩ (Nat.le_of_ble_eq_true rfl) dL_law_643 ⟨show _ ≤ 600258 by omega, show _ ≤ 7294186 by omega⟩ (fun _ _ _ h => h.elim) (fun v9 ad9 τ9 hP => ?_)
      obtain ⟨rfl, h2, h3⟩ := hP
      replace h2 := h2.symm
      subst h2
      replace h3 := h3.symm
      subst h3
      rw [v_reason hS hb, hwhy]
      refine a_bipush cx (v := 102) dL_law_646 (by decide) ?_
      refine a_icmp_ne cx (tgt := 655) dL_law_648 (by decide) (fun c_648 => ?_) (fun c_648 => absurd hf (why_102 c_648))
      refine a_iconst cx (v := 0) dL_law_655 (by decide) ?_
      refine a_istore16 cx dL_law_656 (by decide) (by intro w h; first | (cases h; rfl) | (cases h; assumption) | (cases h; done)) ?_
      refine a_aload_n cx dL_law_658 rfl rfl ?_
      refine a_iload cx dL_law_659 rfl ?_
      refine a_callSH cx 2 (sp_L_fail (b := nI b) hH hI) ml_L_154 st_L_fail ini_L cd_L_fail rfl rfl (by decide +kernel) rfl rfl ⟨(Nat.le_of_ble_eq_true rfl), (Nat.le_of_ble_eq_true rfl)⟩ (Nat.le_of_ble_eq_true rfl) dL_law_661 ⟨show _ ≤ 600258 by omega, show _ ≤ 7294186 by omega⟩ (fun _ _ _ h => h.elim) (fun v9 ad9 τ9 hP => ?_)
      obtain ⟨rfl, hP⟩ := hP
      obtain ⟨-, h2, hH9⟩ : _ ∧ _ ∧ _ := hP.resolve_right (fun q => q.1 hk)
      replace h2 := h2.symm
      subst h2
      rw [rr_of (x := 1) hk (if_neg (by rw [hcf, hon, if_neg (nI_ne1 (by omega))]; decide))]
      have hS9 := hS.fail hb hk
      refine a_istore17 cx dL_law_664 (by decide) (by intro w h; first | (cases h; rfl) | (cases h; assumption) | (cases h; done)) ?_
      refine a_iload cx dL_law_666 rfl ?_
      refine a_if_eq cx (tgt := 687) dL_law_668 (by decide) (fun c_668 => ?_) (fun c_668 => absurd rfl c_668)
      refine a_iload cx dL_law_687 rfl ?_
      refine a_sipush cx (v := -1002) dL_law_689 (by decide) ?_
      refine a_icmp_ne cx (tgt := 712) dL_law_692 (by decide) (fun c_692 => ?_) (fun c_692 => absurd c_692 (by decide))
      refine a_iload cx dL_law_712 rfl ?_
      refine a_aload_n cx dL_law_714 rfl rfl ?_
      refine a_iload cx dL_law_715 rfl ?_
      refine a_callSH cx 2 (sp_L_on (b := nI b) hH9 hS9.I) ml_L_107 st_L_on ini_L cd_L_on rfl rfl (by decide +kernel) rfl rfl ⟨(Nat.le_of_ble_eq_true rfl), (Nat.le_of_ble_eq_true rfl)⟩ (Nat.le_of_ble_eq_true rfl) dL_law_717 ⟨show _ ≤ 600258 by omega, show _ ≤ 7294186 by omega⟩ (fun _ _ _ h => h.elim) (fun v9 ad9 τ9 hP => ?_)
      obtain ⟨rfl, h2, h3⟩ := hP
      replace h2 := h2.symm
      subst h2
      replace h3 := h3.symm
      subst h3
      rw [v_on hS9 hb, on_fail, hon, if_neg (nI_ne1 (by omega))]
      refine a_if_lt cx (tgt := 727) dL_law_720 (by decide) (fun c_720 => absurd c_720 (nI_pos (by omega))) (fun c_720 => ?_)
      refine a_iconst cx (v := 1) dL_law_723 (by decide) ?_
      refine a_goto cx (tgt := 728) dL_law_724 (by decide) ?_
      refine a_icmp_ne cx (tgt := 735) dL_law_728 (by decide) (fun c_728 => absurd rfl c_728) (fun c_728 => ?_)
      refine a_iconst cx (v := 1) dL_law_731 (by decide) ?_
      refine a_goto cx (tgt := 736) dL_law_732 (by decide) ?_
      refine a_istore14 cx dL_law_736 (by decide) (by intro w h; first | (cases h; rfl) | (cases h; assumption) | (cases h; done)) ?_
      refine a_goto cx (tgt := 750) dL_law_738 (by decide) ?_
      exact a_wide (by omega) (by omega) (K _ _ _ _ _ _ _ _ (hH9) (hS9.mono (Nat.le_succ T)))
    · have hk2 : kFail C (nI b) = 2 := by rw [(k_fail hS hb).1, if_neg hf]
      have hk : ¬ kFail C (nI b) = 0 := by rw [hk2]; decide
      have hw2 : mWhyJ B b j0 = 102 := if_pos hf
      refine a_aload_n cx dL_law_640 rfl rfl ?_
      refine a_iload cx dL_law_641 rfl ?_
      refine a_callSH cx 2 (sp_L_reason (b := nI b) hH hI) ml_L_109 st_L_reason ini_L cd_L_reason rfl rfl (by decide +kernel) rfl rfl ⟨(Nat.le_of_ble_eq_true rfl), (Nat.le_of_ble_eq_true rfl)⟩ (Nat.le_of_ble_eq_true rfl) dL_law_643 ⟨show _ ≤ 600258 by omega, show _ ≤ 7294186 by omega⟩ (fun _ _ _ h => h.elim) (fun v9 ad9 τ9 hP => ?_)
      obtain ⟨rfl, h2, h3⟩ := hP
      replace h2 := h2.symm
      subst h2
      replace h3 := h3.symm
      subst h3
      rw [v_reason hS hb, hwhy, hw2]
      refine a_bipush cx (v := 102) dL_law_646 (by decide) ?_
      refine a_icmp_ne cx (tgt := 655) dL_law_648 (by decide) (fun c_648 => absurd rfl c_648) (fun c_648 => ?_)
      refine a_iconst cx (v := 1) dL_law_651 (by decide) ?_
      refine a_goto cx (tgt := 656) dL_law_652 (by decide) ?_
      refine a_istore16 cx dL_law_656 (by decide) (by intro w h; first | (cases h; rfl) | (cases h; assumption) | (cases h; done)) ?_
      refine a_aload_n cx dL_law_658 rfl rfl ?_
      refine a_iload cx dL_law_659 rfl ?_
      refine a_callSH cx 2 (sp_L_fail (b := nI b) hH hI) ml_L_154 st_L_fail ini_L cd_L_fail rfl rfl (by decide +kernel) rfl rfl ⟨(Nat.le_of_ble_eq_true rfl), (Nat.le_of_ble_eq_true rfl)⟩ (Nat.le_of_ble_eq_true rfl) dL_law_661 ⟨show _ ≤ 600258 by omega, show _ ≤ 7294186 by omega⟩ (fun _ _ _ h => h.elim) (fun v9 ad9 τ9 hP => ?_)
      obtain ⟨rfl, hP⟩ := hP
      obtain ⟨-, h2, h3⟩ : _ ∧ _ ∧ _ := hP.resolve_left (fun q => hk q.1)
      replace h2 := h2.symm
      subst h2
      replace h3 := h3.symm
      subst h3
      rw [rr_no (k := 2) (x := -1002) hk2 (by decide) (by decide)]
      refine a_istore17 cx dL_law_664 (by decide) (by intro w h; first | (cases h; rfl) | (cases h; assumption) | (cases h; done)) ?_
      refine a_iload cx dL_law_666 rfl ?_
      refine a_if_eq cx (tgt := 687) dL_law_668 (by decide) (fun c_668 => absurd c_668 (by decide)) (fun c_668 => ?_)
      refine a_iload cx dL_law_671 rfl ?_
      refine a_sipush cx (v := -1002) dL_law_673 (by decide) ?_
      refine a_icmp_ne cx (tgt := 683) dL_law_676 (by decide) (fun c_676 => absurd rfl c_676) (fun c_676 => ?_)
      refine a_iconst cx (v := 1) dL_law_679 (by decide) ?_
      refine a_goto cx (tgt := 736) dL_law_680 (by decide) ?_
      refine a_istore14 cx dL_law_736 (by decide) (by intro w h; first | (cases h; rfl) | (cases h; assumption) | (cases h; done)) ?_
      refine a_goto cx (tgt := 750) dL_law_738 (by decide) ?_
      exact a_wide (by omega) (by omega) (K _ _ _ _ _ _ _ _ (hH) (hS.mono (Nat.le_succ T)))
set_option maxHeartbeats 4000000 in
set_option maxRecDepth 100000 in
/-- shift -/
theorem lw_shift (cx : Cx l g p s m args meth c A cL_law 18 RL) (hH : HH g ad Lv C (laR g n W) τ) (hS : lwS n T W Lv C B) (hT : T < 200) (hV : V < 2 ^ 31) (hj : j < n) (hu : u < 4) (hc : cells + 3000 ≤ 600258) (hs : slots + 30000 ≤ 7294186) (K : ∀ ad' τ' C' B' W' z15 z16 z17, HH g ad' Lv C' (laR g n W') τ' → lwS n (T + 1) W' Lv C' B' → AW l g p e room_1 s m args below meth c A 18 Q ad' τ' (cells + 700) (slots + 7000) 750 (lwV g ad' n k (some (.int (nI V))) (some (.int (nI j))) (some (.int (nI u))) (some (.int 1)) z15 z16 z17) []) : AW l g p e room_1 s m args below meth c A 18 Q ad τ cells slots 741 (lwV g ad n k (some (.int (nI V))) (some (.int (nI j))) (some (.int (nI u))) (some (.int 1)) z15 z16 z17) [] := by
  have hI := hS.I
  have h8 := hS.n8
  have hO := (H_lines hH hI).1
  unfold lwV
  refine a_aload_n cx dL_law_741 rfl rfl ?_
  refine a_iload_n cx dL_law_742 rfl rfl ?_
  refine a_aload cx dL_law_743 rfl ?_
  refine a_callS cx 3 (sp_L_shift hH hS hT) ml_L_156 st_L_shift ini_L cd_L_shift rfl rfl (by decide +kernel) rfl rfl ⟨(Nat.le_of_ble_eq_true rfl), (Nat.le_of_ble_eq_true rfl)⟩ (Nat.le_of_ble_eq_true rfl) dL_law_745 ⟨show _ ≤ 600258 by omega, show _ ≤ 7294186 by omega⟩ (fun _ _ _ h => h.elim) (fun v9 ad9 τ9 hP => ?_)
  obtain ⟨rfl, had, hH9⟩ := hP
  rw [← had 0 (by decide) (by decide), ← had 84 (by decide) (by decide), ← had 85 (by decide) (by decide), ← had 86 (by decide) (by decide), ← had 87 (by decide) (by decide), ← had 88 (by decide) (by decide), ← had 89 (by decide) (by decide), ← had 90 (by decide) (by decide)]
  refine a_istore14 cx dL_law_748 (by decide) (by intro w h; first | (cases h; rfl) | (cases h; assumption) | (cases h; done)) ?_
  exact a_wide (by omega) (by omega) (K _ _ _ _ _ _ _ _ (hH9) ((hS.pass hT).2.2))
end LCASE
