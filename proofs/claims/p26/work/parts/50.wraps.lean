theorem HH.rho {g : GW} {ad : AD} {Lv : Nat → Bool} {C : ME} {ρ τ : RH} (h : HH g ad Lv C ρ τ) {r : Nat} (hr : 84 ≤ r) (e : Option va_E) : HH g ad Lv C (va_up ρ r e) (va_up τ r e) := by
  refine ⟨fun r' h' => ?_, fun r' h' => ?_⟩
  · rw [va_up_ne _ _ (by omega)]; exact h.1 r' h'
  · by_cases hx : r' = r
    · subst hx; rw [va_up_self, va_up_self]
    · rw [va_up_ne _ _ hx, va_up_ne _ _ hx]; exact h.2 r' h'
/-- what a call that is caught gives: its answer, or -1000 less the place of its exception -/
def rr (K a : Int32) : Int32 := if K = 0 then a else -1000 - K
theorem rr_0 {K a : Int32} (h : K = 0) : some (Value.int a) = some (Value.int (rr K a)) := by unfold rr; rw [if_pos h]
theorem rr_n {K k a x : Int32} (h : K = k) (h0 : ¬ k = 0) (hx : x = -1000 - k) : some (Value.int x) = some (Value.int (rr K a)) := by unfold rr; rw [h, if_neg h0, hx]
theorem kM0 {C : ME} {b : Int32} (h : kMeet C b = 0) : okL C b := by
  unfold kMeet at h
  by_cases h1 : okL C b
  · exact h1
  · rw [if_neg h1] at h; exact absurd h (by decide)
set_option maxHeartbeats 4000000 in
set_option maxRecDepth 100000 in
/-- wrapper: addBeamline -/
theorem sp_L_addBeamline {l : Launch} {g : GW} {ad : AD} {τ : RH} {Lv : Nat → Bool} {C : ME} {ρ : RH} {s9 : Int32} {m9 : Int32} (hH : HH g ad Lv C ρ τ) (hI : cI Lv C) (hJ : lJ Lv) : Sp l g yL_addBeamline (.codeWith yL_addBeamline cL_addBeamline 4 (some .int) [(0, 6, 7, 20), (0, 6, 12, 22)]) (rmv 9 8 252) [.ref (ad 0), .int s9, .int m9] ad τ 8 252 (fun v ad' τ' => v = some (.int (rr (kBeam C s9 m9) (nI (cNb C)))) ∧ ((kBeam C s9 m9 = 0 ∧ (∀ y, ¬ (10 + 10 * cNb C ≤ y ∧ y < 18 + 10 * cNb C) → y ≠ 2 → ad' y = ad y) ∧ HH g ad' (lBeam Lv C) (oBeam C s9 m9) ρ τ') ∨ (¬ kBeam C s9 m9 = 0 ∧ ad' = ad ∧ τ' = τ))) (NoX) := by
  refine Sp.ofH 1 [some (.ref (ad 0)), some (.int s9), some (.int m9), none] (by decide +kernel) (Nat.le_of_ble_eq_true rfl) rfl ?_
  intro p e s m args below meth c A cx htab hr
  have hO := (H_lines hH hI).1
  refine a_aload_n cx dL_addBeamline_0 rfl rfl ?_
  refine a_iload_n cx dL_addBeamline_1 rfl rfl ?_
  refine a_iload_n cx dL_addBeamline_2 rfl rfl ?_
  refine a_callV cx 2 (sp_X3_addBeamline hH hI hJ) hO rfl ml_L_14 im_X3_addBeamline se_X3_addBeamline ini_X3 cd_X3_addBeamline rfl rfl (by decide +kernel) rfl rfl ⟨(Nat.le_of_ble_eq_true rfl), (Nat.le_of_ble_eq_true rfl)⟩ (Nat.le_of_ble_eq_true rfl) dL_addBeamline_3 ⟨(Nat.le_of_ble_eq_true rfl), (Nat.le_of_ble_eq_true rfl)⟩ (fun E9 ad9 τ9 hX => ?_) (fun v9 ad9 τ9 hP => ?_)
  · obtain ⟨hk, h2, h3⟩ := hX
    replace h2 := h2.symm
    subst h2
    replace h3 := h3.symm
    subst h3
    rcases hk with ⟨hk, rfl⟩ | ⟨hk, rfl⟩
    · refine a_catch cx [] ⟨0, 6, 7, 20⟩ [⟨0, 6, 12, 22⟩] (htab.trans rfl) (fun z hz => by cases hz) (by decide) (by decide) cl_L_20 ca_IllegalArgumentException_IllegalArgumentException (fun q => ?_)
      refine a_astore_n3 cx dL_addBeamline_7 rfl (by decide) (by intro w h; first | (cases h; rfl) | (cases h; assumption) | (cases h; done)) ?_
      refine a_sipush cx (v := -1001) dL_addBeamline_8 (by decide) ?_
      exact a_iret cx hr dL_addBeamline_11 (Nat.le_of_ble_eq_true rfl) (Nat.le_of_ble_eq_true rfl) ⟨rr_n hk (by decide) (by decide), Or.inr ⟨by rw [hk]; decide, rfl, rfl⟩⟩
    · refine a_catch cx [⟨0, 6, 7, 20⟩] ⟨0, 6, 12, 22⟩ [] (htab.trans rfl) (fun z hz => by rcases List.mem_cons.mp hz with rfl | hz; exact Or.inr ⟨by decide, _, cl_L_20, by decide +kernel⟩; cases hz) (by decide) (by decide) cl_L_22 ca_IllegalStateException_IllegalStateException (fun q => ?_)
      refine a_astore_n3 cx dL_addBeamline_12 rfl (by decide) (by intro w h; first | (cases h; rfl) | (cases h; assumption) | (cases h; done)) ?_
      refine a_sipush cx (v := -1002) dL_addBeamline_13 (by decide) ?_
      exact a_iret cx hr dL_addBeamline_16 (Nat.le_of_ble_eq_true rfl) (Nat.le_of_ble_eq_true rfl) ⟨rr_n hk (by decide) (by decide), Or.inr ⟨by rw [hk]; decide, rfl, rfl⟩⟩
  obtain ⟨hk, rfl, had, hH9⟩ := hP
  exact a_iret cx hr dL_addBeamline_6 (Nat.le_of_ble_eq_true rfl) (Nat.le_of_ble_eq_true rfl) ⟨rr_0 hk, Or.inl ⟨hk, had, hH9⟩⟩

set_option maxHeartbeats 4000000 in
set_option maxRecDepth 100000 in
/-- wrapper: setRate -/
theorem sp_L_setRate {l : Launch} {g : GW} {ad : AD} {τ : RH} {Lv : Nat → Bool} {C : ME} {ρ : RH} {b : Int32} {u : Int32} (hH : HH g ad Lv C ρ τ) (hI : cI Lv C) : Sp l g yL_setRate (.codeWith yL_setRate cL_setRate 4 (some .int) [(0, 6, 7, 27), (0, 6, 12, 20)]) (rmv 9 2 12) [.ref (ad 0), .int b, .int u] ad τ 2 12 (fun v ad' τ' => v = some (.int (rr (kSetRate C b u) (C (10 + 10 * tn b) 7))) ∧ ((kSetRate C b u = 0 ∧ (ad' = ad) ∧ HH g ad' (Lv) (up2 C (10 + 10 * tn b) 7 u) ρ τ') ∨ (¬ kSetRate C b u = 0 ∧ ad' = ad ∧ τ' = τ))) (NoX) := by
  refine Sp.ofH 1 [some (.ref (ad 0)), some (.int b), some (.int u), none] (by decide +kernel) (Nat.le_of_ble_eq_true rfl) rfl ?_
  intro p e s m args below meth c A cx htab hr
  have hO := (H_lines hH hI).1
  refine a_aload_n cx dL_setRate_0 rfl rfl ?_
  refine a_iload_n cx dL_setRate_1 rfl rfl ?_
  refine a_iload_n cx dL_setRate_2 rfl rfl ?_
  refine a_callV cx 2 (sp_X3_setRate hH hI) hO rfl ml_L_24 im_X3_setRate se_X3_setRate ini_X3 cd_X3_setRate rfl rfl (by decide +kernel) rfl rfl ⟨(Nat.le_of_ble_eq_true rfl), (Nat.le_of_ble_eq_true rfl)⟩ (Nat.le_of_ble_eq_true rfl) dL_setRate_3 ⟨(Nat.le_of_ble_eq_true rfl), (Nat.le_of_ble_eq_true rfl)⟩ (fun E9 ad9 τ9 hX => ?_) (fun v9 ad9 τ9 hP => ?_)
  · obtain ⟨hk, h2, h3⟩ := hX
    replace h2 := h2.symm
    subst h2
    replace h3 := h3.symm
    subst h3
    rcases hk with ⟨hk, rfl⟩ | ⟨hk, rfl⟩
    · refine a_catch cx [] ⟨0, 6, 7, 27⟩ [⟨0, 6, 12, 20⟩] (htab.trans rfl) (fun z hz => by cases hz) (by decide) (by decide) cl_L_27 ca_IndexOutOfBoundsException_IndexOutOfBoundsException (fun q => ?_)
      refine a_astore_n3 cx dL_setRate_7 rfl (by decide) (by intro w h; first | (cases h; rfl) | (cases h; assumption) | (cases h; done)) ?_
      refine a_sipush cx (v := -1001) dL_setRate_8 (by decide) ?_
      exact a_iret cx hr dL_setRate_11 (Nat.le_of_ble_eq_true rfl) (Nat.le_of_ble_eq_true rfl) ⟨rr_n hk (by decide) (by decide), Or.inr ⟨by rw [hk]; decide, rfl, rfl⟩⟩
    · refine a_catch cx [⟨0, 6, 7, 27⟩] ⟨0, 6, 12, 20⟩ [] (htab.trans rfl) (fun z hz => by rcases List.mem_cons.mp hz with rfl | hz; exact Or.inr ⟨by decide, _, cl_L_27, by decide +kernel⟩; cases hz) (by decide) (by decide) cl_L_20 ca_IllegalArgumentException_IllegalArgumentException (fun q => ?_)
      refine a_astore_n3 cx dL_setRate_12 rfl (by decide) (by intro w h; first | (cases h; rfl) | (cases h; assumption) | (cases h; done)) ?_
      refine a_sipush cx (v := -1002) dL_setRate_13 (by decide) ?_
      exact a_iret cx hr dL_setRate_16 (Nat.le_of_ble_eq_true rfl) (Nat.le_of_ble_eq_true rfl) ⟨rr_n hk (by decide) (by decide), Or.inr ⟨by rw [hk]; decide, rfl, rfl⟩⟩
  obtain ⟨hk, rfl, h2, hH9⟩ := hP
  replace h2 := h2.symm
  subst h2
  exact a_iret cx hr dL_setRate_6 (Nat.le_of_ble_eq_true rfl) (Nat.le_of_ble_eq_true rfl) ⟨rr_0 hk, Or.inl ⟨hk, rfl, hH9⟩⟩

set_option maxHeartbeats 4000000 in
set_option maxRecDepth 100000 in
/-- wrapper: propose -/
theorem sp_L_propose {l : Launch} {g : GW} {ad : AD} {τ : RH} {Lv : Nat → Bool} {C : ME} {ρ : RH} {b : Int32} {us : Int32} {sc : Int32} {w : Int32} {d9 : Int32} (hH : HH g ad Lv C ρ τ) (hI : cI Lv C) (hJ : lJ Lv) : Sp l g yL_propose (.codeWith yL_propose cL_propose 7 (some .int) [(0, 11, 12, 27), (0, 11, 18, 20), (0, 11, 24, 22)]) (rmv 9 4 48) [.ref (ad 0), .int b, .int us, .int sc, .int w, .int d9] ad τ 4 48 (fun v ad' τ' => v = some (.int (rr (kPrp C b us sc w d9) (nI (cNp C)))) ∧ ((kPrp C b us sc w d9 = 0 ∧ (∀ y, y ≠ 40 + cNp C → y ≠ 4 → ad' y = ad y) ∧ HH g ad' (lPrp Lv C) (oPrp C b us sc w d9) ρ τ') ∨ (¬ kPrp C b us sc w d9 = 0 ∧ ad' = ad ∧ τ' = τ))) (NoX) := by
  refine Sp.ofH 1 [some (.ref (ad 0)), some (.int b), some (.int us), some (.int sc), some (.int w), some (.int d9), none] (by decide +kernel) (Nat.le_of_ble_eq_true rfl) rfl ?_
  intro p e s m args below meth c A cx htab hr
  have hO := (H_lines hH hI).1
  refine a_aload_n cx dL_propose_0 rfl rfl ?_
  refine a_iload_n cx dL_propose_1 rfl rfl ?_
  refine a_iload_n cx dL_propose_2 rfl rfl ?_
  refine a_iload_n cx dL_propose_3 rfl rfl ?_
  refine a_iload cx dL_propose_4 rfl ?_
  refine a_iload cx dL_propose_6 rfl ?_
  refine a_callV cx 5 (sp_X3_propose hH hI hJ) hO rfl ml_L_29 im_X3_propose se_X3_propose ini_X3 cd_X3_propose rfl rfl (by decide +kernel) rfl rfl ⟨(Nat.le_of_ble_eq_true rfl), (Nat.le_of_ble_eq_true rfl)⟩ (Nat.le_of_ble_eq_true rfl) dL_propose_8 ⟨(Nat.le_of_ble_eq_true rfl), (Nat.le_of_ble_eq_true rfl)⟩ (fun E9 ad9 τ9 hX => ?_) (fun v9 ad9 τ9 hP => ?_)
  · obtain ⟨hk, h2, h3⟩ := hX
    replace h2 := h2.symm
    subst h2
    replace h3 := h3.symm
    subst h3
    rcases hk with ⟨hk, rfl⟩ | ⟨hk, rfl⟩ | ⟨hk, rfl⟩
    · refine a_catch cx [] ⟨0, 11, 12, 27⟩ [⟨0, 11, 18, 20⟩, ⟨0, 11, 24, 22⟩] (htab.trans rfl) (fun z hz => by cases hz) (by decide) (by decide) cl_L_27 ca_IndexOutOfBoundsException_IndexOutOfBoundsException (fun q => ?_)
      refine a_astore6 cx dL_propose_12 (by decide) (by intro w h; first | (cases h; rfl) | (cases h; assumption) | (cases h; done)) ?_
      refine a_sipush cx (v := -1001) dL_propose_14 (by decide) ?_
      exact a_iret cx hr dL_propose_17 (Nat.le_of_ble_eq_true rfl) (Nat.le_of_ble_eq_true rfl) ⟨rr_n hk (by decide) (by decide), Or.inr ⟨by rw [hk]; decide, rfl, rfl⟩⟩
    · refine a_catch cx [⟨0, 11, 12, 27⟩] ⟨0, 11, 18, 20⟩ [⟨0, 11, 24, 22⟩] (htab.trans rfl) (fun z hz => by rcases List.mem_cons.mp hz with rfl | hz; exact Or.inr ⟨by decide, _, cl_L_27, by decide +kernel⟩; cases hz) (by decide) (by decide) cl_L_20 ca_IllegalArgumentException_IllegalArgumentException (fun q => ?_)
      refine a_astore6 cx dL_propose_18 (by decide) (by intro w h; first | (cases h; rfl) | (cases h; assumption) | (cases h; done)) ?_
      refine a_sipush cx (v := -1002) dL_propose_20 (by decide) ?_
      exact a_iret cx hr dL_propose_23 (Nat.le_of_ble_eq_true rfl) (Nat.le_of_ble_eq_true rfl) ⟨rr_n hk (by decide) (by decide), Or.inr ⟨by rw [hk]; decide, rfl, rfl⟩⟩
    · refine a_catch cx [⟨0, 11, 12, 27⟩, ⟨0, 11, 18, 20⟩] ⟨0, 11, 24, 22⟩ [] (htab.trans rfl) (fun z hz => by rcases List.mem_cons.mp hz with rfl | hz; exact Or.inr ⟨by decide, _, cl_L_27, by decide +kernel⟩; rcases List.mem_cons.mp hz with rfl | hz; exact Or.inr ⟨by decide, _, cl_L_20, by decide +kernel⟩; cases hz) (by decide) (by decide) cl_L_22 ca_IllegalStateException_IllegalStateException (fun q => ?_)
      refine a_astore6 cx dL_propose_24 (by decide) (by intro w h; first | (cases h; rfl) | (cases h; assumption) | (cases h; done)) ?_
      refine a_sipush cx (v := -1003) dL_propose_26 (by decide) ?_
      exact a_iret cx hr dL_propose_29 (Nat.le_of_ble_eq_true rfl) (Nat.le_of_ble_eq_true rfl) ⟨rr_n hk (by decide) (by decide), Or.inr ⟨by rw [hk]; decide, rfl, rfl⟩⟩
  obtain ⟨hk, rfl, had, hH9⟩ := hP
  exact a_iret cx hr dL_propose_11 (Nat.le_of_ble_eq_true rfl) (Nat.le_of_ble_eq_true rfl) ⟨rr_0 hk, Or.inl ⟨hk, had, hH9⟩⟩

set_option maxHeartbeats 4000000 in
set_option maxRecDepth 100000 in
/-- wrapper: meet -/
theorem sp_L_meet {l : Launch} {g : GW} {ad : AD} {τ : RH} {Lv : Nat → Bool} {C : ME} {ρ : RH} {b : Int32} (hH : HH g ad Lv C ρ τ) (hI : cI Lv C) : Sp l g yL_meet (.codeWith yL_meet cL_meet 3 (some .int) [(0, 5, 6, 27), (0, 5, 11, 22)]) (rmv 9 810 8092) [.ref (ad 0), .int b] ad τ 810 8092 (fun v ad' τ' => v = some (.int (rr (kMeet C b) (nI (cNq (qMeet Lv C (tn b)).2 (tn b))))) ∧ ((kMeet C b = 0 ∧ (∀ y, y ≠ 12 + 10 * tn b → ad' y = ad y) ∧ HH g ad' ((qMeet Lv C (tn b)).1) ((qMeet Lv C (tn b)).2) ρ τ') ∨ (¬ kMeet C b = 0 ∧ ad' = ad ∧ τ' = τ))) (NoX) := by
  refine Sp.ofH 1 [some (.ref (ad 0)), some (.int b), none] (by decide +kernel) (Nat.le_of_ble_eq_true rfl) rfl ?_
  intro p e s m args below meth c A cx htab hr
  have hO := (H_lines hH hI).1
  refine a_aload_n cx dL_meet_0 rfl rfl ?_
  refine a_iload_n cx dL_meet_1 rfl rfl ?_
  refine a_callV cx 1 (sp_X3_meet hH hI) hO rfl ml_L_33 im_X3_meet se_X3_meet ini_X3 cd_X3_meet rfl rfl (by decide +kernel) rfl rfl ⟨(Nat.le_of_ble_eq_true rfl), (Nat.le_of_ble_eq_true rfl)⟩ (Nat.le_of_ble_eq_true rfl) dL_meet_2 ⟨(Nat.le_of_ble_eq_true rfl), (Nat.le_of_ble_eq_true rfl)⟩ (fun E9 ad9 τ9 hX => ?_) (fun v9 ad9 τ9 hP => ?_)
  · obtain ⟨hk, h2, h3⟩ := hX
    replace h2 := h2.symm
    subst h2
    replace h3 := h3.symm
    subst h3
    rcases hk with ⟨hk, rfl⟩ | ⟨hk, rfl⟩
    · refine a_catch cx [] ⟨0, 5, 6, 27⟩ [⟨0, 5, 11, 22⟩] (htab.trans rfl) (fun z hz => by cases hz) (by decide) (by decide) cl_L_27 ca_IndexOutOfBoundsException_IndexOutOfBoundsException (fun q => ?_)
      refine a_astore_n2 cx dL_meet_6 rfl (by decide) (by intro w h; first | (cases h; rfl) | (cases h; assumption) | (cases h; done)) ?_
      refine a_sipush cx (v := -1001) dL_meet_7 (by decide) ?_
      exact a_iret cx hr dL_meet_10 (Nat.le_of_ble_eq_true rfl) (Nat.le_of_ble_eq_true rfl) ⟨rr_n hk (by decide) (by decide), Or.inr ⟨by rw [hk]; decide, rfl, rfl⟩⟩
    · refine a_catch cx [⟨0, 5, 6, 27⟩] ⟨0, 5, 11, 22⟩ [] (htab.trans rfl) (fun z hz => by rcases List.mem_cons.mp hz with rfl | hz; exact Or.inr ⟨by decide, _, cl_L_27, by decide +kernel⟩; cases hz) (by decide) (by decide) cl_L_22 ca_IllegalStateException_IllegalStateException (fun q => ?_)
      refine a_astore_n2 cx dL_meet_11 rfl (by decide) (by intro w h; first | (cases h; rfl) | (cases h; assumption) | (cases h; done)) ?_
      refine a_sipush cx (v := -1002) dL_meet_12 (by decide) ?_
      exact a_iret cx hr dL_meet_15 (Nat.le_of_ble_eq_true rfl) (Nat.le_of_ble_eq_true rfl) ⟨rr_n hk (by decide) (by decide), Or.inr ⟨by rw [hk]; decide, rfl, rfl⟩⟩
  obtain ⟨hk, rfl, had, hH9⟩ := hP
  exact a_iret cx hr dL_meet_5 (Nat.le_of_ble_eq_true rfl) (Nat.le_of_ble_eq_true rfl) ⟨rr_0 hk, Or.inl ⟨hk, had, hH9⟩⟩

set_option maxHeartbeats 4000000 in
set_option maxRecDepth 100000 in
/-- wrapper: reserve -/
theorem sp_L_reserve {l : Launch} {g : GW} {ad : AD} {τ : RH} {Lv : Nat → Bool} {C : ME} {ρ : RH} {b : Int32} (hH : HH g ad Lv C ρ τ) (hI : cI Lv C) : Sp l g yL_reserve (.codeWith yL_reserve cL_reserve 3 (some .int) [(0, 5, 6, 27), (0, 5, 11, 22)]) (rmv 9 2 12) [.ref (ad 0), .int b] ad τ 2 12 (fun v ad' τ' => v = some (.int (rr (kReserve C b) (C (13 + 10 * tn b) 2))) ∧ ad' = ad ∧ τ' = τ) (NoX) := by
  refine Sp.ofH 1 [some (.ref (ad 0)), some (.int b), none] (by decide +kernel) (Nat.le_of_ble_eq_true rfl) rfl ?_
  intro p e s m args below meth c A cx htab hr
  have hO := (H_lines hH hI).1
  refine a_aload_n cx dL_reserve_0 rfl rfl ?_
  refine a_iload_n cx dL_reserve_1 rfl rfl ?_
  refine a_callV cx 1 (sp_X3_reserve hH hI) hO rfl ml_L_37 im_X3_reserve se_X3_reserve ini_X3 cd_X3_reserve rfl rfl (by decide +kernel) rfl rfl ⟨(Nat.le_of_ble_eq_true rfl), (Nat.le_of_ble_eq_true rfl)⟩ (Nat.le_of_ble_eq_true rfl) dL_reserve_2 ⟨(Nat.le_of_ble_eq_true rfl), (Nat.le_of_ble_eq_true rfl)⟩ (fun E9 ad9 τ9 hX => ?_) (fun v9 ad9 τ9 hP => ?_)
  · obtain ⟨hk, h2, h3⟩ := hX
    replace h2 := h2.symm
    subst h2
    replace h3 := h3.symm
    subst h3
    rcases hk with ⟨hk, rfl⟩ | ⟨hk, rfl⟩
    · refine a_catch cx [] ⟨0, 5, 6, 27⟩ [⟨0, 5, 11, 22⟩] (htab.trans rfl) (fun z hz => by cases hz) (by decide) (by decide) cl_L_27 ca_IndexOutOfBoundsException_IndexOutOfBoundsException (fun q => ?_)
      refine a_astore_n2 cx dL_reserve_6 rfl (by decide) (by intro w h; first | (cases h; rfl) | (cases h; assumption) | (cases h; done)) ?_
      refine a_sipush cx (v := -1001) dL_reserve_7 (by decide) ?_
      exact a_iret cx hr dL_reserve_10 (Nat.le_of_ble_eq_true rfl) (Nat.le_of_ble_eq_true rfl) ⟨rr_n hk (by decide) (by decide), rfl, rfl⟩
    · refine a_catch cx [⟨0, 5, 6, 27⟩] ⟨0, 5, 11, 22⟩ [] (htab.trans rfl) (fun z hz => by rcases List.mem_cons.mp hz with rfl | hz; exact Or.inr ⟨by decide, _, cl_L_27, by decide +kernel⟩; cases hz) (by decide) (by decide) cl_L_22 ca_IllegalStateException_IllegalStateException (fun q => ?_)
      refine a_astore_n2 cx dL_reserve_11 rfl (by decide) (by intro w h; first | (cases h; rfl) | (cases h; assumption) | (cases h; done)) ?_
      refine a_sipush cx (v := -1002) dL_reserve_12 (by decide) ?_
      exact a_iret cx hr dL_reserve_15 (Nat.le_of_ble_eq_true rfl) (Nat.le_of_ble_eq_true rfl) ⟨rr_n hk (by decide) (by decide), rfl, rfl⟩
  obtain ⟨hk, rfl, h2, h3⟩ := hP
  replace h2 := h2.symm
  subst h2
  replace h3 := h3.symm
  subst h3
  exact a_iret cx hr dL_reserve_5 (Nat.le_of_ble_eq_true rfl) (Nat.le_of_ble_eq_true rfl) ⟨rr_0 hk, rfl, rfl⟩

set_option maxHeartbeats 4000000 in
set_option maxRecDepth 100000 in
/-- wrapper: train -/
theorem sp_L_train {l : Launch} {g : GW} {ad : AD} {τ : RH} {Lv : Nat → Bool} {C : ME} {ρ : RH} {u : Int32} (hH : HH g ad Lv C ρ τ) (hI : cI Lv C) : Sp l g yL_train (.codeWith yL_train cL_train 3 (some .int) [(0, 5, 6, 27), (0, 5, 11, 22)]) (rmv 9 2 12) [.ref (ad 0), .int u] ad τ 2 12 (fun v ad' τ' => v = some (.int (rr (kTrain C u) (cTrained (va_up (C 5) (tn u) 1)))) ∧ ((kTrain C u = 0 ∧ (ad' = ad) ∧ HH g ad' (Lv) (up2 C 5 (tn u) 1) ρ τ') ∨ (¬ kTrain C u = 0 ∧ ad' = ad ∧ τ' = τ))) (NoX) := by
  refine Sp.ofH 1 [some (.ref (ad 0)), some (.int u), none] (by decide +kernel) (Nat.le_of_ble_eq_true rfl) rfl ?_
  intro p e s m args below meth c A cx htab hr
  have hO := (H_lines hH hI).1
  refine a_aload_n cx dL_train_0 rfl rfl ?_
  refine a_iload_n cx dL_train_1 rfl rfl ?_
  refine a_callV cx 1 (sp_X3_train hH hI) hO rfl ml_L_40 im_X3_train se_X3_train ini_X3 cd_X3_train rfl rfl (by decide +kernel) rfl rfl ⟨(Nat.le_of_ble_eq_true rfl), (Nat.le_of_ble_eq_true rfl)⟩ (Nat.le_of_ble_eq_true rfl) dL_train_2 ⟨(Nat.le_of_ble_eq_true rfl), (Nat.le_of_ble_eq_true rfl)⟩ (fun E9 ad9 τ9 hX => ?_) (fun v9 ad9 τ9 hP => ?_)
  · obtain ⟨hk, h2, h3⟩ := hX
    replace h2 := h2.symm
    subst h2
    replace h3 := h3.symm
    subst h3
    rcases hk with ⟨hk, rfl⟩ | ⟨hk, rfl⟩
    · refine a_catch cx [] ⟨0, 5, 6, 27⟩ [⟨0, 5, 11, 22⟩] (htab.trans rfl) (fun z hz => by cases hz) (by decide) (by decide) cl_L_27 ca_IndexOutOfBoundsException_IndexOutOfBoundsException (fun q => ?_)
      refine a_astore_n2 cx dL_train_6 rfl (by decide) (by intro w h; first | (cases h; rfl) | (cases h; assumption) | (cases h; done)) ?_
      refine a_sipush cx (v := -1001) dL_train_7 (by decide) ?_
      exact a_iret cx hr dL_train_10 (Nat.le_of_ble_eq_true rfl) (Nat.le_of_ble_eq_true rfl) ⟨rr_n hk (by decide) (by decide), Or.inr ⟨by rw [hk]; decide, rfl, rfl⟩⟩
    · refine a_catch cx [⟨0, 5, 6, 27⟩] ⟨0, 5, 11, 22⟩ [] (htab.trans rfl) (fun z hz => by rcases List.mem_cons.mp hz with rfl | hz; exact Or.inr ⟨by decide, _, cl_L_27, by decide +kernel⟩; cases hz) (by decide) (by decide) cl_L_22 ca_IllegalStateException_IllegalStateException (fun q => ?_)
      refine a_astore_n2 cx dL_train_11 rfl (by decide) (by intro w h; first | (cases h; rfl) | (cases h; assumption) | (cases h; done)) ?_
      refine a_sipush cx (v := -1002) dL_train_12 (by decide) ?_
      exact a_iret cx hr dL_train_15 (Nat.le_of_ble_eq_true rfl) (Nat.le_of_ble_eq_true rfl) ⟨rr_n hk (by decide) (by decide), Or.inr ⟨by rw [hk]; decide, rfl, rfl⟩⟩
  obtain ⟨hk, rfl, h2, hH9⟩ := hP
  replace h2 := h2.symm
  subst h2
  exact a_iret cx hr dL_train_5 (Nat.le_of_ble_eq_true rfl) (Nat.le_of_ble_eq_true rfl) ⟨rr_0 hk, Or.inl ⟨hk, rfl, hH9⟩⟩

set_option maxHeartbeats 4000000 in
set_option maxRecDepth 100000 in
/-- wrapper: setThere -/
theorem sp_L_setThere {l : Launch} {g : GW} {ad : AD} {τ : RH} {Lv : Nat → Bool} {C : ME} {ρ : RH} {u : Int32} {z : Int32} (hH : HH g ad Lv C ρ τ) (hI : cI Lv C) (hz : z = 0 ∨ z = 1) (h6 : ∀ i, C 6 i = 0 ∨ C 6 i = 1) : Sp l g yL_setThere (.codeWith yL_setThere cL_setThere 4 (some .int) [(0, 14, 15, 27)]) (rmv 9 2 12) [.ref (ad 0), .int u, .int z] ad τ 2 12 (fun v ad' τ' => v = some (.int (rr (kThere u) (if C 6 (tn u) = 0 then 0 else 1))) ∧ ((kThere u = 0 ∧ (ad' = ad) ∧ HH g ad' (Lv) (up2 C 6 (tn u) z) ρ τ') ∨ (¬ kThere u = 0 ∧ ad' = ad ∧ τ' = τ))) (NoX) := by
  refine Sp.ofH 1 [some (.ref (ad 0)), some (.int u), some (.int z), none] (by decide +kernel) (Nat.le_of_ble_eq_true rfl) rfl ?_
  intro p e s m args below meth c A cx htab hr
  have hO := (H_lines hH hI).1
  refine a_aload_n cx dL_setThere_0 rfl rfl ?_
  refine a_iload_n cx dL_setThere_1 rfl rfl ?_
  refine a_iload_n cx dL_setThere_2 rfl rfl ?_
  refine a_callV cx 2 (sp_X3_setThere hH hI hz h6) hO rfl ml_L_43 im_X3_setThere se_X3_setThere ini_X3 cd_X3_setThere rfl rfl (by decide +kernel) rfl rfl ⟨(Nat.le_of_ble_eq_true rfl), (Nat.le_of_ble_eq_true rfl)⟩ (Nat.le_of_ble_eq_true rfl) dL_setThere_3 ⟨(Nat.le_of_ble_eq_true rfl), (Nat.le_of_ble_eq_true rfl)⟩ (fun E9 ad9 τ9 hX => ?_) (fun v9 ad9 τ9 hP => ?_)
  · obtain ⟨hk, h2, h3⟩ := hX
    replace h2 := h2.symm
    subst h2
    replace h3 := h3.symm
    subst h3
    obtain ⟨hk, rfl⟩ := hk
    refine a_catch cx [] ⟨0, 14, 15, 27⟩ [] (htab.trans rfl) (fun z hz => by cases hz) (by decide) (by decide) cl_L_27 ca_IndexOutOfBoundsException_IndexOutOfBoundsException (fun q => ?_)
    refine a_astore_n3 cx dL_setThere_15 rfl (by decide) (by intro w h; first | (cases h; rfl) | (cases h; assumption) | (cases h; done)) ?_
    refine a_sipush cx (v := -1001) dL_setThere_16 (by decide) ?_
    exact a_iret cx hr dL_setThere_19 (Nat.le_of_ble_eq_true rfl) (Nat.le_of_ble_eq_true rfl) ⟨rr_n hk (by decide) (by decide), Or.inr ⟨by rw [hk]; decide, rfl, rfl⟩⟩
  obtain ⟨hk, rfl, h2, hH9⟩ := hP
  replace h2 := h2.symm
  subst h2
  refine a_if_eq cx (tgt := 13) dL_setThere_6 (by decide) (fun c_6 => ?_) (fun c_6 => ?_)
  · refine a_iconst cx (v := 0) dL_setThere_13 (by decide) ?_
    exact a_iret cx hr dL_setThere_14 (Nat.le_of_ble_eq_true rfl) (Nat.le_of_ble_eq_true rfl) ⟨(show some (Value.int 0) = _ from by rw [← rr_0 hk, if_pos c_6]), Or.inl ⟨hk, rfl, hH9⟩⟩
  · refine a_iconst cx (v := 1) dL_setThere_9 (by decide) ?_
    refine a_goto cx (tgt := 14) dL_setThere_10 (by decide) ?_
    exact a_iret cx hr dL_setThere_14 (Nat.le_of_ble_eq_true rfl) (Nat.le_of_ble_eq_true rfl) ⟨(show some (Value.int 1) = _ from by rw [← rr_0 hk, if_neg c_6]), Or.inl ⟨hk, rfl, hH9⟩⟩

set_option maxHeartbeats 4000000 in
set_option maxRecDepth 100000 in
/-- wrapper: bring -/
theorem sp_L_bring {l : Launch} {g : GW} {ad : AD} {τ : RH} {Lv : Nat → Bool} {C : ME} {ρ : RH} {j : Int32} {x : Int32} (hH : HH g ad Lv C ρ τ) (hI : cI Lv C) : Sp l g yL_bring (.codeWith yL_bring cL_bring 4 (some .int) [(0, 6, 7, 27), (0, 6, 12, 20)]) (rmv 9 2 12) [.ref (ad 0), .int j, .int x] ad τ 2 12 (fun v ad' τ' => v = some (.int (rr (kBring C j x) (C (40 + tn j) 7))) ∧ ((kBring C j x = 0 ∧ (ad' = ad) ∧ HH g ad' (Lv) (va_up C (40 + tn j) (va_up (va_up (C (40 + tn j)) 7 x) 8 114)) ρ τ') ∨ (¬ kBring C j x = 0 ∧ ad' = ad ∧ τ' = τ))) (NoX) := by
  refine Sp.ofH 1 [some (.ref (ad 0)), some (.int j), some (.int x), none] (by decide +kernel) (Nat.le_of_ble_eq_true rfl) rfl ?_
  intro p e s m args below meth c A cx htab hr
  have hO := (H_lines hH hI).1
  refine a_aload_n cx dL_bring_0 rfl rfl ?_
  refine a_iload_n cx dL_bring_1 rfl rfl ?_
  refine a_iload_n cx dL_bring_2 rfl rfl ?_
  refine a_callV cx 2 (sp_X3_bring hH hI) hO rfl ml_L_47 im_X3_bring se_X3_bring ini_X3 cd_X3_bring rfl rfl (by decide +kernel) rfl rfl ⟨(Nat.le_of_ble_eq_true rfl), (Nat.le_of_ble_eq_true rfl)⟩ (Nat.le_of_ble_eq_true rfl) dL_bring_3 ⟨(Nat.le_of_ble_eq_true rfl), (Nat.le_of_ble_eq_true rfl)⟩ (fun E9 ad9 τ9 hX => ?_) (fun v9 ad9 τ9 hP => ?_)
  · obtain ⟨hk, h2, h3⟩ := hX
    replace h2 := h2.symm
    subst h2
    replace h3 := h3.symm
    subst h3
    rcases hk with ⟨hk, rfl⟩ | ⟨hk, rfl⟩
    · refine a_catch cx [] ⟨0, 6, 7, 27⟩ [⟨0, 6, 12, 20⟩] (htab.trans rfl) (fun z hz => by cases hz) (by decide) (by decide) cl_L_27 ca_IndexOutOfBoundsException_IndexOutOfBoundsException (fun q => ?_)
      refine a_astore_n3 cx dL_bring_7 rfl (by decide) (by intro w h; first | (cases h; rfl) | (cases h; assumption) | (cases h; done)) ?_
      refine a_sipush cx (v := -1001) dL_bring_8 (by decide) ?_
      exact a_iret cx hr dL_bring_11 (Nat.le_of_ble_eq_true rfl) (Nat.le_of_ble_eq_true rfl) ⟨rr_n hk (by decide) (by decide), Or.inr ⟨by rw [hk]; decide, rfl, rfl⟩⟩
    · refine a_catch cx [⟨0, 6, 7, 27⟩] ⟨0, 6, 12, 20⟩ [] (htab.trans rfl) (fun z hz => by rcases List.mem_cons.mp hz with rfl | hz; exact Or.inr ⟨by decide, _, cl_L_27, by decide +kernel⟩; cases hz) (by decide) (by decide) cl_L_20 ca_IllegalArgumentException_IllegalArgumentException (fun q => ?_)
      refine a_astore_n3 cx dL_bring_12 rfl (by decide) (by intro w h; first | (cases h; rfl) | (cases h; assumption) | (cases h; done)) ?_
      refine a_sipush cx (v := -1002) dL_bring_13 (by decide) ?_
      exact a_iret cx hr dL_bring_16 (Nat.le_of_ble_eq_true rfl) (Nat.le_of_ble_eq_true rfl) ⟨rr_n hk (by decide) (by decide), Or.inr ⟨by rw [hk]; decide, rfl, rfl⟩⟩
  obtain ⟨hk, rfl, h2, hH9⟩ := hP
  replace h2 := h2.symm
  subst h2
  exact a_iret cx hr dL_bring_6 (Nat.le_of_ble_eq_true rfl) (Nat.le_of_ble_eq_true rfl) ⟨rr_0 hk, Or.inl ⟨hk, rfl, hH9⟩⟩

set_option maxHeartbeats 4000000 in
set_option maxRecDepth 100000 in
/-- wrapper: put -/
theorem sp_L_put {l : Launch} {g : GW} {ad : AD} {τ : RH} {Lv : Nat → Bool} {C : ME} {ρ : RH} {j : Int32} {x : Int32} (hH : HH g ad Lv C ρ τ) (hI : cI Lv C) (hx : vp_nar .char x = x) (h8 : ∀ j, j < cNp C → narrow .char (.int (C (40 + j) 8)) = .int (C (40 + j) 8)) : Sp l g yL_put (.codeWith yL_put cL_put 4 (some .int) [(0, 6, 7, 27), (0, 6, 12, 20), (0, 6, 17, 54), (0, 6, 22, 56)]) (rmv 9 2 12) [.ref (ad 0), .int j, .int x] ad τ 2 12 (fun v ad' τ' => v = some (.int (rr (kPut C j x) (C (40 + tn j) 8))) ∧ ((kPut C j x = 0 ∧ (ad' = ad) ∧ HH g ad' (Lv) (up2 C (40 + tn j) 8 x) ρ τ') ∨ (¬ kPut C j x = 0 ∧ ad' = ad ∧ τ' = τ))) (NoX) := by
  refine Sp.ofH 1 [some (.ref (ad 0)), some (.int j), some (.int x), none] (by decide +kernel) (Nat.le_of_ble_eq_true rfl) rfl ?_
  intro p e s m args below meth c A cx htab hr
  have hO := (H_lines hH hI).1
  refine a_aload_n cx dL_put_0 rfl rfl ?_
  refine a_iload_n cx dL_put_1 rfl rfl ?_
  refine a_iload_n cx dL_put_2 rfl rfl ?_
  refine a_callV cx 2 (sp_X3_put hH hI hx h8) hO rfl ml_L_50 im_X3_put se_X3_put ini_X3 cd_X3_put rfl rfl (by decide +kernel) rfl rfl ⟨(Nat.le_of_ble_eq_true rfl), (Nat.le_of_ble_eq_true rfl)⟩ (Nat.le_of_ble_eq_true rfl) dL_put_3 ⟨(Nat.le_of_ble_eq_true rfl), (Nat.le_of_ble_eq_true rfl)⟩ (fun E9 ad9 τ9 hX => ?_) (fun v9 ad9 τ9 hP => ?_)
  · obtain ⟨hk, h2, h3⟩ := hX
    replace h2 := h2.symm
    subst h2
    replace h3 := h3.symm
    subst h3
    rcases hk with ⟨hk, rfl⟩ | ⟨hk, rfl⟩ | ⟨hk, rfl⟩ | ⟨hk, rfl⟩
    · refine a_catch cx [] ⟨0, 6, 7, 27⟩ [⟨0, 6, 12, 20⟩, ⟨0, 6, 17, 54⟩, ⟨0, 6, 22, 56⟩] (htab.trans rfl) (fun z hz => by cases hz) (by decide) (by decide) cl_L_27 ca_IndexOutOfBoundsException_IndexOutOfBoundsException (fun q => ?_)
      refine a_astore_n3 cx dL_put_7 rfl (by decide) (by intro w h; first | (cases h; rfl) | (cases h; assumption) | (cases h; done)) ?_
      refine a_sipush cx (v := -1001) dL_put_8 (by decide) ?_
      exact a_iret cx hr dL_put_11 (Nat.le_of_ble_eq_true rfl) (Nat.le_of_ble_eq_true rfl) ⟨rr_n hk (by decide) (by decide), Or.inr ⟨by rw [hk]; decide, rfl, rfl⟩⟩
    · refine a_catch cx [⟨0, 6, 7, 27⟩] ⟨0, 6, 12, 20⟩ [⟨0, 6, 17, 54⟩, ⟨0, 6, 22, 56⟩] (htab.trans rfl) (fun z hz => by rcases List.mem_cons.mp hz with rfl | hz; exact Or.inr ⟨by decide, _, cl_L_27, by decide +kernel⟩; cases hz) (by decide) (by decide) cl_L_20 ca_IllegalArgumentException_IllegalArgumentException (fun q => ?_)
      refine a_astore_n3 cx dL_put_12 rfl (by decide) (by intro w h; first | (cases h; rfl) | (cases h; assumption) | (cases h; done)) ?_
      refine a_sipush cx (v := -1002) dL_put_13 (by decide) ?_
      exact a_iret cx hr dL_put_16 (Nat.le_of_ble_eq_true rfl) (Nat.le_of_ble_eq_true rfl) ⟨rr_n hk (by decide) (by decide), Or.inr ⟨by rw [hk]; decide, rfl, rfl⟩⟩
    · refine a_catch cx [⟨0, 6, 7, 27⟩, ⟨0, 6, 12, 20⟩] ⟨0, 6, 17, 54⟩ [⟨0, 6, 22, 56⟩] (htab.trans rfl) (fun z hz => by rcases List.mem_cons.mp hz with rfl | hz; exact Or.inr ⟨by decide, _, cl_L_27, by decide +kernel⟩; rcases List.mem_cons.mp hz with rfl | hz; exact Or.inr ⟨by decide, _, cl_L_20, by decide +kernel⟩; cases hz) (by decide) (by decide) cl_L_54 ca_NoSuchElementException_NoSuchElementException (fun q => ?_)
      refine a_astore_n3 cx dL_put_17 rfl (by decide) (by intro w h; first | (cases h; rfl) | (cases h; assumption) | (cases h; done)) ?_
      refine a_sipush cx (v := -1003) dL_put_18 (by decide) ?_
      exact a_iret cx hr dL_put_21 (Nat.le_of_ble_eq_true rfl) (Nat.le_of_ble_eq_true rfl) ⟨rr_n hk (by decide) (by decide), Or.inr ⟨by rw [hk]; decide, rfl, rfl⟩⟩
    · refine a_catch cx [⟨0, 6, 7, 27⟩, ⟨0, 6, 12, 20⟩, ⟨0, 6, 17, 54⟩] ⟨0, 6, 22, 56⟩ [] (htab.trans rfl) (fun z hz => by rcases List.mem_cons.mp hz with rfl | hz; exact Or.inr ⟨by decide, _, cl_L_27, by decide +kernel⟩; rcases List.mem_cons.mp hz with rfl | hz; exact Or.inr ⟨by decide, _, cl_L_20, by decide +kernel⟩; rcases List.mem_cons.mp hz with rfl | hz; exact Or.inr ⟨by decide, _, cl_L_54, by decide +kernel⟩; cases hz) (by decide) (by decide) cl_L_56 ca_UnsupportedOperationException_UnsupportedOperationException (fun q => ?_)
      refine a_astore_n3 cx dL_put_22 rfl (by decide) (by intro w h; first | (cases h; rfl) | (cases h; assumption) | (cases h; done)) ?_
      refine a_sipush cx (v := -1004) dL_put_23 (by decide) ?_
      exact a_iret cx hr dL_put_26 (Nat.le_of_ble_eq_true rfl) (Nat.le_of_ble_eq_true rfl) ⟨rr_n hk (by decide) (by decide), Or.inr ⟨by rw [hk]; decide, rfl, rfl⟩⟩
  obtain ⟨hk, rfl, h2, hH9⟩ := hP
  replace h2 := h2.symm
  subst h2
  exact a_iret cx hr dL_put_6 (Nat.le_of_ble_eq_true rfl) (Nat.le_of_ble_eq_true rfl) ⟨rr_0 hk, Or.inl ⟨hk, rfl, hH9⟩⟩

set_option maxHeartbeats 4000000 in
set_option maxRecDepth 100000 in
/-- wrapper: life -/
theorem sp_L_life {l : Launch} {g : GW} {ad : AD} {τ : RH} {Lv : Nat → Bool} {C : ME} {ρ : RH} {j : Int32} (hH : HH g ad Lv C ρ τ) (hI : cI Lv C) : Sp l g yL_life (.codeWith yL_life cL_life 3 (some .int) [(0, 5, 6, 27), (0, 5, 11, 54)]) (rmv 9 2 12) [.ref (ad 0), .int j] ad τ 2 12 (fun v ad' τ' => v = some (.int (rr (kLife C j) (C (40 + tn j) 7))) ∧ ad' = ad ∧ τ' = τ) (NoX) := by
  refine Sp.ofH 1 [some (.ref (ad 0)), some (.int j), none] (by decide +kernel) (Nat.le_of_ble_eq_true rfl) rfl ?_
  intro p e s m args below meth c A cx htab hr
  have hO := (H_lines hH hI).1
  refine a_aload_n cx dL_life_0 rfl rfl ?_
  refine a_iload_n cx dL_life_1 rfl rfl ?_
  refine a_callV cx 1 (sp_X3_life hH hI) hO rfl ml_L_58 im_X3_life se_X3_life ini_X3 cd_X3_life rfl rfl (by decide +kernel) rfl rfl ⟨(Nat.le_of_ble_eq_true rfl), (Nat.le_of_ble_eq_true rfl)⟩ (Nat.le_of_ble_eq_true rfl) dL_life_2 ⟨(Nat.le_of_ble_eq_true rfl), (Nat.le_of_ble_eq_true rfl)⟩ (fun E9 ad9 τ9 hX => ?_) (fun v9 ad9 τ9 hP => ?_)
  · obtain ⟨hk, h2, h3⟩ := hX
    replace h2 := h2.symm
    subst h2
    replace h3 := h3.symm
    subst h3
    rcases hk with ⟨hk, rfl⟩ | ⟨hk, rfl⟩
    · refine a_catch cx [] ⟨0, 5, 6, 27⟩ [⟨0, 5, 11, 54⟩] (htab.trans rfl) (fun z hz => by cases hz) (by decide) (by decide) cl_L_27 ca_IndexOutOfBoundsException_IndexOutOfBoundsException (fun q => ?_)
      refine a_astore_n2 cx dL_life_6 rfl (by decide) (by intro w h; first | (cases h; rfl) | (cases h; assumption) | (cases h; done)) ?_
      refine a_sipush cx (v := -1001) dL_life_7 (by decide) ?_
      exact a_iret cx hr dL_life_10 (Nat.le_of_ble_eq_true rfl) (Nat.le_of_ble_eq_true rfl) ⟨rr_n hk (by decide) (by decide), rfl, rfl⟩
    · refine a_catch cx [⟨0, 5, 6, 27⟩] ⟨0, 5, 11, 54⟩ [] (htab.trans rfl) (fun z hz => by rcases List.mem_cons.mp hz with rfl | hz; exact Or.inr ⟨by decide, _, cl_L_27, by decide +kernel⟩; cases hz) (by decide) (by decide) cl_L_54 ca_NoSuchElementException_NoSuchElementException (fun q => ?_)
      refine a_astore_n2 cx dL_life_11 rfl (by decide) (by intro w h; first | (cases h; rfl) | (cases h; assumption) | (cases h; done)) ?_
      refine a_sipush cx (v := -1002) dL_life_12 (by decide) ?_
      exact a_iret cx hr dL_life_15 (Nat.le_of_ble_eq_true rfl) (Nat.le_of_ble_eq_true rfl) ⟨rr_n hk (by decide) (by decide), rfl, rfl⟩
  obtain ⟨hk, rfl, h2, h3⟩ := hP
  replace h2 := h2.symm
  subst h2
  replace h3 := h3.symm
  subst h3
  exact a_iret cx hr dL_life_5 (Nat.le_of_ble_eq_true rfl) (Nat.le_of_ble_eq_true rfl) ⟨rr_0 hk, rfl, rfl⟩

set_option maxHeartbeats 4000000 in
set_option maxRecDepth 100000 in
/-- wrapper: on -/
theorem sp_L_on {l : Launch} {g : GW} {ad : AD} {τ : RH} {Lv : Nat → Bool} {C : ME} {ρ : RH} {b : Int32} (hH : HH g ad Lv C ρ τ) (hI : cI Lv C) : Sp l g yL_on (.codeWith yL_on cL_on 3 (some .int) [(0, 5, 6, 27), (0, 5, 11, 54)]) (rmv 9 2 12) [.ref (ad 0), .int b] ad τ 2 12 (fun v ad' τ' => v = some (.int (rr (kOn C b) (cOn C (tn b)))) ∧ ad' = ad ∧ τ' = τ) (NoX) := by
  refine Sp.ofH 1 [some (.ref (ad 0)), some (.int b), none] (by decide +kernel) (Nat.le_of_ble_eq_true rfl) rfl ?_
  intro p e s m args below meth c A cx htab hr
  have hO := (H_lines hH hI).1
  refine a_aload_n cx dL_on_0 rfl rfl ?_
  refine a_iload_n cx dL_on_1 rfl rfl ?_
  refine a_callV cx 1 (sp_X3_on hH hI) hO rfl ml_L_61 im_X3_on se_X3_on ini_X3 cd_X3_on rfl rfl (by decide +kernel) rfl rfl ⟨(Nat.le_of_ble_eq_true rfl), (Nat.le_of_ble_eq_true rfl)⟩ (Nat.le_of_ble_eq_true rfl) dL_on_2 ⟨(Nat.le_of_ble_eq_true rfl), (Nat.le_of_ble_eq_true rfl)⟩ (fun E9 ad9 τ9 hX => ?_) (fun v9 ad9 τ9 hP => ?_)
  · obtain ⟨hk, h2, h3⟩ := hX
    replace h2 := h2.symm
    subst h2
    replace h3 := h3.symm
    subst h3
    rcases hk with ⟨hk, rfl⟩ | ⟨hk, rfl⟩
    · refine a_catch cx [] ⟨0, 5, 6, 27⟩ [⟨0, 5, 11, 54⟩] (htab.trans rfl) (fun z hz => by cases hz) (by decide) (by decide) cl_L_27 ca_IndexOutOfBoundsException_IndexOutOfBoundsException (fun q => ?_)
      refine a_astore_n2 cx dL_on_6 rfl (by decide) (by intro w h; first | (cases h; rfl) | (cases h; assumption) | (cases h; done)) ?_
      refine a_sipush cx (v := -1001) dL_on_7 (by decide) ?_
      exact a_iret cx hr dL_on_10 (Nat.le_of_ble_eq_true rfl) (Nat.le_of_ble_eq_true rfl) ⟨rr_n hk (by decide) (by decide), rfl, rfl⟩
    · refine a_catch cx [⟨0, 5, 6, 27⟩] ⟨0, 5, 11, 54⟩ [] (htab.trans rfl) (fun z hz => by rcases List.mem_cons.mp hz with rfl | hz; exact Or.inr ⟨by decide, _, cl_L_27, by decide +kernel⟩; cases hz) (by decide) (by decide) cl_L_54 ca_NoSuchElementException_NoSuchElementException (fun q => ?_)
      refine a_astore_n2 cx dL_on_11 rfl (by decide) (by intro w h; first | (cases h; rfl) | (cases h; assumption) | (cases h; done)) ?_
      refine a_sipush cx (v := -1002) dL_on_12 (by decide) ?_
      exact a_iret cx hr dL_on_15 (Nat.le_of_ble_eq_true rfl) (Nat.le_of_ble_eq_true rfl) ⟨rr_n hk (by decide) (by decide), rfl, rfl⟩
  obtain ⟨hk, rfl, h2, h3⟩ := hP
  replace h2 := h2.symm
  subst h2
  replace h3 := h3.symm
  subst h3
  exact a_iret cx hr dL_on_5 (Nat.le_of_ble_eq_true rfl) (Nat.le_of_ble_eq_true rfl) ⟨rr_0 hk, rfl, rfl⟩

set_option maxHeartbeats 4000000 in
set_option maxRecDepth 100000 in
/-- wrapper: reason -/
theorem sp_L_reason {l : Launch} {g : GW} {ad : AD} {τ : RH} {Lv : Nat → Bool} {C : ME} {ρ : RH} {b : Int32} (hH : HH g ad Lv C ρ τ) (hI : cI Lv C) : Sp l g yL_reason (.codeWith yL_reason cL_reason 3 (some .int) [(0, 5, 6, 27)]) (rmv 9 2 12) [.ref (ad 0), .int b] ad τ 2 12 (fun v ad' τ' => v = some (.int (rr (kLine C b) (cWhy C (tn b)))) ∧ ad' = ad ∧ τ' = τ) (NoX) := by
  refine Sp.ofH 1 [some (.ref (ad 0)), some (.int b), none] (by decide +kernel) (Nat.le_of_ble_eq_true rfl) rfl ?_
  intro p e s m args below meth c A cx htab hr
  have hO := (H_lines hH hI).1
  refine a_aload_n cx dL_reason_0 rfl rfl ?_
  refine a_iload_n cx dL_reason_1 rfl rfl ?_
  refine a_callV cx 1 (sp_X3_reason hH hI) hO rfl ml_L_64 im_X3_reason se_X3_reason ini_X3 cd_X3_reason rfl rfl (by decide +kernel) rfl rfl ⟨(Nat.le_of_ble_eq_true rfl), (Nat.le_of_ble_eq_true rfl)⟩ (Nat.le_of_ble_eq_true rfl) dL_reason_2 ⟨(Nat.le_of_ble_eq_true rfl), (Nat.le_of_ble_eq_true rfl)⟩ (fun E9 ad9 τ9 hX => ?_) (fun v9 ad9 τ9 hP => ?_)
  · obtain ⟨hk, h2, h3⟩ := hX
    replace h2 := h2.symm
    subst h2
    replace h3 := h3.symm
    subst h3
    obtain ⟨hk, rfl⟩ := hk
    refine a_catch cx [] ⟨0, 5, 6, 27⟩ [] (htab.trans rfl) (fun z hz => by cases hz) (by decide) (by decide) cl_L_27 ca_IndexOutOfBoundsException_IndexOutOfBoundsException (fun q => ?_)
    refine a_astore_n2 cx dL_reason_6 rfl (by decide) (by intro w h; first | (cases h; rfl) | (cases h; assumption) | (cases h; done)) ?_
    refine a_sipush cx (v := -1001) dL_reason_7 (by decide) ?_
    exact a_iret cx hr dL_reason_10 (Nat.le_of_ble_eq_true rfl) (Nat.le_of_ble_eq_true rfl) ⟨rr_n hk (by decide) (by decide), rfl, rfl⟩
  obtain ⟨hk, rfl, h2, h3⟩ := hP
  replace h2 := h2.symm
  subst h2
  replace h3 := h3.symm
  subst h3
  exact a_iret cx hr dL_reason_5 (Nat.le_of_ble_eq_true rfl) (Nat.le_of_ble_eq_true rfl) ⟨rr_0 hk, rfl, rfl⟩

set_option maxHeartbeats 4000000 in
set_option maxRecDepth 100000 in
/-- wrapper: fail -/
theorem sp_L_fail {l : Launch} {g : GW} {ad : AD} {τ : RH} {Lv : Nat → Bool} {C : ME} {ρ : RH} {b : Int32} (hH : HH g ad Lv C ρ τ) (hI : cI Lv C) : Sp l g yL_fail (.codeWith yL_fail cL_fail 3 (some .int) [(0, 13, 14, 27), (0, 13, 19, 22)]) (rmv 9 2 12) [.ref (ad 0), .int b] ad τ 2 12 (fun v ad' τ' => v = some (.int (rr (kFail C b) (if cFail C (tn b) = 0 then 0 else 1))) ∧ ((kFail C b = 0 ∧ (ad' = ad) ∧ HH g ad' (Lv) (up2 C (10 + 10 * tn b) 10 1) ρ τ') ∨ (¬ kFail C b = 0 ∧ ad' = ad ∧ τ' = τ))) (NoX) := by
  refine Sp.ofH 1 [some (.ref (ad 0)), some (.int b), none] (by decide +kernel) (Nat.le_of_ble_eq_true rfl) rfl ?_
  intro p e s m args below meth c A cx htab hr
  have hO := (H_lines hH hI).1
  refine a_aload_n cx dL_fail_0 rfl rfl ?_
  refine a_iload_n cx dL_fail_1 rfl rfl ?_
  refine a_callV cx 1 (sp_X3_fail hH hI) hO rfl ml_L_68 im_X3_fail se_X3_fail ini_X3 cd_X3_fail rfl rfl (by decide +kernel) rfl rfl ⟨(Nat.le_of_ble_eq_true rfl), (Nat.le_of_ble_eq_true rfl)⟩ (Nat.le_of_ble_eq_true rfl) dL_fail_2 ⟨(Nat.le_of_ble_eq_true rfl), (Nat.le_of_ble_eq_true rfl)⟩ (fun E9 ad9 τ9 hX => ?_) (fun v9 ad9 τ9 hP => ?_)
  · obtain ⟨hk, h2, h3⟩ := hX
    replace h2 := h2.symm
    subst h2
    replace h3 := h3.symm
    subst h3
    rcases hk with ⟨hk, rfl⟩ | ⟨hk, rfl⟩
    · refine a_catch cx [] ⟨0, 13, 14, 27⟩ [⟨0, 13, 19, 22⟩] (htab.trans rfl) (fun z hz => by cases hz) (by decide) (by decide) cl_L_27 ca_IndexOutOfBoundsException_IndexOutOfBoundsException (fun q => ?_)
      refine a_astore_n2 cx dL_fail_14 rfl (by decide) (by intro w h; first | (cases h; rfl) | (cases h; assumption) | (cases h; done)) ?_
      refine a_sipush cx (v := -1001) dL_fail_15 (by decide) ?_
      exact a_iret cx hr dL_fail_18 (Nat.le_of_ble_eq_true rfl) (Nat.le_of_ble_eq_true rfl) ⟨rr_n hk (by decide) (by decide), Or.inr ⟨by rw [hk]; decide, rfl, rfl⟩⟩
    · refine a_catch cx [⟨0, 13, 14, 27⟩] ⟨0, 13, 19, 22⟩ [] (htab.trans rfl) (fun z hz => by rcases List.mem_cons.mp hz with rfl | hz; exact Or.inr ⟨by decide, _, cl_L_27, by decide +kernel⟩; cases hz) (by decide) (by decide) cl_L_22 ca_IllegalStateException_IllegalStateException (fun q => ?_)
      refine a_astore_n2 cx dL_fail_19 rfl (by decide) (by intro w h; first | (cases h; rfl) | (cases h; assumption) | (cases h; done)) ?_
      refine a_sipush cx (v := -1002) dL_fail_20 (by decide) ?_
      exact a_iret cx hr dL_fail_23 (Nat.le_of_ble_eq_true rfl) (Nat.le_of_ble_eq_true rfl) ⟨rr_n hk (by decide) (by decide), Or.inr ⟨by rw [hk]; decide, rfl, rfl⟩⟩
  obtain ⟨hk, rfl, h2, hH9⟩ := hP
  replace h2 := h2.symm
  subst h2
  refine a_if_eq cx (tgt := 12) dL_fail_5 (by decide) (fun c_5 => ?_) (fun c_5 => ?_)
  · refine a_iconst cx (v := 0) dL_fail_12 (by decide) ?_
    exact a_iret cx hr dL_fail_13 (Nat.le_of_ble_eq_true rfl) (Nat.le_of_ble_eq_true rfl) ⟨(show some (Value.int 0) = _ from by rw [← rr_0 hk, if_pos c_5]), Or.inl ⟨hk, rfl, hH9⟩⟩
  · refine a_iconst cx (v := 1) dL_fail_8 (by decide) ?_
    refine a_goto cx (tgt := 13) dL_fail_9 (by decide) ?_
    exact a_iret cx hr dL_fail_13 (Nat.le_of_ble_eq_true rfl) (Nat.le_of_ble_eq_true rfl) ⟨(show some (Value.int 1) = _ from by rw [← rr_0 hk, if_neg c_5]), Or.inl ⟨hk, rfl, hH9⟩⟩

set_option maxHeartbeats 4000000 in
set_option maxRecDepth 100000 in
/-- wrapper: pass -/
theorem sp_L_pass {l : Launch} {g : GW} {ad : AD} {τ : RH} {Lv : Nat → Bool} {C : ME} {ρ : RH} {n : Int32} (hH : HH g ad Lv C ρ τ) (hI : cI Lv C) : Sp l g yL_pass (.codeWith yL_pass cL_pass 3 (some .int) [(0, 5, 6, 20), (0, 5, 11, 22)]) (rmv 9 2 12) [.ref (ad 0), .int n] ad τ 2 12 (fun v ad' τ' => v = some (.int (rr (kPass C n) ((qPass C n).2))) ∧ ((kPass C n = 0 ∧ (ad' = ad) ∧ HH g ad' (Lv) ((qPass C n).1) ρ τ') ∨ (¬ kPass C n = 0 ∧ ad' = ad ∧ τ' = τ))) (NoX) := by
  refine Sp.ofH 1 [some (.ref (ad 0)), some (.int n), none] (by decide +kernel) (Nat.le_of_ble_eq_true rfl) rfl ?_
  intro p e s m args below meth c A cx htab hr
  have hO := (H_lines hH hI).1
  refine a_aload_n cx dL_pass_0 rfl rfl ?_
  refine a_iload_n cx dL_pass_1 rfl rfl ?_
  refine a_callV cx 1 (sp_X3_pass hH hI) hO rfl ml_L_72 im_X3_pass se_X3_pass ini_X3 cd_X3_pass rfl rfl (by decide +kernel) rfl rfl ⟨(Nat.le_of_ble_eq_true rfl), (Nat.le_of_ble_eq_true rfl)⟩ (Nat.le_of_ble_eq_true rfl) dL_pass_2 ⟨(Nat.le_of_ble_eq_true rfl), (Nat.le_of_ble_eq_true rfl)⟩ (fun E9 ad9 τ9 hX => ?_) (fun v9 ad9 τ9 hP => ?_)
  · obtain ⟨hk, h2, h3⟩ := hX
    replace h2 := h2.symm
    subst h2
    replace h3 := h3.symm
    subst h3
    rcases hk with ⟨hk, rfl⟩ | ⟨hk, rfl⟩
    · refine a_catch cx [] ⟨0, 5, 6, 20⟩ [⟨0, 5, 11, 22⟩] (htab.trans rfl) (fun z hz => by cases hz) (by decide) (by decide) cl_L_20 ca_IllegalArgumentException_IllegalArgumentException (fun q => ?_)
      refine a_astore_n2 cx dL_pass_6 rfl (by decide) (by intro w h; first | (cases h; rfl) | (cases h; assumption) | (cases h; done)) ?_
      refine a_sipush cx (v := -1001) dL_pass_7 (by decide) ?_
      exact a_iret cx hr dL_pass_10 (Nat.le_of_ble_eq_true rfl) (Nat.le_of_ble_eq_true rfl) ⟨rr_n hk (by decide) (by decide), Or.inr ⟨by rw [hk]; decide, rfl, rfl⟩⟩
    · refine a_catch cx [⟨0, 5, 6, 20⟩] ⟨0, 5, 11, 22⟩ [] (htab.trans rfl) (fun z hz => by rcases List.mem_cons.mp hz with rfl | hz; exact Or.inr ⟨by decide, _, cl_L_20, by decide +kernel⟩; cases hz) (by decide) (by decide) cl_L_22 ca_IllegalStateException_IllegalStateException (fun q => ?_)
      refine a_astore_n2 cx dL_pass_11 rfl (by decide) (by intro w h; first | (cases h; rfl) | (cases h; assumption) | (cases h; done)) ?_
      refine a_sipush cx (v := -1002) dL_pass_12 (by decide) ?_
      exact a_iret cx hr dL_pass_15 (Nat.le_of_ble_eq_true rfl) (Nat.le_of_ble_eq_true rfl) ⟨rr_n hk (by decide) (by decide), Or.inr ⟨by rw [hk]; decide, rfl, rfl⟩⟩
  obtain ⟨hk, rfl, h2, hH9⟩ := hP
  replace h2 := h2.symm
  subst h2
  exact a_iret cx hr dL_pass_5 (Nat.le_of_ble_eq_true rfl) (Nat.le_of_ble_eq_true rfl) ⟨rr_0 hk, Or.inl ⟨hk, rfl, hH9⟩⟩

set_option maxHeartbeats 4000000 in
set_option maxRecDepth 100000 in
/-- wrapper: left -/
theorem sp_L_left {l : Launch} {g : GW} {ad : AD} {τ : RH} {Lv : Nat → Bool} {C : ME} {ρ : RH} {j : Int32} (hH : HH g ad Lv C ρ τ) (hI : cI Lv C) : Sp l g yL_left (.codeWith yL_left cL_left 3 (some .int) [(0, 5, 6, 27)]) (rmv 9 2 12) [.ref (ad 0), .int j] ad τ 2 12 (fun v ad' τ' => v = some (.int (rr (kProp C j) (cLeft C (tn j)))) ∧ ad' = ad ∧ τ' = τ) (NoX) := by
  refine Sp.ofH 1 [some (.ref (ad 0)), some (.int j), none] (by decide +kernel) (Nat.le_of_ble_eq_true rfl) rfl ?_
  intro p e s m args below meth c A cx htab hr
  have hO := (H_lines hH hI).1
  refine a_aload_n cx dL_left_0 rfl rfl ?_
  refine a_iload_n cx dL_left_1 rfl rfl ?_
  refine a_callV cx 1 (sp_X3_left hH hI) hO rfl ml_L_78 im_X3_left se_X3_left ini_X3 cd_X3_left rfl rfl (by decide +kernel) rfl rfl ⟨(Nat.le_of_ble_eq_true rfl), (Nat.le_of_ble_eq_true rfl)⟩ (Nat.le_of_ble_eq_true rfl) dL_left_2 ⟨(Nat.le_of_ble_eq_true rfl), (Nat.le_of_ble_eq_true rfl)⟩ (fun E9 ad9 τ9 hX => ?_) (fun v9 ad9 τ9 hP => ?_)
  · obtain ⟨hk, h2, h3⟩ := hX
    replace h2 := h2.symm
    subst h2
    replace h3 := h3.symm
    subst h3
    obtain ⟨hk, rfl⟩ := hk
    refine a_catch cx [] ⟨0, 5, 6, 27⟩ [] (htab.trans rfl) (fun z hz => by cases hz) (by decide) (by decide) cl_L_27 ca_IndexOutOfBoundsException_IndexOutOfBoundsException (fun q => ?_)
    refine a_astore_n2 cx dL_left_6 rfl (by decide) (by intro w h; first | (cases h; rfl) | (cases h; assumption) | (cases h; done)) ?_
    refine a_sipush cx (v := -1001) dL_left_7 (by decide) ?_
    exact a_iret cx hr dL_left_10 (Nat.le_of_ble_eq_true rfl) (Nat.le_of_ble_eq_true rfl) ⟨rr_n hk (by decide) (by decide), rfl, rfl⟩
  obtain ⟨hk, rfl, h2, h3⟩ := hP
  replace h2 := h2.symm
  subst h2
  replace h3 := h3.symm
  subst h3
  exact a_iret cx hr dL_left_5 (Nat.le_of_ble_eq_true rfl) (Nat.le_of_ble_eq_true rfl) ⟨rr_0 hk, rfl, rfl⟩

set_option maxHeartbeats 4000000 in
set_option maxRecDepth 100000 in
/-- wrapper: leftAnew -/
theorem sp_L_leftAnew {l : Launch} {g : GW} {ad : AD} {τ : RH} {Lv : Nat → Bool} {C : ME} {ρ : RH} {j : Int32} (hH : HH g ad Lv C ρ τ) (hI : cI Lv C) : Sp l g yL_leftAnew (.codeWith yL_leftAnew cL_leftAnew 3 (some .int) [(0, 5, 6, 27)]) (rmv 9 2 12) [.ref (ad 0), .int j] ad τ 2 12 (fun v ad' τ' => v = some (.int (rr (kProp C j) (cAnew C (tn j)))) ∧ ((kProp C j = 0 ∧ (ad' = ad) ∧ HH g ad' (Lv) (oK C (tn (C (40 + tn j) 1)) (cReplay C (tn (C (40 + tn j) 1)))) ρ τ') ∨ (¬ kProp C j = 0 ∧ ad' = ad ∧ τ' = τ))) (NoX) := by
  refine Sp.ofH 1 [some (.ref (ad 0)), some (.int j), none] (by decide +kernel) (Nat.le_of_ble_eq_true rfl) rfl ?_
  intro p e s m args below meth c A cx htab hr
  have hO := (H_lines hH hI).1
  refine a_aload_n cx dL_leftAnew_0 rfl rfl ?_
  refine a_iload_n cx dL_leftAnew_1 rfl rfl ?_
  refine a_callV cx 1 (sp_X3_leftAnew hH hI) hO rfl ml_L_81 im_X3_leftAnew se_X3_leftAnew ini_X3 cd_X3_leftAnew rfl rfl (by decide +kernel) rfl rfl ⟨(Nat.le_of_ble_eq_true rfl), (Nat.le_of_ble_eq_true rfl)⟩ (Nat.le_of_ble_eq_true rfl) dL_leftAnew_2 ⟨(Nat.le_of_ble_eq_true rfl), (Nat.le_of_ble_eq_true rfl)⟩ (fun E9 ad9 τ9 hX => ?_) (fun v9 ad9 τ9 hP => ?_)
  · obtain ⟨hk, h2, h3⟩ := hX
    replace h2 := h2.symm
    subst h2
    replace h3 := h3.symm
    subst h3
    obtain ⟨hk, rfl⟩ := hk
    refine a_catch cx [] ⟨0, 5, 6, 27⟩ [] (htab.trans rfl) (fun z hz => by cases hz) (by decide) (by decide) cl_L_27 ca_IndexOutOfBoundsException_IndexOutOfBoundsException (fun q => ?_)
    refine a_astore_n2 cx dL_leftAnew_6 rfl (by decide) (by intro w h; first | (cases h; rfl) | (cases h; assumption) | (cases h; done)) ?_
    refine a_sipush cx (v := -1001) dL_leftAnew_7 (by decide) ?_
    exact a_iret cx hr dL_leftAnew_10 (Nat.le_of_ble_eq_true rfl) (Nat.le_of_ble_eq_true rfl) ⟨rr_n hk (by decide) (by decide), Or.inr ⟨by rw [hk]; decide, rfl, rfl⟩⟩
  obtain ⟨hk, rfl, h2, hH9⟩ := hP
  replace h2 := h2.symm
  subst h2
  exact a_iret cx hr dL_leftAnew_5 (Nat.le_of_ble_eq_true rfl) (Nat.le_of_ble_eq_true rfl) ⟨rr_0 hk, Or.inl ⟨hk, rfl, hH9⟩⟩

set_option maxHeartbeats 4000000 in
set_option maxRecDepth 100000 in
/-- wrapper: nextAt -/
theorem sp_L_nextAt {l : Launch} {g : GW} {ad : AD} {τ : RH} {Lv : Nat → Bool} {C : ME} {ρ : RH} {j : Int32} (hH : HH g ad Lv C ρ τ) (hI : cI Lv C) : Sp l g yL_nextAt (.codeWith yL_nextAt cL_nextAt 3 (some .int) [(0, 5, 6, 27), (0, 5, 11, 54)]) (rmv 9 2 12) [.ref (ad 0), .int j] ad τ 2 12 (fun v ad' τ' => v = some (.int (rr (kNext C j) (cNext C (tn j)))) ∧ ad' = ad ∧ τ' = τ) (NoX) := by
  refine Sp.ofH 1 [some (.ref (ad 0)), some (.int j), none] (by decide +kernel) (Nat.le_of_ble_eq_true rfl) rfl ?_
  intro p e s m args below meth c A cx htab hr
  have hO := (H_lines hH hI).1
  refine a_aload_n cx dL_nextAt_0 rfl rfl ?_
  refine a_iload_n cx dL_nextAt_1 rfl rfl ?_
  refine a_callV cx 1 (sp_X3_nextAt hH hI) hO rfl ml_L_84 im_X3_nextAt se_X3_nextAt ini_X3 cd_X3_nextAt rfl rfl (by decide +kernel) rfl rfl ⟨(Nat.le_of_ble_eq_true rfl), (Nat.le_of_ble_eq_true rfl)⟩ (Nat.le_of_ble_eq_true rfl) dL_nextAt_2 ⟨(Nat.le_of_ble_eq_true rfl), (Nat.le_of_ble_eq_true rfl)⟩ (fun E9 ad9 τ9 hX => ?_) (fun v9 ad9 τ9 hP => ?_)
  · obtain ⟨hk, h2, h3⟩ := hX
    replace h2 := h2.symm
    subst h2
    replace h3 := h3.symm
    subst h3
    rcases hk with ⟨hk, rfl⟩ | ⟨hk, rfl⟩
    · refine a_catch cx [] ⟨0, 5, 6, 27⟩ [⟨0, 5, 11, 54⟩] (htab.trans rfl) (fun z hz => by cases hz) (by decide) (by decide) cl_L_27 ca_IndexOutOfBoundsException_IndexOutOfBoundsException (fun q => ?_)
      refine a_astore_n2 cx dL_nextAt_6 rfl (by decide) (by intro w h; first | (cases h; rfl) | (cases h; assumption) | (cases h; done)) ?_
      refine a_sipush cx (v := -1001) dL_nextAt_7 (by decide) ?_
      exact a_iret cx hr dL_nextAt_10 (Nat.le_of_ble_eq_true rfl) (Nat.le_of_ble_eq_true rfl) ⟨rr_n hk (by decide) (by decide), rfl, rfl⟩
    · refine a_catch cx [⟨0, 5, 6, 27⟩] ⟨0, 5, 11, 54⟩ [] (htab.trans rfl) (fun z hz => by rcases List.mem_cons.mp hz with rfl | hz; exact Or.inr ⟨by decide, _, cl_L_27, by decide +kernel⟩; cases hz) (by decide) (by decide) cl_L_54 ca_NoSuchElementException_NoSuchElementException (fun q => ?_)
      refine a_astore_n2 cx dL_nextAt_11 rfl (by decide) (by intro w h; first | (cases h; rfl) | (cases h; assumption) | (cases h; done)) ?_
      refine a_sipush cx (v := -1002) dL_nextAt_12 (by decide) ?_
      exact a_iret cx hr dL_nextAt_15 (Nat.le_of_ble_eq_true rfl) (Nat.le_of_ble_eq_true rfl) ⟨rr_n hk (by decide) (by decide), rfl, rfl⟩
  obtain ⟨hk, rfl, h2, h3⟩ := hP
  replace h2 := h2.symm
  subst h2
  replace h3 := h3.symm
  subst h3
  exact a_iret cx hr dL_nextAt_5 (Nat.le_of_ble_eq_true rfl) (Nat.le_of_ble_eq_true rfl) ⟨rr_0 hk, rfl, rfl⟩

set_option maxHeartbeats 4000000 in
set_option maxRecDepth 100000 in
/-- wrapper: count -/
theorem sp_L_count {l : Launch} {g : GW} {ad : AD} {τ : RH} {Lv : Nat → Bool} {C : ME} {ρ : RH} {j : Int32} {x : Int32} (hH : HH g ad Lv C ρ τ) (hI : cI Lv C) : Sp l g yL_count (.codeWith yL_count cL_count 4 (some .int) [(0, 6, 7, 27), (0, 6, 12, 20)]) (rmv 9 2 12) [.ref (ad 0), .int j, .int x] ad τ 2 12 (fun v ad' τ' => v = some (.int (rr (kCount C j x) (cCount C (tn j) x))) ∧ ad' = ad ∧ τ' = τ) (NoX) := by
  refine Sp.ofH 1 [some (.ref (ad 0)), some (.int j), some (.int x), none] (by decide +kernel) (Nat.le_of_ble_eq_true rfl) rfl ?_
  intro p e s m args below meth c A cx htab hr
  have hO := (H_lines hH hI).1
  refine a_aload_n cx dL_count_0 rfl rfl ?_
  refine a_iload_n cx dL_count_1 rfl rfl ?_
  refine a_iload_n cx dL_count_2 rfl rfl ?_
  refine a_callV cx 2 (sp_X3_count hH hI) hO rfl ml_L_87 im_X3_count se_X3_count ini_X3 cd_X3_count rfl rfl (by decide +kernel) rfl rfl ⟨(Nat.le_of_ble_eq_true rfl), (Nat.le_of_ble_eq_true rfl)⟩ (Nat.le_of_ble_eq_true rfl) dL_count_3 ⟨(Nat.le_of_ble_eq_true rfl), (Nat.le_of_ble_eq_true rfl)⟩ (fun E9 ad9 τ9 hX => ?_) (fun v9 ad9 τ9 hP => ?_)
  · obtain ⟨hk, h2, h3⟩ := hX
    replace h2 := h2.symm
    subst h2
    replace h3 := h3.symm
    subst h3
    rcases hk with ⟨hk, rfl⟩ | ⟨hk, rfl⟩
    · refine a_catch cx [] ⟨0, 6, 7, 27⟩ [⟨0, 6, 12, 20⟩] (htab.trans rfl) (fun z hz => by cases hz) (by decide) (by decide) cl_L_27 ca_IndexOutOfBoundsException_IndexOutOfBoundsException (fun q => ?_)
      refine a_astore_n3 cx dL_count_7 rfl (by decide) (by intro w h; first | (cases h; rfl) | (cases h; assumption) | (cases h; done)) ?_
      refine a_sipush cx (v := -1001) dL_count_8 (by decide) ?_
      exact a_iret cx hr dL_count_11 (Nat.le_of_ble_eq_true rfl) (Nat.le_of_ble_eq_true rfl) ⟨rr_n hk (by decide) (by decide), rfl, rfl⟩
    · refine a_catch cx [⟨0, 6, 7, 27⟩] ⟨0, 6, 12, 20⟩ [] (htab.trans rfl) (fun z hz => by rcases List.mem_cons.mp hz with rfl | hz; exact Or.inr ⟨by decide, _, cl_L_27, by decide +kernel⟩; cases hz) (by decide) (by decide) cl_L_20 ca_IllegalArgumentException_IllegalArgumentException (fun q => ?_)
      refine a_astore_n3 cx dL_count_12 rfl (by decide) (by intro w h; first | (cases h; rfl) | (cases h; assumption) | (cases h; done)) ?_
      refine a_sipush cx (v := -1002) dL_count_13 (by decide) ?_
      exact a_iret cx hr dL_count_16 (Nat.le_of_ble_eq_true rfl) (Nat.le_of_ble_eq_true rfl) ⟨rr_n hk (by decide) (by decide), rfl, rfl⟩
  obtain ⟨hk, rfl, h2, h3⟩ := hP
  replace h2 := h2.symm
  subst h2
  replace h3 := h3.symm
  subst h3
  exact a_iret cx hr dL_count_6 (Nat.le_of_ble_eq_true rfl) (Nat.le_of_ble_eq_true rfl) ⟨rr_0 hk, rfl, rfl⟩

