theorem HH.rho {g : GW} {ad : AD} {Lv : Nat → Bool} {C : ME} {ρ τ : RH} (h : HH g ad Lv C ρ τ) {r : Nat} (hr : 84 ≤ r) (e : Option va_E) : HH g ad Lv C (va_up ρ r e) (va_up τ r e) := by
  refine ⟨fun r' h' => ?_, fun r' h' => ?_⟩
  · rw [va_up_ne _ _ (by omega)]; exact h.1 r' h'
  · by_cases hx : r' = r
    · subst hx; rw [va_up_self, va_up_self]
    · rw [va_up_ne _ _ hx, va_up_ne _ _ hx]; exact h.2 r' h'
abbrev lgO (g : GW) (f : Nat → Int64) : va_E := .inl (g.2.1 4, 1, .inr (.inl f))
abbrev dbO (g : GW) (f : Nat → UInt64) : va_E := .inl (g.2.1 5, 1, .inr (.inr (.inr (.inl f))))
def rL (g : GW) (ρ : RH) (f : Nat → Int64) (x : Int64) : RH := va_up ρ 90 (some (lgO g (va_up f 0 x)))
def rD (g : GW) (ρ : RH) (f : Nat → UInt64) (x : UInt64) : RH := va_up ρ 91 (some (dbO g (va_up f 0 x)))
set_option maxHeartbeats 4000000 in
set_option maxRecDepth 100000 in
/-- wrapper: addBeamline -/
theorem sp_L_addBeamline {l : Launch} {g : GW} {ad : AD} {τ : RH} {Lv : Nat → Bool} {C : ME} {ρ : RH} {f : Nat → Int64} {s9 : Int32} {m9 : Int32} (hH : HH g ad Lv C ρ τ) (hI : cI Lv C) (hρ : ρ 90 = some (lgO g f)) (hJ : lJ Lv) : Sp l g yL_addBeamline (.codeWith yL_addBeamline cL_addBeamline 5 (some .int) [(0, 10, 13, 13), (0, 10, 17, 15)]) (rmv 9 8 252) [.ref (ad 0), .int s9, .int m9, .ref (ad 90)] ad τ 8 252 (fun v ad' τ' => v = some (.int (kBeam C s9 m9)) ∧ ((kBeam C s9 m9 = 0 ∧ (∀ y, ¬ (10 + 10 * cNb C ≤ y ∧ y < 18 + 10 * cNb C) → y ≠ 2 → ad' y = ad y) ∧ HH g ad' (lBeam Lv C) (oBeam C s9 m9) (rL g ρ f (nI (cNb C)).toInt64) τ') ∨ (¬ kBeam C s9 m9 = 0 ∧ ad' = ad ∧ HH g ad Lv C ρ τ'))) (NoX) := by
  refine Sp.ofH 1 [some (.ref (ad 0)), some (.int s9), some (.int m9), some (.ref (ad 90)), none] (by decide +kernel) (Nat.le_of_ble_eq_true rfl) rfl ?_
  intro p e s m args below meth c A cx htab hr
  have hO := (H_lines hH hI).1
  refine a_aload_n cx dL_addBeamline_0 rfl rfl ?_
  refine a_iconst cx (v := 0) dL_addBeamline_1 (by decide) ?_
  refine a_aload_n cx dL_addBeamline_2 rfl rfl ?_
  refine a_iload_n cx dL_addBeamline_3 rfl rfl ?_
  refine a_iload_n cx dL_addBeamline_4 rfl rfl ?_
  refine a_callV cx 2 (sp_X3_addBeamline hH hI hJ) hO rfl ml_L_7 im_X3_addBeamline se_X3_addBeamline ini_X3 cd_X3_addBeamline rfl rfl (by decide +kernel) rfl rfl ⟨(Nat.le_of_ble_eq_true rfl), (Nat.le_of_ble_eq_true rfl)⟩ (Nat.le_of_ble_eq_true rfl) dL_addBeamline_5 ⟨(Nat.le_of_ble_eq_true rfl), (Nat.le_of_ble_eq_true rfl)⟩ (fun E9 ad9 τ9 hX => ?_) (fun v9 ad9 τ9 hP => ?_)
  · obtain ⟨hk, h2, h3⟩ := hX
    replace h2 := h2.symm
    subst h2
    replace h3 := h3.symm
    subst h3
    rcases hk with ⟨hk, rfl⟩ | ⟨hk, rfl⟩
    · refine a_catch cx [] ⟨0, 10, 13, 13⟩ [⟨0, 10, 17, 15⟩] (htab.trans rfl) (fun z hz => by cases hz) (by decide) (by decide) cl_L_13 ca_IllegalArgumentException_IllegalArgumentException (fun q => ?_)
      refine a_astore4 cx dL_addBeamline_13 (by decide) (by intro w h; first | (cases h; rfl) | (cases h; assumption) | (cases h; done)) ?_
      refine a_iconst cx (v := 1) dL_addBeamline_15 (by decide) ?_
      exact a_iret cx hr dL_addBeamline_16 (Nat.le_of_ble_eq_true rfl) (Nat.le_of_ble_eq_true rfl) ⟨vI hk.symm, Or.inr ⟨by rw [hk]; decide, rfl, hH⟩⟩
    · refine a_catch cx [⟨0, 10, 13, 13⟩] ⟨0, 10, 17, 15⟩ [] (htab.trans rfl) (fun z hz => by rcases List.mem_cons.mp hz with rfl | hz; exact Or.inr ⟨by decide, _, cl_L_13, by decide +kernel⟩; cases hz) (by decide) (by decide) cl_L_15 ca_IllegalStateException_IllegalStateException (fun q => ?_)
      refine a_astore4 cx dL_addBeamline_17 (by decide) (by intro w h; first | (cases h; rfl) | (cases h; assumption) | (cases h; done)) ?_
      refine a_iconst cx (v := 2) dL_addBeamline_19 (by decide) ?_
      exact a_iret cx hr dL_addBeamline_20 (Nat.le_of_ble_eq_true rfl) (Nat.le_of_ble_eq_true rfl) ⟨vI hk.symm, Or.inr ⟨by rw [hk]; decide, rfl, hH⟩⟩
  obtain ⟨hk, rfl, had, hH9⟩ := hP
  rw [← had 90 (by have := hI.1; omega) (by decide)]
  have h9 := (hH9.2 90 (by decide)).trans hρ
  refine a_i2l cx dL_addBeamline_8 ?_
  refine a_lst cx (0) h9 (rfl) ((by decide)) (by decide)  dL_addBeamline_9 ?_
  refine a_goto cx (tgt := 21) dL_addBeamline_10 (by decide) ?_
  refine a_iconst cx (v := 0) dL_addBeamline_21 (by decide) ?_
  exact a_iret cx hr dL_addBeamline_22 (Nat.le_of_ble_eq_true rfl) (Nat.le_of_ble_eq_true rfl) ⟨vI hk.symm, Or.inl ⟨hk, had, hH9.rho (r := 90) (by decide) _⟩⟩

set_option maxHeartbeats 4000000 in
set_option maxRecDepth 100000 in
/-- wrapper: setRate -/
theorem sp_L_setRate {l : Launch} {g : GW} {ad : AD} {τ : RH} {Lv : Nat → Bool} {C : ME} {ρ : RH} {f : Nat → Int64} {b : Int32} {u : Int32} (hH : HH g ad Lv C ρ τ) (hI : cI Lv C) (hρ : ρ 90 = some (lgO g f)) : Sp l g yL_setRate (.codeWith yL_setRate cL_setRate 5 (some .int) [(0, 10, 13, 20), (0, 10, 17, 13)]) (rmv 9 2 12) [.ref (ad 0), .int b, .int u, .ref (ad 90)] ad τ 2 12 (fun v ad' τ' => v = some (.int (kSetRate C b u)) ∧ ((kSetRate C b u = 0 ∧ (ad' = ad) ∧ HH g ad' (Lv) (up2 C (10 + 10 * tn b) 7 u) (rL g ρ f (C (10 + 10 * tn b) 7).toInt64) τ') ∨ (¬ kSetRate C b u = 0 ∧ ad' = ad ∧ HH g ad Lv C ρ τ'))) (NoX) := by
  refine Sp.ofH 1 [some (.ref (ad 0)), some (.int b), some (.int u), some (.ref (ad 90)), none] (by decide +kernel) (Nat.le_of_ble_eq_true rfl) rfl ?_
  intro p e s m args below meth c A cx htab hr
  have hO := (H_lines hH hI).1
  refine a_aload_n cx dL_setRate_0 rfl rfl ?_
  refine a_iconst cx (v := 0) dL_setRate_1 (by decide) ?_
  refine a_aload_n cx dL_setRate_2 rfl rfl ?_
  refine a_iload_n cx dL_setRate_3 rfl rfl ?_
  refine a_iload_n cx dL_setRate_4 rfl rfl ?_
  refine a_callV cx 2 (sp_X3_setRate hH hI) hO rfl ml_L_17 im_X3_setRate se_X3_setRate ini_X3 cd_X3_setRate rfl rfl (by decide +kernel) rfl rfl ⟨(Nat.le_of_ble_eq_true rfl), (Nat.le_of_ble_eq_true rfl)⟩ (Nat.le_of_ble_eq_true rfl) dL_setRate_5 ⟨(Nat.le_of_ble_eq_true rfl), (Nat.le_of_ble_eq_true rfl)⟩ (fun E9 ad9 τ9 hX => ?_) (fun v9 ad9 τ9 hP => ?_)
  · obtain ⟨hk, h2, h3⟩ := hX
    replace h2 := h2.symm
    subst h2
    replace h3 := h3.symm
    subst h3
    rcases hk with ⟨hk, rfl⟩ | ⟨hk, rfl⟩
    · refine a_catch cx [] ⟨0, 10, 13, 20⟩ [⟨0, 10, 17, 13⟩] (htab.trans rfl) (fun z hz => by cases hz) (by decide) (by decide) cl_L_20 ca_IndexOutOfBoundsException_IndexOutOfBoundsException (fun q => ?_)
      refine a_astore4 cx dL_setRate_13 (by decide) (by intro w h; first | (cases h; rfl) | (cases h; assumption) | (cases h; done)) ?_
      refine a_iconst cx (v := 1) dL_setRate_15 (by decide) ?_
      exact a_iret cx hr dL_setRate_16 (Nat.le_of_ble_eq_true rfl) (Nat.le_of_ble_eq_true rfl) ⟨vI hk.symm, Or.inr ⟨by rw [hk]; decide, rfl, hH⟩⟩
    · refine a_catch cx [⟨0, 10, 13, 20⟩] ⟨0, 10, 17, 13⟩ [] (htab.trans rfl) (fun z hz => by rcases List.mem_cons.mp hz with rfl | hz; exact Or.inr ⟨by decide, _, cl_L_20, by decide +kernel⟩; cases hz) (by decide) (by decide) cl_L_13 ca_IllegalArgumentException_IllegalArgumentException (fun q => ?_)
      refine a_astore4 cx dL_setRate_17 (by decide) (by intro w h; first | (cases h; rfl) | (cases h; assumption) | (cases h; done)) ?_
      refine a_iconst cx (v := 2) dL_setRate_19 (by decide) ?_
      exact a_iret cx hr dL_setRate_20 (Nat.le_of_ble_eq_true rfl) (Nat.le_of_ble_eq_true rfl) ⟨vI hk.symm, Or.inr ⟨by rw [hk]; decide, rfl, hH⟩⟩
  obtain ⟨hk, rfl, h2, hH9⟩ := hP
  replace h2 := h2.symm
  subst h2
  have h9 := (hH9.2 90 (by decide)).trans hρ
  refine a_i2l cx dL_setRate_8 ?_
  refine a_lst cx (0) h9 (rfl) ((by decide)) (by decide)  dL_setRate_9 ?_
  refine a_goto cx (tgt := 21) dL_setRate_10 (by decide) ?_
  refine a_iconst cx (v := 0) dL_setRate_21 (by decide) ?_
  exact a_iret cx hr dL_setRate_22 (Nat.le_of_ble_eq_true rfl) (Nat.le_of_ble_eq_true rfl) ⟨vI hk.symm, Or.inl ⟨hk, rfl, hH9.rho (r := 90) (by decide) _⟩⟩

set_option maxHeartbeats 4000000 in
set_option maxRecDepth 100000 in
/-- wrapper: propose -/
theorem sp_L_propose {l : Launch} {g : GW} {ad : AD} {τ : RH} {Lv : Nat → Bool} {C : ME} {ρ : RH} {f : Nat → Int64} {b : Int32} {us : Int32} {sc : Int32} {w : Int32} {d9 : Int32} (hH : HH g ad Lv C ρ τ) (hI : cI Lv C) (hρ : ρ 90 = some (lgO g f)) (hJ : lJ Lv) : Sp l g yL_propose (.codeWith yL_propose cL_propose 8 (some .int) [(0, 16, 19, 20), (0, 16, 23, 13), (0, 16, 27, 15)]) (rmv 9 4 48) [.ref (ad 0), .int b, .int us, .int sc, .int w, .int d9, .ref (ad 90)] ad τ 4 48 (fun v ad' τ' => v = some (.int (kPrp C b us sc w d9)) ∧ ((kPrp C b us sc w d9 = 0 ∧ (∀ y, y ≠ 40 + cNp C → y ≠ 4 → ad' y = ad y) ∧ HH g ad' (lPrp Lv C) (oPrp C b us sc w d9) (rL g ρ f (nI (cNp C)).toInt64) τ') ∨ (¬ kPrp C b us sc w d9 = 0 ∧ ad' = ad ∧ HH g ad Lv C ρ τ'))) (NoX) := by
  refine Sp.ofH 1 [some (.ref (ad 0)), some (.int b), some (.int us), some (.int sc), some (.int w), some (.int d9), some (.ref (ad 90)), none] (by decide +kernel) (Nat.le_of_ble_eq_true rfl) rfl ?_
  intro p e s m args below meth c A cx htab hr
  have hO := (H_lines hH hI).1
  refine a_aload cx dL_propose_0 rfl ?_
  refine a_iconst cx (v := 0) dL_propose_2 (by decide) ?_
  refine a_aload_n cx dL_propose_3 rfl rfl ?_
  refine a_iload_n cx dL_propose_4 rfl rfl ?_
  refine a_iload_n cx dL_propose_5 rfl rfl ?_
  refine a_iload_n cx dL_propose_6 rfl rfl ?_
  refine a_iload cx dL_propose_7 rfl ?_
  refine a_iload cx dL_propose_9 rfl ?_
  refine a_callV cx 5 (sp_X3_propose hH hI hJ) hO rfl ml_L_22 im_X3_propose se_X3_propose ini_X3 cd_X3_propose rfl rfl (by decide +kernel) rfl rfl ⟨(Nat.le_of_ble_eq_true rfl), (Nat.le_of_ble_eq_true rfl)⟩ (Nat.le_of_ble_eq_true rfl) dL_propose_11 ⟨(Nat.le_of_ble_eq_true rfl), (Nat.le_of_ble_eq_true rfl)⟩ (fun E9 ad9 τ9 hX => ?_) (fun v9 ad9 τ9 hP => ?_)
  · obtain ⟨hk, h2, h3⟩ := hX
    replace h2 := h2.symm
    subst h2
    replace h3 := h3.symm
    subst h3
    rcases hk with ⟨hk, rfl⟩ | ⟨hk, rfl⟩ | ⟨hk, rfl⟩
    · refine a_catch cx [] ⟨0, 16, 19, 20⟩ [⟨0, 16, 23, 13⟩, ⟨0, 16, 27, 15⟩] (htab.trans rfl) (fun z hz => by cases hz) (by decide) (by decide) cl_L_20 ca_IndexOutOfBoundsException_IndexOutOfBoundsException (fun q => ?_)
      refine a_astore7 cx dL_propose_19 (by decide) (by intro w h; first | (cases h; rfl) | (cases h; assumption) | (cases h; done)) ?_
      refine a_iconst cx (v := 1) dL_propose_21 (by decide) ?_
      exact a_iret cx hr dL_propose_22 (Nat.le_of_ble_eq_true rfl) (Nat.le_of_ble_eq_true rfl) ⟨vI hk.symm, Or.inr ⟨by rw [hk]; decide, rfl, hH⟩⟩
    · refine a_catch cx [⟨0, 16, 19, 20⟩] ⟨0, 16, 23, 13⟩ [⟨0, 16, 27, 15⟩] (htab.trans rfl) (fun z hz => by rcases List.mem_cons.mp hz with rfl | hz; exact Or.inr ⟨by decide, _, cl_L_20, by decide +kernel⟩; cases hz) (by decide) (by decide) cl_L_13 ca_IllegalArgumentException_IllegalArgumentException (fun q => ?_)
      refine a_astore7 cx dL_propose_23 (by decide) (by intro w h; first | (cases h; rfl) | (cases h; assumption) | (cases h; done)) ?_
      refine a_iconst cx (v := 2) dL_propose_25 (by decide) ?_
      exact a_iret cx hr dL_propose_26 (Nat.le_of_ble_eq_true rfl) (Nat.le_of_ble_eq_true rfl) ⟨vI hk.symm, Or.inr ⟨by rw [hk]; decide, rfl, hH⟩⟩
    · refine a_catch cx [⟨0, 16, 19, 20⟩, ⟨0, 16, 23, 13⟩] ⟨0, 16, 27, 15⟩ [] (htab.trans rfl) (fun z hz => by rcases List.mem_cons.mp hz with rfl | hz; exact Or.inr ⟨by decide, _, cl_L_20, by decide +kernel⟩; rcases List.mem_cons.mp hz with rfl | hz; exact Or.inr ⟨by decide, _, cl_L_13, by decide +kernel⟩; cases hz) (by decide) (by decide) cl_L_15 ca_IllegalStateException_IllegalStateException (fun q => ?_)
      refine a_astore7 cx dL_propose_27 (by decide) (by intro w h; first | (cases h; rfl) | (cases h; assumption) | (cases h; done)) ?_
      refine a_iconst cx (v := 3) dL_propose_29 (by decide) ?_
      exact a_iret cx hr dL_propose_30 (Nat.le_of_ble_eq_true rfl) (Nat.le_of_ble_eq_true rfl) ⟨vI hk.symm, Or.inr ⟨by rw [hk]; decide, rfl, hH⟩⟩
  obtain ⟨hk, rfl, had, hH9⟩ := hP
  rw [← had 90 (by have := hI.2.1; omega) (by decide)]
  have h9 := (hH9.2 90 (by decide)).trans hρ
  refine a_i2l cx dL_propose_14 ?_
  refine a_lst cx (0) h9 (rfl) ((by decide)) (by decide)  dL_propose_15 ?_
  refine a_goto cx (tgt := 31) dL_propose_16 (by decide) ?_
  refine a_iconst cx (v := 0) dL_propose_31 (by decide) ?_
  exact a_iret cx hr dL_propose_32 (Nat.le_of_ble_eq_true rfl) (Nat.le_of_ble_eq_true rfl) ⟨vI hk.symm, Or.inl ⟨hk, had, hH9.rho (r := 90) (by decide) _⟩⟩

theorem kM0 {C : ME} {b : Int32} (h : kMeet C b = 0) : okL C b := by
  unfold kMeet at h
  by_cases h1 : okL C b
  · exact h1
  · rw [if_neg h1] at h; exact absurd h (by decide)
set_option maxHeartbeats 4000000 in
set_option maxRecDepth 100000 in
/-- wrapper: meet -/
theorem sp_L_meet {l : Launch} {g : GW} {ad : AD} {τ : RH} {Lv : Nat → Bool} {C : ME} {ρ : RH} {f : Nat → Int64} {b : Int32} (hH : HH g ad Lv C ρ τ) (hI : cI Lv C) (hρ : ρ 90 = some (lgO g f)) : Sp l g yL_meet (.codeWith yL_meet cL_meet 4 (some .int) [(0, 9, 12, 20), (0, 9, 15, 15)]) (rmv 9 810 8092) [.ref (ad 0), .int b, .ref (ad 90)] ad τ 810 8092 (fun v ad' τ' => v = some (.int (kMeet C b)) ∧ ((kMeet C b = 0 ∧ (∀ y, y ≠ 12 + 10 * tn b → ad' y = ad y) ∧ HH g ad' ((qMeet Lv C (tn b)).1) ((qMeet Lv C (tn b)).2) (rL g ρ f (nI (cNq (qMeet Lv C (tn b)).2 (tn b))).toInt64) τ') ∨ (¬ kMeet C b = 0 ∧ ad' = ad ∧ HH g ad Lv C ρ τ'))) (NoX) := by
  refine Sp.ofH 1 [some (.ref (ad 0)), some (.int b), some (.ref (ad 90)), none] (by decide +kernel) (Nat.le_of_ble_eq_true rfl) rfl ?_
  intro p e s m args below meth c A cx htab hr
  have hO := (H_lines hH hI).1
  refine a_aload_n cx dL_meet_0 rfl rfl ?_
  refine a_iconst cx (v := 0) dL_meet_1 (by decide) ?_
  refine a_aload_n cx dL_meet_2 rfl rfl ?_
  refine a_iload_n cx dL_meet_3 rfl rfl ?_
  refine a_callV cx 1 (sp_X3_meet hH hI) hO rfl ml_L_26 im_X3_meet se_X3_meet ini_X3 cd_X3_meet rfl rfl (by decide +kernel) rfl rfl ⟨(Nat.le_of_ble_eq_true rfl), (Nat.le_of_ble_eq_true rfl)⟩ (Nat.le_of_ble_eq_true rfl) dL_meet_4 ⟨(Nat.le_of_ble_eq_true rfl), (Nat.le_of_ble_eq_true rfl)⟩ (fun E9 ad9 τ9 hX => ?_) (fun v9 ad9 τ9 hP => ?_)
  · obtain ⟨hk, h2, h3⟩ := hX
    replace h2 := h2.symm
    subst h2
    replace h3 := h3.symm
    subst h3
    rcases hk with ⟨hk, rfl⟩ | ⟨hk, rfl⟩
    · refine a_catch cx [] ⟨0, 9, 12, 20⟩ [⟨0, 9, 15, 15⟩] (htab.trans rfl) (fun z hz => by cases hz) (by decide) (by decide) cl_L_20 ca_IndexOutOfBoundsException_IndexOutOfBoundsException (fun q => ?_)
      refine a_astore_n3 cx dL_meet_12 rfl (by decide) (by intro w h; first | (cases h; rfl) | (cases h; assumption) | (cases h; done)) ?_
      refine a_iconst cx (v := 1) dL_meet_13 (by decide) ?_
      exact a_iret cx hr dL_meet_14 (Nat.le_of_ble_eq_true rfl) (Nat.le_of_ble_eq_true rfl) ⟨vI hk.symm, Or.inr ⟨by rw [hk]; decide, rfl, hH⟩⟩
    · refine a_catch cx [⟨0, 9, 12, 20⟩] ⟨0, 9, 15, 15⟩ [] (htab.trans rfl) (fun z hz => by rcases List.mem_cons.mp hz with rfl | hz; exact Or.inr ⟨by decide, _, cl_L_20, by decide +kernel⟩; cases hz) (by decide) (by decide) cl_L_15 ca_IllegalStateException_IllegalStateException (fun q => ?_)
      refine a_astore_n3 cx dL_meet_15 rfl (by decide) (by intro w h; first | (cases h; rfl) | (cases h; assumption) | (cases h; done)) ?_
      refine a_iconst cx (v := 2) dL_meet_16 (by decide) ?_
      exact a_iret cx hr dL_meet_17 (Nat.le_of_ble_eq_true rfl) (Nat.le_of_ble_eq_true rfl) ⟨vI hk.symm, Or.inr ⟨by rw [hk]; decide, rfl, hH⟩⟩
  obtain ⟨hk, rfl, had, hH9⟩ := hP
  rw [← had 90 (fun q => by have h7 := kM0 hk; have := (okL_ix hI h7).2; have := hI.1; omega)]
  have h9 := (hH9.2 90 (by decide)).trans hρ
  refine a_i2l cx dL_meet_7 ?_
  refine a_lst cx (0) h9 (rfl) ((by decide)) (by decide)  dL_meet_8 ?_
  refine a_goto cx (tgt := 18) dL_meet_9 (by decide) ?_
  refine a_iconst cx (v := 0) dL_meet_18 (by decide) ?_
  exact a_iret cx hr dL_meet_19 (Nat.le_of_ble_eq_true rfl) (Nat.le_of_ble_eq_true rfl) ⟨vI hk.symm, Or.inl ⟨hk, had, hH9.rho (r := 90) (by decide) _⟩⟩

set_option maxHeartbeats 4000000 in
set_option maxRecDepth 100000 in
/-- wrapper: reserve -/
theorem sp_L_reserve {l : Launch} {g : GW} {ad : AD} {τ : RH} {Lv : Nat → Bool} {C : ME} {ρ : RH} {f : Nat → Int64} {b : Int32} (hH : HH g ad Lv C ρ τ) (hI : cI Lv C) (hρ : ρ 90 = some (lgO g f)) : Sp l g yL_reserve (.codeWith yL_reserve cL_reserve 4 (some .int) [(0, 9, 12, 20), (0, 9, 15, 15)]) (rmv 9 2 12) [.ref (ad 0), .int b, .ref (ad 90)] ad τ 2 12 (fun v ad' τ' => v = some (.int (kReserve C b)) ∧ ((kReserve C b = 0 ∧ (ad' = ad) ∧ HH g ad' (Lv) (C) (rL g ρ f (C (13 + 10 * tn b) 2).toInt64) τ') ∨ (¬ kReserve C b = 0 ∧ ad' = ad ∧ HH g ad Lv C ρ τ'))) (NoX) := by
  refine Sp.ofH 1 [some (.ref (ad 0)), some (.int b), some (.ref (ad 90)), none] (by decide +kernel) (Nat.le_of_ble_eq_true rfl) rfl ?_
  intro p e s m args below meth c A cx htab hr
  have hO := (H_lines hH hI).1
  refine a_aload_n cx dL_reserve_0 rfl rfl ?_
  refine a_iconst cx (v := 0) dL_reserve_1 (by decide) ?_
  refine a_aload_n cx dL_reserve_2 rfl rfl ?_
  refine a_iload_n cx dL_reserve_3 rfl rfl ?_
  refine a_callV cx 1 (sp_X3_reserve hH hI) hO rfl ml_L_30 im_X3_reserve se_X3_reserve ini_X3 cd_X3_reserve rfl rfl (by decide +kernel) rfl rfl ⟨(Nat.le_of_ble_eq_true rfl), (Nat.le_of_ble_eq_true rfl)⟩ (Nat.le_of_ble_eq_true rfl) dL_reserve_4 ⟨(Nat.le_of_ble_eq_true rfl), (Nat.le_of_ble_eq_true rfl)⟩ (fun E9 ad9 τ9 hX => ?_) (fun v9 ad9 τ9 hP => ?_)
  · obtain ⟨hk, h2, h3⟩ := hX
    replace h2 := h2.symm
    subst h2
    replace h3 := h3.symm
    subst h3
    rcases hk with ⟨hk, rfl⟩ | ⟨hk, rfl⟩
    · refine a_catch cx [] ⟨0, 9, 12, 20⟩ [⟨0, 9, 15, 15⟩] (htab.trans rfl) (fun z hz => by cases hz) (by decide) (by decide) cl_L_20 ca_IndexOutOfBoundsException_IndexOutOfBoundsException (fun q => ?_)
      refine a_astore_n3 cx dL_reserve_12 rfl (by decide) (by intro w h; first | (cases h; rfl) | (cases h; assumption) | (cases h; done)) ?_
      refine a_iconst cx (v := 1) dL_reserve_13 (by decide) ?_
      exact a_iret cx hr dL_reserve_14 (Nat.le_of_ble_eq_true rfl) (Nat.le_of_ble_eq_true rfl) ⟨vI hk.symm, Or.inr ⟨by rw [hk]; decide, rfl, hH⟩⟩
    · refine a_catch cx [⟨0, 9, 12, 20⟩] ⟨0, 9, 15, 15⟩ [] (htab.trans rfl) (fun z hz => by rcases List.mem_cons.mp hz with rfl | hz; exact Or.inr ⟨by decide, _, cl_L_20, by decide +kernel⟩; cases hz) (by decide) (by decide) cl_L_15 ca_IllegalStateException_IllegalStateException (fun q => ?_)
      refine a_astore_n3 cx dL_reserve_15 rfl (by decide) (by intro w h; first | (cases h; rfl) | (cases h; assumption) | (cases h; done)) ?_
      refine a_iconst cx (v := 2) dL_reserve_16 (by decide) ?_
      exact a_iret cx hr dL_reserve_17 (Nat.le_of_ble_eq_true rfl) (Nat.le_of_ble_eq_true rfl) ⟨vI hk.symm, Or.inr ⟨by rw [hk]; decide, rfl, hH⟩⟩
  obtain ⟨hk, rfl, h2, h3⟩ := hP
  replace h2 := h2.symm
  subst h2
  replace h3 := h3.symm
  subst h3
  have hH9 := hH
  have h9 := (hH9.2 90 (by decide)).trans hρ
  refine a_i2l cx dL_reserve_7 ?_
  refine a_lst cx (0) h9 (rfl) ((by decide)) (by decide)  dL_reserve_8 ?_
  refine a_goto cx (tgt := 18) dL_reserve_9 (by decide) ?_
  refine a_iconst cx (v := 0) dL_reserve_18 (by decide) ?_
  exact a_iret cx hr dL_reserve_19 (Nat.le_of_ble_eq_true rfl) (Nat.le_of_ble_eq_true rfl) ⟨vI hk.symm, Or.inl ⟨hk, rfl, hH9.rho (r := 90) (by decide) _⟩⟩

set_option maxHeartbeats 4000000 in
set_option maxRecDepth 100000 in
/-- wrapper: train -/
theorem sp_L_train {l : Launch} {g : GW} {ad : AD} {τ : RH} {Lv : Nat → Bool} {C : ME} {ρ : RH} {f : Nat → Int64} {u : Int32} (hH : HH g ad Lv C ρ τ) (hI : cI Lv C) (hρ : ρ 90 = some (lgO g f)) : Sp l g yL_train (.codeWith yL_train cL_train 4 (some .int) [(0, 9, 12, 20), (0, 9, 15, 15)]) (rmv 9 2 12) [.ref (ad 0), .int u, .ref (ad 90)] ad τ 2 12 (fun v ad' τ' => v = some (.int (kTrain C u)) ∧ ((kTrain C u = 0 ∧ (ad' = ad) ∧ HH g ad' (Lv) (up2 C 5 (tn u) 1) (rL g ρ f (cTrained (va_up (C 5) (tn u) 1)).toInt64) τ') ∨ (¬ kTrain C u = 0 ∧ ad' = ad ∧ HH g ad Lv C ρ τ'))) (NoX) := by
  refine Sp.ofH 1 [some (.ref (ad 0)), some (.int u), some (.ref (ad 90)), none] (by decide +kernel) (Nat.le_of_ble_eq_true rfl) rfl ?_
  intro p e s m args below meth c A cx htab hr
  have hO := (H_lines hH hI).1
  refine a_aload_n cx dL_train_0 rfl rfl ?_
  refine a_iconst cx (v := 0) dL_train_1 (by decide) ?_
  refine a_aload_n cx dL_train_2 rfl rfl ?_
  refine a_iload_n cx dL_train_3 rfl rfl ?_
  refine a_callV cx 1 (sp_X3_train hH hI) hO rfl ml_L_33 im_X3_train se_X3_train ini_X3 cd_X3_train rfl rfl (by decide +kernel) rfl rfl ⟨(Nat.le_of_ble_eq_true rfl), (Nat.le_of_ble_eq_true rfl)⟩ (Nat.le_of_ble_eq_true rfl) dL_train_4 ⟨(Nat.le_of_ble_eq_true rfl), (Nat.le_of_ble_eq_true rfl)⟩ (fun E9 ad9 τ9 hX => ?_) (fun v9 ad9 τ9 hP => ?_)
  · obtain ⟨hk, h2, h3⟩ := hX
    replace h2 := h2.symm
    subst h2
    replace h3 := h3.symm
    subst h3
    rcases hk with ⟨hk, rfl⟩ | ⟨hk, rfl⟩
    · refine a_catch cx [] ⟨0, 9, 12, 20⟩ [⟨0, 9, 15, 15⟩] (htab.trans rfl) (fun z hz => by cases hz) (by decide) (by decide) cl_L_20 ca_IndexOutOfBoundsException_IndexOutOfBoundsException (fun q => ?_)
      refine a_astore_n3 cx dL_train_12 rfl (by decide) (by intro w h; first | (cases h; rfl) | (cases h; assumption) | (cases h; done)) ?_
      refine a_iconst cx (v := 1) dL_train_13 (by decide) ?_
      exact a_iret cx hr dL_train_14 (Nat.le_of_ble_eq_true rfl) (Nat.le_of_ble_eq_true rfl) ⟨vI hk.symm, Or.inr ⟨by rw [hk]; decide, rfl, hH⟩⟩
    · refine a_catch cx [⟨0, 9, 12, 20⟩] ⟨0, 9, 15, 15⟩ [] (htab.trans rfl) (fun z hz => by rcases List.mem_cons.mp hz with rfl | hz; exact Or.inr ⟨by decide, _, cl_L_20, by decide +kernel⟩; cases hz) (by decide) (by decide) cl_L_15 ca_IllegalStateException_IllegalStateException (fun q => ?_)
      refine a_astore_n3 cx dL_train_15 rfl (by decide) (by intro w h; first | (cases h; rfl) | (cases h; assumption) | (cases h; done)) ?_
      refine a_iconst cx (v := 2) dL_train_16 (by decide) ?_
      exact a_iret cx hr dL_train_17 (Nat.le_of_ble_eq_true rfl) (Nat.le_of_ble_eq_true rfl) ⟨vI hk.symm, Or.inr ⟨by rw [hk]; decide, rfl, hH⟩⟩
  obtain ⟨hk, rfl, h2, hH9⟩ := hP
  replace h2 := h2.symm
  subst h2
  have h9 := (hH9.2 90 (by decide)).trans hρ
  refine a_i2l cx dL_train_7 ?_
  refine a_lst cx (0) h9 (rfl) ((by decide)) (by decide)  dL_train_8 ?_
  refine a_goto cx (tgt := 18) dL_train_9 (by decide) ?_
  refine a_iconst cx (v := 0) dL_train_18 (by decide) ?_
  exact a_iret cx hr dL_train_19 (Nat.le_of_ble_eq_true rfl) (Nat.le_of_ble_eq_true rfl) ⟨vI hk.symm, Or.inl ⟨hk, rfl, hH9.rho (r := 90) (by decide) _⟩⟩

set_option maxHeartbeats 4000000 in
set_option maxRecDepth 100000 in
/-- wrapper: setThere -/
theorem sp_L_setThere {l : Launch} {g : GW} {ad : AD} {τ : RH} {Lv : Nat → Bool} {C : ME} {ρ : RH} {f : Nat → Int64} {u : Int32} {z : Int32} (hH : HH g ad Lv C ρ τ) (hI : cI Lv C) (hρ : ρ 90 = some (lgO g f)) (hz : z = 0 ∨ z = 1) (h6 : ∀ i, C 6 i = 0 ∨ C 6 i = 1) : Sp l g yL_setThere (.codeWith yL_setThere cL_setThere 5 (some .int) [(0, 17, 20, 20)]) (rmv 9 2 12) [.ref (ad 0), .int u, .int z, .ref (ad 90)] ad τ 2 12 (fun v ad' τ' => v = some (.int (kThere u)) ∧ ((kThere u = 0 ∧ (ad' = ad) ∧ HH g ad' (Lv) (up2 C 6 (tn u) z) (rL g ρ f (if C 6 (tn u) = 0 then 0 else 1)) τ') ∨ (¬ kThere u = 0 ∧ ad' = ad ∧ HH g ad Lv C ρ τ'))) (NoX) := by
  refine Sp.ofH 1 [some (.ref (ad 0)), some (.int u), some (.int z), some (.ref (ad 90)), none] (by decide +kernel) (Nat.le_of_ble_eq_true rfl) rfl ?_
  intro p e s m args below meth c A cx htab hr
  have hO := (H_lines hH hI).1
  refine a_aload_n cx dL_setThere_0 rfl rfl ?_
  refine a_iconst cx (v := 0) dL_setThere_1 (by decide) ?_
  refine a_aload_n cx dL_setThere_2 rfl rfl ?_
  refine a_iload_n cx dL_setThere_3 rfl rfl ?_
  refine a_iload_n cx dL_setThere_4 rfl rfl ?_
  refine a_callV cx 2 (sp_X3_setThere hH hI hz h6) hO rfl ml_L_36 im_X3_setThere se_X3_setThere ini_X3 cd_X3_setThere rfl rfl (by decide +kernel) rfl rfl ⟨(Nat.le_of_ble_eq_true rfl), (Nat.le_of_ble_eq_true rfl)⟩ (Nat.le_of_ble_eq_true rfl) dL_setThere_5 ⟨(Nat.le_of_ble_eq_true rfl), (Nat.le_of_ble_eq_true rfl)⟩ (fun E9 ad9 τ9 hX => ?_) (fun v9 ad9 τ9 hP => ?_)
  · obtain ⟨hk, h2, h3⟩ := hX
    replace h2 := h2.symm
    subst h2
    replace h3 := h3.symm
    subst h3
    obtain ⟨hk, rfl⟩ := hk
    refine a_catch cx [] ⟨0, 17, 20, 20⟩ [] (htab.trans rfl) (fun z hz => by cases hz) (by decide) (by decide) cl_L_20 ca_IndexOutOfBoundsException_IndexOutOfBoundsException (fun q => ?_)
    refine a_astore4 cx dL_setThere_20 (by decide) (by intro w h; first | (cases h; rfl) | (cases h; assumption) | (cases h; done)) ?_
    refine a_iconst cx (v := 1) dL_setThere_22 (by decide) ?_
    exact a_iret cx hr dL_setThere_23 (Nat.le_of_ble_eq_true rfl) (Nat.le_of_ble_eq_true rfl) ⟨vI hk.symm, Or.inr ⟨by rw [hk]; decide, rfl, hH⟩⟩
  obtain ⟨hk, rfl, h2, hH9⟩ := hP
  replace h2 := h2.symm
  subst h2
  have h9 := (hH9.2 90 (by decide)).trans hρ
  refine a_if_eq cx (tgt := 15) dL_setThere_8 (by decide) (fun c_8 => ?_) (fun c_8 => ?_)
  · refine a_lconst cx (v := 0) dL_setThere_15 (by decide) ?_
    refine a_lst cx (0) h9 (rfl) ((by decide)) (by decide)  dL_setThere_16 ?_
    refine a_goto cx (tgt := 24) dL_setThere_17 (by decide) ?_
    refine a_iconst cx (v := 0) dL_setThere_24 (by decide) ?_
    exact a_iret cx hr dL_setThere_25 (Nat.le_of_ble_eq_true rfl) (Nat.le_of_ble_eq_true rfl) ⟨vI hk.symm, Or.inl ⟨hk, rfl, by rw [if_pos c_8]; exact hH9.rho (r := 90) (by decide) _⟩⟩
  · refine a_lconst cx (v := 1) dL_setThere_11 (by decide) ?_
    refine a_goto cx (tgt := 16) dL_setThere_12 (by decide) ?_
    refine a_lst cx (0) h9 (rfl) ((by decide)) (by decide)  dL_setThere_16 ?_
    refine a_goto cx (tgt := 24) dL_setThere_17 (by decide) ?_
    refine a_iconst cx (v := 0) dL_setThere_24 (by decide) ?_
    exact a_iret cx hr dL_setThere_25 (Nat.le_of_ble_eq_true rfl) (Nat.le_of_ble_eq_true rfl) ⟨vI hk.symm, Or.inl ⟨hk, rfl, by rw [if_neg c_8]; exact hH9.rho (r := 90) (by decide) _⟩⟩

set_option maxHeartbeats 4000000 in
set_option maxRecDepth 100000 in
/-- wrapper: bring -/
theorem sp_L_bring {l : Launch} {g : GW} {ad : AD} {τ : RH} {Lv : Nat → Bool} {C : ME} {ρ : RH} {f : Nat → Int64} {j : Int32} {x : Int32} (hH : HH g ad Lv C ρ τ) (hI : cI Lv C) (hρ : ρ 90 = some (lgO g f)) : Sp l g yL_bring (.codeWith yL_bring cL_bring 5 (some .int) [(0, 10, 13, 20), (0, 10, 17, 13)]) (rmv 9 2 12) [.ref (ad 0), .int j, .int x, .ref (ad 90)] ad τ 2 12 (fun v ad' τ' => v = some (.int (kBring C j x)) ∧ ((kBring C j x = 0 ∧ (ad' = ad) ∧ HH g ad' (Lv) (va_up C (40 + tn j) (va_up (va_up (C (40 + tn j)) 7 x) 8 114)) (rL g ρ f (C (40 + tn j) 7).toInt64) τ') ∨ (¬ kBring C j x = 0 ∧ ad' = ad ∧ HH g ad Lv C ρ τ'))) (NoX) := by
  refine Sp.ofH 1 [some (.ref (ad 0)), some (.int j), some (.int x), some (.ref (ad 90)), none] (by decide +kernel) (Nat.le_of_ble_eq_true rfl) rfl ?_
  intro p e s m args below meth c A cx htab hr
  have hO := (H_lines hH hI).1
  refine a_aload_n cx dL_bring_0 rfl rfl ?_
  refine a_iconst cx (v := 0) dL_bring_1 (by decide) ?_
  refine a_aload_n cx dL_bring_2 rfl rfl ?_
  refine a_iload_n cx dL_bring_3 rfl rfl ?_
  refine a_iload_n cx dL_bring_4 rfl rfl ?_
  refine a_callV cx 2 (sp_X3_bring hH hI) hO rfl ml_L_40 im_X3_bring se_X3_bring ini_X3 cd_X3_bring rfl rfl (by decide +kernel) rfl rfl ⟨(Nat.le_of_ble_eq_true rfl), (Nat.le_of_ble_eq_true rfl)⟩ (Nat.le_of_ble_eq_true rfl) dL_bring_5 ⟨(Nat.le_of_ble_eq_true rfl), (Nat.le_of_ble_eq_true rfl)⟩ (fun E9 ad9 τ9 hX => ?_) (fun v9 ad9 τ9 hP => ?_)
  · obtain ⟨hk, h2, h3⟩ := hX
    replace h2 := h2.symm
    subst h2
    replace h3 := h3.symm
    subst h3
    rcases hk with ⟨hk, rfl⟩ | ⟨hk, rfl⟩
    · refine a_catch cx [] ⟨0, 10, 13, 20⟩ [⟨0, 10, 17, 13⟩] (htab.trans rfl) (fun z hz => by cases hz) (by decide) (by decide) cl_L_20 ca_IndexOutOfBoundsException_IndexOutOfBoundsException (fun q => ?_)
      refine a_astore4 cx dL_bring_13 (by decide) (by intro w h; first | (cases h; rfl) | (cases h; assumption) | (cases h; done)) ?_
      refine a_iconst cx (v := 1) dL_bring_15 (by decide) ?_
      exact a_iret cx hr dL_bring_16 (Nat.le_of_ble_eq_true rfl) (Nat.le_of_ble_eq_true rfl) ⟨vI hk.symm, Or.inr ⟨by rw [hk]; decide, rfl, hH⟩⟩
    · refine a_catch cx [⟨0, 10, 13, 20⟩] ⟨0, 10, 17, 13⟩ [] (htab.trans rfl) (fun z hz => by rcases List.mem_cons.mp hz with rfl | hz; exact Or.inr ⟨by decide, _, cl_L_20, by decide +kernel⟩; cases hz) (by decide) (by decide) cl_L_13 ca_IllegalArgumentException_IllegalArgumentException (fun q => ?_)
      refine a_astore4 cx dL_bring_17 (by decide) (by intro w h; first | (cases h; rfl) | (cases h; assumption) | (cases h; done)) ?_
      refine a_iconst cx (v := 2) dL_bring_19 (by decide) ?_
      exact a_iret cx hr dL_bring_20 (Nat.le_of_ble_eq_true rfl) (Nat.le_of_ble_eq_true rfl) ⟨vI hk.symm, Or.inr ⟨by rw [hk]; decide, rfl, hH⟩⟩
  obtain ⟨hk, rfl, h2, hH9⟩ := hP
  replace h2 := h2.symm
  subst h2
  have h9 := (hH9.2 90 (by decide)).trans hρ
  refine a_i2l cx dL_bring_8 ?_
  refine a_lst cx (0) h9 (rfl) ((by decide)) (by decide)  dL_bring_9 ?_
  refine a_goto cx (tgt := 21) dL_bring_10 (by decide) ?_
  refine a_iconst cx (v := 0) dL_bring_21 (by decide) ?_
  exact a_iret cx hr dL_bring_22 (Nat.le_of_ble_eq_true rfl) (Nat.le_of_ble_eq_true rfl) ⟨vI hk.symm, Or.inl ⟨hk, rfl, hH9.rho (r := 90) (by decide) _⟩⟩

set_option maxHeartbeats 4000000 in
set_option maxRecDepth 100000 in
/-- wrapper: put -/
theorem sp_L_put {l : Launch} {g : GW} {ad : AD} {τ : RH} {Lv : Nat → Bool} {C : ME} {ρ : RH} {f : Nat → Int64} {j : Int32} {x : Int32} (hH : HH g ad Lv C ρ τ) (hI : cI Lv C) (hρ : ρ 90 = some (lgO g f)) (hx : vp_nar .char x = x) (h8 : ∀ j, j < cNp C → narrow .char (.int (C (40 + j) 8)) = .int (C (40 + j) 8)) : Sp l g yL_put (.codeWith yL_put cL_put 5 (some .int) [(0, 10, 13, 20), (0, 10, 17, 13), (0, 10, 21, 47), (0, 10, 25, 49)]) (rmv 9 2 12) [.ref (ad 0), .int j, .int x, .ref (ad 90)] ad τ 2 12 (fun v ad' τ' => v = some (.int (kPut C j x)) ∧ ((kPut C j x = 0 ∧ (ad' = ad) ∧ HH g ad' (Lv) (up2 C (40 + tn j) 8 x) (rL g ρ f (C (40 + tn j) 8).toInt64) τ') ∨ (¬ kPut C j x = 0 ∧ ad' = ad ∧ HH g ad Lv C ρ τ'))) (NoX) := by
  refine Sp.ofH 1 [some (.ref (ad 0)), some (.int j), some (.int x), some (.ref (ad 90)), none] (by decide +kernel) (Nat.le_of_ble_eq_true rfl) rfl ?_
  intro p e s m args below meth c A cx htab hr
  have hO := (H_lines hH hI).1
  refine a_aload_n cx dL_put_0 rfl rfl ?_
  refine a_iconst cx (v := 0) dL_put_1 (by decide) ?_
  refine a_aload_n cx dL_put_2 rfl rfl ?_
  refine a_iload_n cx dL_put_3 rfl rfl ?_
  refine a_iload_n cx dL_put_4 rfl rfl ?_
  refine a_callV cx 2 (sp_X3_put hH hI hx h8) hO rfl ml_L_43 im_X3_put se_X3_put ini_X3 cd_X3_put rfl rfl (by decide +kernel) rfl rfl ⟨(Nat.le_of_ble_eq_true rfl), (Nat.le_of_ble_eq_true rfl)⟩ (Nat.le_of_ble_eq_true rfl) dL_put_5 ⟨(Nat.le_of_ble_eq_true rfl), (Nat.le_of_ble_eq_true rfl)⟩ (fun E9 ad9 τ9 hX => ?_) (fun v9 ad9 τ9 hP => ?_)
  · obtain ⟨hk, h2, h3⟩ := hX
    replace h2 := h2.symm
    subst h2
    replace h3 := h3.symm
    subst h3
    rcases hk with ⟨hk, rfl⟩ | ⟨hk, rfl⟩ | ⟨hk, rfl⟩ | ⟨hk, rfl⟩
    · refine a_catch cx [] ⟨0, 10, 13, 20⟩ [⟨0, 10, 17, 13⟩, ⟨0, 10, 21, 47⟩, ⟨0, 10, 25, 49⟩] (htab.trans rfl) (fun z hz => by cases hz) (by decide) (by decide) cl_L_20 ca_IndexOutOfBoundsException_IndexOutOfBoundsException (fun q => ?_)
      refine a_astore4 cx dL_put_13 (by decide) (by intro w h; first | (cases h; rfl) | (cases h; assumption) | (cases h; done)) ?_
      refine a_iconst cx (v := 1) dL_put_15 (by decide) ?_
      exact a_iret cx hr dL_put_16 (Nat.le_of_ble_eq_true rfl) (Nat.le_of_ble_eq_true rfl) ⟨vI hk.symm, Or.inr ⟨by rw [hk]; decide, rfl, hH⟩⟩
    · refine a_catch cx [⟨0, 10, 13, 20⟩] ⟨0, 10, 17, 13⟩ [⟨0, 10, 21, 47⟩, ⟨0, 10, 25, 49⟩] (htab.trans rfl) (fun z hz => by rcases List.mem_cons.mp hz with rfl | hz; exact Or.inr ⟨by decide, _, cl_L_20, by decide +kernel⟩; cases hz) (by decide) (by decide) cl_L_13 ca_IllegalArgumentException_IllegalArgumentException (fun q => ?_)
      refine a_astore4 cx dL_put_17 (by decide) (by intro w h; first | (cases h; rfl) | (cases h; assumption) | (cases h; done)) ?_
      refine a_iconst cx (v := 2) dL_put_19 (by decide) ?_
      exact a_iret cx hr dL_put_20 (Nat.le_of_ble_eq_true rfl) (Nat.le_of_ble_eq_true rfl) ⟨vI hk.symm, Or.inr ⟨by rw [hk]; decide, rfl, hH⟩⟩
    · refine a_catch cx [⟨0, 10, 13, 20⟩, ⟨0, 10, 17, 13⟩] ⟨0, 10, 21, 47⟩ [⟨0, 10, 25, 49⟩] (htab.trans rfl) (fun z hz => by rcases List.mem_cons.mp hz with rfl | hz; exact Or.inr ⟨by decide, _, cl_L_20, by decide +kernel⟩; rcases List.mem_cons.mp hz with rfl | hz; exact Or.inr ⟨by decide, _, cl_L_13, by decide +kernel⟩; cases hz) (by decide) (by decide) cl_L_47 ca_NoSuchElementException_NoSuchElementException (fun q => ?_)
      refine a_astore4 cx dL_put_21 (by decide) (by intro w h; first | (cases h; rfl) | (cases h; assumption) | (cases h; done)) ?_
      refine a_iconst cx (v := 3) dL_put_23 (by decide) ?_
      exact a_iret cx hr dL_put_24 (Nat.le_of_ble_eq_true rfl) (Nat.le_of_ble_eq_true rfl) ⟨vI hk.symm, Or.inr ⟨by rw [hk]; decide, rfl, hH⟩⟩
    · refine a_catch cx [⟨0, 10, 13, 20⟩, ⟨0, 10, 17, 13⟩, ⟨0, 10, 21, 47⟩] ⟨0, 10, 25, 49⟩ [] (htab.trans rfl) (fun z hz => by rcases List.mem_cons.mp hz with rfl | hz; exact Or.inr ⟨by decide, _, cl_L_20, by decide +kernel⟩; rcases List.mem_cons.mp hz with rfl | hz; exact Or.inr ⟨by decide, _, cl_L_13, by decide +kernel⟩; rcases List.mem_cons.mp hz with rfl | hz; exact Or.inr ⟨by decide, _, cl_L_47, by decide +kernel⟩; cases hz) (by decide) (by decide) cl_L_49 ca_UnsupportedOperationException_UnsupportedOperationException (fun q => ?_)
      refine a_astore4 cx dL_put_25 (by decide) (by intro w h; first | (cases h; rfl) | (cases h; assumption) | (cases h; done)) ?_
      refine a_iconst cx (v := 4) dL_put_27 (by decide) ?_
      exact a_iret cx hr dL_put_28 (Nat.le_of_ble_eq_true rfl) (Nat.le_of_ble_eq_true rfl) ⟨vI hk.symm, Or.inr ⟨by rw [hk]; decide, rfl, hH⟩⟩
  obtain ⟨hk, rfl, h2, hH9⟩ := hP
  replace h2 := h2.symm
  subst h2
  have h9 := (hH9.2 90 (by decide)).trans hρ
  refine a_i2l cx dL_put_8 ?_
  refine a_lst cx (0) h9 (rfl) ((by decide)) (by decide)  dL_put_9 ?_
  refine a_goto cx (tgt := 29) dL_put_10 (by decide) ?_
  refine a_iconst cx (v := 0) dL_put_29 (by decide) ?_
  exact a_iret cx hr dL_put_30 (Nat.le_of_ble_eq_true rfl) (Nat.le_of_ble_eq_true rfl) ⟨vI hk.symm, Or.inl ⟨hk, rfl, hH9.rho (r := 90) (by decide) _⟩⟩

set_option maxHeartbeats 4000000 in
set_option maxRecDepth 100000 in
/-- wrapper: life -/
theorem sp_L_life {l : Launch} {g : GW} {ad : AD} {τ : RH} {Lv : Nat → Bool} {C : ME} {ρ : RH} {f : Nat → Int64} {j : Int32} (hH : HH g ad Lv C ρ τ) (hI : cI Lv C) (hρ : ρ 90 = some (lgO g f)) : Sp l g yL_life (.codeWith yL_life cL_life 4 (some .int) [(0, 9, 12, 20), (0, 9, 15, 47)]) (rmv 9 2 12) [.ref (ad 0), .int j, .ref (ad 90)] ad τ 2 12 (fun v ad' τ' => v = some (.int (kLife C j)) ∧ ((kLife C j = 0 ∧ (ad' = ad) ∧ HH g ad' (Lv) (C) (rL g ρ f (C (40 + tn j) 7).toInt64) τ') ∨ (¬ kLife C j = 0 ∧ ad' = ad ∧ HH g ad Lv C ρ τ'))) (NoX) := by
  refine Sp.ofH 1 [some (.ref (ad 0)), some (.int j), some (.ref (ad 90)), none] (by decide +kernel) (Nat.le_of_ble_eq_true rfl) rfl ?_
  intro p e s m args below meth c A cx htab hr
  have hO := (H_lines hH hI).1
  refine a_aload_n cx dL_life_0 rfl rfl ?_
  refine a_iconst cx (v := 0) dL_life_1 (by decide) ?_
  refine a_aload_n cx dL_life_2 rfl rfl ?_
  refine a_iload_n cx dL_life_3 rfl rfl ?_
  refine a_callV cx 1 (sp_X3_life hH hI) hO rfl ml_L_51 im_X3_life se_X3_life ini_X3 cd_X3_life rfl rfl (by decide +kernel) rfl rfl ⟨(Nat.le_of_ble_eq_true rfl), (Nat.le_of_ble_eq_true rfl)⟩ (Nat.le_of_ble_eq_true rfl) dL_life_4 ⟨(Nat.le_of_ble_eq_true rfl), (Nat.le_of_ble_eq_true rfl)⟩ (fun E9 ad9 τ9 hX => ?_) (fun v9 ad9 τ9 hP => ?_)
  · obtain ⟨hk, h2, h3⟩ := hX
    replace h2 := h2.symm
    subst h2
    replace h3 := h3.symm
    subst h3
    rcases hk with ⟨hk, rfl⟩ | ⟨hk, rfl⟩
    · refine a_catch cx [] ⟨0, 9, 12, 20⟩ [⟨0, 9, 15, 47⟩] (htab.trans rfl) (fun z hz => by cases hz) (by decide) (by decide) cl_L_20 ca_IndexOutOfBoundsException_IndexOutOfBoundsException (fun q => ?_)
      refine a_astore_n3 cx dL_life_12 rfl (by decide) (by intro w h; first | (cases h; rfl) | (cases h; assumption) | (cases h; done)) ?_
      refine a_iconst cx (v := 1) dL_life_13 (by decide) ?_
      exact a_iret cx hr dL_life_14 (Nat.le_of_ble_eq_true rfl) (Nat.le_of_ble_eq_true rfl) ⟨vI hk.symm, Or.inr ⟨by rw [hk]; decide, rfl, hH⟩⟩
    · refine a_catch cx [⟨0, 9, 12, 20⟩] ⟨0, 9, 15, 47⟩ [] (htab.trans rfl) (fun z hz => by rcases List.mem_cons.mp hz with rfl | hz; exact Or.inr ⟨by decide, _, cl_L_20, by decide +kernel⟩; cases hz) (by decide) (by decide) cl_L_47 ca_NoSuchElementException_NoSuchElementException (fun q => ?_)
      refine a_astore_n3 cx dL_life_15 rfl (by decide) (by intro w h; first | (cases h; rfl) | (cases h; assumption) | (cases h; done)) ?_
      refine a_iconst cx (v := 2) dL_life_16 (by decide) ?_
      exact a_iret cx hr dL_life_17 (Nat.le_of_ble_eq_true rfl) (Nat.le_of_ble_eq_true rfl) ⟨vI hk.symm, Or.inr ⟨by rw [hk]; decide, rfl, hH⟩⟩
  obtain ⟨hk, rfl, h2, h3⟩ := hP
  replace h2 := h2.symm
  subst h2
  replace h3 := h3.symm
  subst h3
  have hH9 := hH
  have h9 := (hH9.2 90 (by decide)).trans hρ
  refine a_i2l cx dL_life_7 ?_
  refine a_lst cx (0) h9 (rfl) ((by decide)) (by decide)  dL_life_8 ?_
  refine a_goto cx (tgt := 18) dL_life_9 (by decide) ?_
  refine a_iconst cx (v := 0) dL_life_18 (by decide) ?_
  exact a_iret cx hr dL_life_19 (Nat.le_of_ble_eq_true rfl) (Nat.le_of_ble_eq_true rfl) ⟨vI hk.symm, Or.inl ⟨hk, rfl, hH9.rho (r := 90) (by decide) _⟩⟩

set_option maxHeartbeats 4000000 in
set_option maxRecDepth 100000 in
/-- wrapper: on -/
theorem sp_L_on {l : Launch} {g : GW} {ad : AD} {τ : RH} {Lv : Nat → Bool} {C : ME} {ρ : RH} {f : Nat → Int64} {b : Int32} (hH : HH g ad Lv C ρ τ) (hI : cI Lv C) (hρ : ρ 90 = some (lgO g f)) : Sp l g yL_on (.codeWith yL_on cL_on 4 (some .int) [(0, 9, 12, 20), (0, 9, 15, 47)]) (rmv 9 2 12) [.ref (ad 0), .int b, .ref (ad 90)] ad τ 2 12 (fun v ad' τ' => v = some (.int (kOn C b)) ∧ ((kOn C b = 0 ∧ (ad' = ad) ∧ HH g ad' (Lv) (C) (rL g ρ f (cOn C (tn b)).toInt64) τ') ∨ (¬ kOn C b = 0 ∧ ad' = ad ∧ HH g ad Lv C ρ τ'))) (NoX) := by
  refine Sp.ofH 1 [some (.ref (ad 0)), some (.int b), some (.ref (ad 90)), none] (by decide +kernel) (Nat.le_of_ble_eq_true rfl) rfl ?_
  intro p e s m args below meth c A cx htab hr
  have hO := (H_lines hH hI).1
  refine a_aload_n cx dL_on_0 rfl rfl ?_
  refine a_iconst cx (v := 0) dL_on_1 (by decide) ?_
  refine a_aload_n cx dL_on_2 rfl rfl ?_
  refine a_iload_n cx dL_on_3 rfl rfl ?_
  refine a_callV cx 1 (sp_X3_on hH hI) hO rfl ml_L_54 im_X3_on se_X3_on ini_X3 cd_X3_on rfl rfl (by decide +kernel) rfl rfl ⟨(Nat.le_of_ble_eq_true rfl), (Nat.le_of_ble_eq_true rfl)⟩ (Nat.le_of_ble_eq_true rfl) dL_on_4 ⟨(Nat.le_of_ble_eq_true rfl), (Nat.le_of_ble_eq_true rfl)⟩ (fun E9 ad9 τ9 hX => ?_) (fun v9 ad9 τ9 hP => ?_)
  · obtain ⟨hk, h2, h3⟩ := hX
    replace h2 := h2.symm
    subst h2
    replace h3 := h3.symm
    subst h3
    rcases hk with ⟨hk, rfl⟩ | ⟨hk, rfl⟩
    · refine a_catch cx [] ⟨0, 9, 12, 20⟩ [⟨0, 9, 15, 47⟩] (htab.trans rfl) (fun z hz => by cases hz) (by decide) (by decide) cl_L_20 ca_IndexOutOfBoundsException_IndexOutOfBoundsException (fun q => ?_)
      refine a_astore_n3 cx dL_on_12 rfl (by decide) (by intro w h; first | (cases h; rfl) | (cases h; assumption) | (cases h; done)) ?_
      refine a_iconst cx (v := 1) dL_on_13 (by decide) ?_
      exact a_iret cx hr dL_on_14 (Nat.le_of_ble_eq_true rfl) (Nat.le_of_ble_eq_true rfl) ⟨vI hk.symm, Or.inr ⟨by rw [hk]; decide, rfl, hH⟩⟩
    · refine a_catch cx [⟨0, 9, 12, 20⟩] ⟨0, 9, 15, 47⟩ [] (htab.trans rfl) (fun z hz => by rcases List.mem_cons.mp hz with rfl | hz; exact Or.inr ⟨by decide, _, cl_L_20, by decide +kernel⟩; cases hz) (by decide) (by decide) cl_L_47 ca_NoSuchElementException_NoSuchElementException (fun q => ?_)
      refine a_astore_n3 cx dL_on_15 rfl (by decide) (by intro w h; first | (cases h; rfl) | (cases h; assumption) | (cases h; done)) ?_
      refine a_iconst cx (v := 2) dL_on_16 (by decide) ?_
      exact a_iret cx hr dL_on_17 (Nat.le_of_ble_eq_true rfl) (Nat.le_of_ble_eq_true rfl) ⟨vI hk.symm, Or.inr ⟨by rw [hk]; decide, rfl, hH⟩⟩
  obtain ⟨hk, rfl, h2, h3⟩ := hP
  replace h2 := h2.symm
  subst h2
  replace h3 := h3.symm
  subst h3
  have hH9 := hH
  have h9 := (hH9.2 90 (by decide)).trans hρ
  refine a_i2l cx dL_on_7 ?_
  refine a_lst cx (0) h9 (rfl) ((by decide)) (by decide)  dL_on_8 ?_
  refine a_goto cx (tgt := 18) dL_on_9 (by decide) ?_
  refine a_iconst cx (v := 0) dL_on_18 (by decide) ?_
  exact a_iret cx hr dL_on_19 (Nat.le_of_ble_eq_true rfl) (Nat.le_of_ble_eq_true rfl) ⟨vI hk.symm, Or.inl ⟨hk, rfl, hH9.rho (r := 90) (by decide) _⟩⟩

set_option maxHeartbeats 4000000 in
set_option maxRecDepth 100000 in
/-- wrapper: reason -/
theorem sp_L_reason {l : Launch} {g : GW} {ad : AD} {τ : RH} {Lv : Nat → Bool} {C : ME} {ρ : RH} {f : Nat → Int64} {b : Int32} (hH : HH g ad Lv C ρ τ) (hI : cI Lv C) (hρ : ρ 90 = some (lgO g f)) : Sp l g yL_reason (.codeWith yL_reason cL_reason 4 (some .int) [(0, 9, 12, 20)]) (rmv 9 2 12) [.ref (ad 0), .int b, .ref (ad 90)] ad τ 2 12 (fun v ad' τ' => v = some (.int (kLine C b)) ∧ ((kLine C b = 0 ∧ (ad' = ad) ∧ HH g ad' (Lv) (C) (rL g ρ f (cWhy C (tn b)).toInt64) τ') ∨ (¬ kLine C b = 0 ∧ ad' = ad ∧ HH g ad Lv C ρ τ'))) (NoX) := by
  refine Sp.ofH 1 [some (.ref (ad 0)), some (.int b), some (.ref (ad 90)), none] (by decide +kernel) (Nat.le_of_ble_eq_true rfl) rfl ?_
  intro p e s m args below meth c A cx htab hr
  have hO := (H_lines hH hI).1
  refine a_aload_n cx dL_reason_0 rfl rfl ?_
  refine a_iconst cx (v := 0) dL_reason_1 (by decide) ?_
  refine a_aload_n cx dL_reason_2 rfl rfl ?_
  refine a_iload_n cx dL_reason_3 rfl rfl ?_
  refine a_callV cx 1 (sp_X3_reason hH hI) hO rfl ml_L_57 im_X3_reason se_X3_reason ini_X3 cd_X3_reason rfl rfl (by decide +kernel) rfl rfl ⟨(Nat.le_of_ble_eq_true rfl), (Nat.le_of_ble_eq_true rfl)⟩ (Nat.le_of_ble_eq_true rfl) dL_reason_4 ⟨(Nat.le_of_ble_eq_true rfl), (Nat.le_of_ble_eq_true rfl)⟩ (fun E9 ad9 τ9 hX => ?_) (fun v9 ad9 τ9 hP => ?_)
  · obtain ⟨hk, h2, h3⟩ := hX
    replace h2 := h2.symm
    subst h2
    replace h3 := h3.symm
    subst h3
    obtain ⟨hk, rfl⟩ := hk
    refine a_catch cx [] ⟨0, 9, 12, 20⟩ [] (htab.trans rfl) (fun z hz => by cases hz) (by decide) (by decide) cl_L_20 ca_IndexOutOfBoundsException_IndexOutOfBoundsException (fun q => ?_)
    refine a_astore_n3 cx dL_reason_12 rfl (by decide) (by intro w h; first | (cases h; rfl) | (cases h; assumption) | (cases h; done)) ?_
    refine a_iconst cx (v := 1) dL_reason_13 (by decide) ?_
    exact a_iret cx hr dL_reason_14 (Nat.le_of_ble_eq_true rfl) (Nat.le_of_ble_eq_true rfl) ⟨vI hk.symm, Or.inr ⟨by rw [hk]; decide, rfl, hH⟩⟩
  obtain ⟨hk, rfl, h2, h3⟩ := hP
  replace h2 := h2.symm
  subst h2
  replace h3 := h3.symm
  subst h3
  have hH9 := hH
  have h9 := (hH9.2 90 (by decide)).trans hρ
  refine a_i2l cx dL_reason_7 ?_
  refine a_lst cx (0) h9 (rfl) ((by decide)) (by decide)  dL_reason_8 ?_
  refine a_goto cx (tgt := 15) dL_reason_9 (by decide) ?_
  refine a_iconst cx (v := 0) dL_reason_15 (by decide) ?_
  exact a_iret cx hr dL_reason_16 (Nat.le_of_ble_eq_true rfl) (Nat.le_of_ble_eq_true rfl) ⟨vI hk.symm, Or.inl ⟨hk, rfl, hH9.rho (r := 90) (by decide) _⟩⟩

set_option maxHeartbeats 4000000 in
set_option maxRecDepth 100000 in
/-- wrapper: fail -/
theorem sp_L_fail {l : Launch} {g : GW} {ad : AD} {τ : RH} {Lv : Nat → Bool} {C : ME} {ρ : RH} {f : Nat → Int64} {b : Int32} (hH : HH g ad Lv C ρ τ) (hI : cI Lv C) (hρ : ρ 90 = some (lgO g f)) : Sp l g yL_fail (.codeWith yL_fail cL_fail 4 (some .int) [(0, 16, 19, 20), (0, 16, 22, 15)]) (rmv 9 2 12) [.ref (ad 0), .int b, .ref (ad 90)] ad τ 2 12 (fun v ad' τ' => v = some (.int (kFail C b)) ∧ ((kFail C b = 0 ∧ (ad' = ad) ∧ HH g ad' (Lv) (up2 C (10 + 10 * tn b) 10 1) (rL g ρ f (if cFail C (tn b) = 0 then 0 else 1)) τ') ∨ (¬ kFail C b = 0 ∧ ad' = ad ∧ HH g ad Lv C ρ τ'))) (NoX) := by
  refine Sp.ofH 1 [some (.ref (ad 0)), some (.int b), some (.ref (ad 90)), none] (by decide +kernel) (Nat.le_of_ble_eq_true rfl) rfl ?_
  intro p e s m args below meth c A cx htab hr
  have hO := (H_lines hH hI).1
  refine a_aload_n cx dL_fail_0 rfl rfl ?_
  refine a_iconst cx (v := 0) dL_fail_1 (by decide) ?_
  refine a_aload_n cx dL_fail_2 rfl rfl ?_
  refine a_iload_n cx dL_fail_3 rfl rfl ?_
  refine a_callV cx 1 (sp_X3_fail hH hI) hO rfl ml_L_61 im_X3_fail se_X3_fail ini_X3 cd_X3_fail rfl rfl (by decide +kernel) rfl rfl ⟨(Nat.le_of_ble_eq_true rfl), (Nat.le_of_ble_eq_true rfl)⟩ (Nat.le_of_ble_eq_true rfl) dL_fail_4 ⟨(Nat.le_of_ble_eq_true rfl), (Nat.le_of_ble_eq_true rfl)⟩ (fun E9 ad9 τ9 hX => ?_) (fun v9 ad9 τ9 hP => ?_)
  · obtain ⟨hk, h2, h3⟩ := hX
    replace h2 := h2.symm
    subst h2
    replace h3 := h3.symm
    subst h3
    rcases hk with ⟨hk, rfl⟩ | ⟨hk, rfl⟩
    · refine a_catch cx [] ⟨0, 16, 19, 20⟩ [⟨0, 16, 22, 15⟩] (htab.trans rfl) (fun z hz => by cases hz) (by decide) (by decide) cl_L_20 ca_IndexOutOfBoundsException_IndexOutOfBoundsException (fun q => ?_)
      refine a_astore_n3 cx dL_fail_19 rfl (by decide) (by intro w h; first | (cases h; rfl) | (cases h; assumption) | (cases h; done)) ?_
      refine a_iconst cx (v := 1) dL_fail_20 (by decide) ?_
      exact a_iret cx hr dL_fail_21 (Nat.le_of_ble_eq_true rfl) (Nat.le_of_ble_eq_true rfl) ⟨vI hk.symm, Or.inr ⟨by rw [hk]; decide, rfl, hH⟩⟩
    · refine a_catch cx [⟨0, 16, 19, 20⟩] ⟨0, 16, 22, 15⟩ [] (htab.trans rfl) (fun z hz => by rcases List.mem_cons.mp hz with rfl | hz; exact Or.inr ⟨by decide, _, cl_L_20, by decide +kernel⟩; cases hz) (by decide) (by decide) cl_L_15 ca_IllegalStateException_IllegalStateException (fun q => ?_)
      refine a_astore_n3 cx dL_fail_22 rfl (by decide) (by intro w h; first | (cases h; rfl) | (cases h; assumption) | (cases h; done)) ?_
      refine a_iconst cx (v := 2) dL_fail_23 (by decide) ?_
      exact a_iret cx hr dL_fail_24 (Nat.le_of_ble_eq_true rfl) (Nat.le_of_ble_eq_true rfl) ⟨vI hk.symm, Or.inr ⟨by rw [hk]; decide, rfl, hH⟩⟩
  obtain ⟨hk, rfl, h2, hH9⟩ := hP
  replace h2 := h2.symm
  subst h2
  have h9 := (hH9.2 90 (by decide)).trans hρ
  refine a_if_eq cx (tgt := 14) dL_fail_7 (by decide) (fun c_7 => ?_) (fun c_7 => ?_)
  · refine a_lconst cx (v := 0) dL_fail_14 (by decide) ?_
    refine a_lst cx (0) h9 (rfl) ((by decide)) (by decide)  dL_fail_15 ?_
    refine a_goto cx (tgt := 25) dL_fail_16 (by decide) ?_
    refine a_iconst cx (v := 0) dL_fail_25 (by decide) ?_
    exact a_iret cx hr dL_fail_26 (Nat.le_of_ble_eq_true rfl) (Nat.le_of_ble_eq_true rfl) ⟨vI hk.symm, Or.inl ⟨hk, rfl, by rw [if_pos c_7]; exact hH9.rho (r := 90) (by decide) _⟩⟩
  · refine a_lconst cx (v := 1) dL_fail_10 (by decide) ?_
    refine a_goto cx (tgt := 15) dL_fail_11 (by decide) ?_
    refine a_lst cx (0) h9 (rfl) ((by decide)) (by decide)  dL_fail_15 ?_
    refine a_goto cx (tgt := 25) dL_fail_16 (by decide) ?_
    refine a_iconst cx (v := 0) dL_fail_25 (by decide) ?_
    exact a_iret cx hr dL_fail_26 (Nat.le_of_ble_eq_true rfl) (Nat.le_of_ble_eq_true rfl) ⟨vI hk.symm, Or.inl ⟨hk, rfl, by rw [if_neg c_7]; exact hH9.rho (r := 90) (by decide) _⟩⟩

set_option maxHeartbeats 4000000 in
set_option maxRecDepth 100000 in
/-- wrapper: pass -/
theorem sp_L_pass {l : Launch} {g : GW} {ad : AD} {τ : RH} {Lv : Nat → Bool} {C : ME} {ρ : RH} {f : Nat → Int64} {n : Int32} (hH : HH g ad Lv C ρ τ) (hI : cI Lv C) (hρ : ρ 90 = some (lgO g f)) : Sp l g yL_pass (.codeWith yL_pass cL_pass 4 (some .int) [(0, 9, 12, 13), (0, 9, 15, 15)]) (rmv 9 2 12) [.ref (ad 0), .int n, .ref (ad 90)] ad τ 2 12 (fun v ad' τ' => v = some (.int (kPass C n)) ∧ ((kPass C n = 0 ∧ (ad' = ad) ∧ HH g ad' (Lv) ((qPass C n).1) (rL g ρ f ((qPass C n).2).toInt64) τ') ∨ (¬ kPass C n = 0 ∧ ad' = ad ∧ HH g ad Lv C ρ τ'))) (NoX) := by
  refine Sp.ofH 1 [some (.ref (ad 0)), some (.int n), some (.ref (ad 90)), none] (by decide +kernel) (Nat.le_of_ble_eq_true rfl) rfl ?_
  intro p e s m args below meth c A cx htab hr
  have hO := (H_lines hH hI).1
  refine a_aload_n cx dL_pass_0 rfl rfl ?_
  refine a_iconst cx (v := 0) dL_pass_1 (by decide) ?_
  refine a_aload_n cx dL_pass_2 rfl rfl ?_
  refine a_iload_n cx dL_pass_3 rfl rfl ?_
  refine a_callV cx 1 (sp_X3_pass hH hI) hO rfl ml_L_65 im_X3_pass se_X3_pass ini_X3 cd_X3_pass rfl rfl (by decide +kernel) rfl rfl ⟨(Nat.le_of_ble_eq_true rfl), (Nat.le_of_ble_eq_true rfl)⟩ (Nat.le_of_ble_eq_true rfl) dL_pass_4 ⟨(Nat.le_of_ble_eq_true rfl), (Nat.le_of_ble_eq_true rfl)⟩ (fun E9 ad9 τ9 hX => ?_) (fun v9 ad9 τ9 hP => ?_)
  · obtain ⟨hk, h2, h3⟩ := hX
    replace h2 := h2.symm
    subst h2
    replace h3 := h3.symm
    subst h3
    rcases hk with ⟨hk, rfl⟩ | ⟨hk, rfl⟩
    · refine a_catch cx [] ⟨0, 9, 12, 13⟩ [⟨0, 9, 15, 15⟩] (htab.trans rfl) (fun z hz => by cases hz) (by decide) (by decide) cl_L_13 ca_IllegalArgumentException_IllegalArgumentException (fun q => ?_)
      refine a_astore_n3 cx dL_pass_12 rfl (by decide) (by intro w h; first | (cases h; rfl) | (cases h; assumption) | (cases h; done)) ?_
      refine a_iconst cx (v := 1) dL_pass_13 (by decide) ?_
      exact a_iret cx hr dL_pass_14 (Nat.le_of_ble_eq_true rfl) (Nat.le_of_ble_eq_true rfl) ⟨vI hk.symm, Or.inr ⟨by rw [hk]; decide, rfl, hH⟩⟩
    · refine a_catch cx [⟨0, 9, 12, 13⟩] ⟨0, 9, 15, 15⟩ [] (htab.trans rfl) (fun z hz => by rcases List.mem_cons.mp hz with rfl | hz; exact Or.inr ⟨by decide, _, cl_L_13, by decide +kernel⟩; cases hz) (by decide) (by decide) cl_L_15 ca_IllegalStateException_IllegalStateException (fun q => ?_)
      refine a_astore_n3 cx dL_pass_15 rfl (by decide) (by intro w h; first | (cases h; rfl) | (cases h; assumption) | (cases h; done)) ?_
      refine a_iconst cx (v := 2) dL_pass_16 (by decide) ?_
      exact a_iret cx hr dL_pass_17 (Nat.le_of_ble_eq_true rfl) (Nat.le_of_ble_eq_true rfl) ⟨vI hk.symm, Or.inr ⟨by rw [hk]; decide, rfl, hH⟩⟩
  obtain ⟨hk, rfl, h2, hH9⟩ := hP
  replace h2 := h2.symm
  subst h2
  have h9 := (hH9.2 90 (by decide)).trans hρ
  refine a_i2l cx dL_pass_7 ?_
  refine a_lst cx (0) h9 (rfl) ((by decide)) (by decide)  dL_pass_8 ?_
  refine a_goto cx (tgt := 18) dL_pass_9 (by decide) ?_
  refine a_iconst cx (v := 0) dL_pass_18 (by decide) ?_
  exact a_iret cx hr dL_pass_19 (Nat.le_of_ble_eq_true rfl) (Nat.le_of_ble_eq_true rfl) ⟨vI hk.symm, Or.inl ⟨hk, rfl, hH9.rho (r := 90) (by decide) _⟩⟩

set_option maxHeartbeats 4000000 in
set_option maxRecDepth 100000 in
/-- wrapper: used -/
theorem sp_L_used {l : Launch} {g : GW} {ad : AD} {τ : RH} {Lv : Nat → Bool} {C : ME} {ρ : RH} {f : Nat → Int64} {b : Int32} (hH : HH g ad Lv C ρ τ) (hI : cI Lv C) (hρ : ρ 90 = some (lgO g f)) : Sp l g yL_used (.codeWith yL_used cL_used 4 (some .int) [(0, 9, 12, 20)]) (rmv 9 2 12) [.ref (ad 0), .int b, .ref (ad 90)] ad τ 2 12 (fun v ad' τ' => v = some (.int (kLine C b)) ∧ ((kLine C b = 0 ∧ (ad' = ad) ∧ HH g ad' (Lv) (C) (rL g ρ f (C (10 + 10 * tn b) 8).toInt64) τ') ∨ (¬ kLine C b = 0 ∧ ad' = ad ∧ HH g ad Lv C ρ τ'))) (NoX) := by
  refine Sp.ofH 1 [some (.ref (ad 0)), some (.int b), some (.ref (ad 90)), none] (by decide +kernel) (Nat.le_of_ble_eq_true rfl) rfl ?_
  intro p e s m args below meth c A cx htab hr
  have hO := (H_lines hH hI).1
  refine a_aload_n cx dL_used_0 rfl rfl ?_
  refine a_iconst cx (v := 0) dL_used_1 (by decide) ?_
  refine a_aload_n cx dL_used_2 rfl rfl ?_
  refine a_iload_n cx dL_used_3 rfl rfl ?_
  refine a_callV cx 1 (sp_X3_used hH hI) hO rfl ml_L_68 im_X3_used se_X3_used ini_X3 cd_X3_used rfl rfl (by decide +kernel) rfl rfl ⟨(Nat.le_of_ble_eq_true rfl), (Nat.le_of_ble_eq_true rfl)⟩ (Nat.le_of_ble_eq_true rfl) dL_used_4 ⟨(Nat.le_of_ble_eq_true rfl), (Nat.le_of_ble_eq_true rfl)⟩ (fun E9 ad9 τ9 hX => ?_) (fun v9 ad9 τ9 hP => ?_)
  · obtain ⟨hk, h2, h3⟩ := hX
    replace h2 := h2.symm
    subst h2
    replace h3 := h3.symm
    subst h3
    obtain ⟨hk, rfl⟩ := hk
    refine a_catch cx [] ⟨0, 9, 12, 20⟩ [] (htab.trans rfl) (fun z hz => by cases hz) (by decide) (by decide) cl_L_20 ca_IndexOutOfBoundsException_IndexOutOfBoundsException (fun q => ?_)
    refine a_astore_n3 cx dL_used_12 rfl (by decide) (by intro w h; first | (cases h; rfl) | (cases h; assumption) | (cases h; done)) ?_
    refine a_iconst cx (v := 1) dL_used_13 (by decide) ?_
    exact a_iret cx hr dL_used_14 (Nat.le_of_ble_eq_true rfl) (Nat.le_of_ble_eq_true rfl) ⟨vI hk.symm, Or.inr ⟨by rw [hk]; decide, rfl, hH⟩⟩
  obtain ⟨hk, rfl, h2, h3⟩ := hP
  replace h2 := h2.symm
  subst h2
  replace h3 := h3.symm
  subst h3
  have hH9 := hH
  have h9 := (hH9.2 90 (by decide)).trans hρ
  refine a_i2l cx dL_used_7 ?_
  refine a_lst cx (0) h9 (rfl) ((by decide)) (by decide)  dL_used_8 ?_
  refine a_goto cx (tgt := 15) dL_used_9 (by decide) ?_
  refine a_iconst cx (v := 0) dL_used_15 (by decide) ?_
  exact a_iret cx hr dL_used_16 (Nat.le_of_ble_eq_true rfl) (Nat.le_of_ble_eq_true rfl) ⟨vI hk.symm, Or.inl ⟨hk, rfl, hH9.rho (r := 90) (by decide) _⟩⟩

set_option maxHeartbeats 4000000 in
set_option maxRecDepth 100000 in
/-- wrapper: left -/
theorem sp_L_left {l : Launch} {g : GW} {ad : AD} {τ : RH} {Lv : Nat → Bool} {C : ME} {ρ : RH} {f : Nat → Int64} {j : Int32} (hH : HH g ad Lv C ρ τ) (hI : cI Lv C) (hρ : ρ 90 = some (lgO g f)) : Sp l g yL_left (.codeWith yL_left cL_left 4 (some .int) [(0, 9, 12, 20)]) (rmv 9 2 12) [.ref (ad 0), .int j, .ref (ad 90)] ad τ 2 12 (fun v ad' τ' => v = some (.int (kProp C j)) ∧ ((kProp C j = 0 ∧ (ad' = ad) ∧ HH g ad' (Lv) (C) (rL g ρ f (cLeft C (tn j)).toInt64) τ') ∨ (¬ kProp C j = 0 ∧ ad' = ad ∧ HH g ad Lv C ρ τ'))) (NoX) := by
  refine Sp.ofH 1 [some (.ref (ad 0)), some (.int j), some (.ref (ad 90)), none] (by decide +kernel) (Nat.le_of_ble_eq_true rfl) rfl ?_
  intro p e s m args below meth c A cx htab hr
  have hO := (H_lines hH hI).1
  refine a_aload_n cx dL_left_0 rfl rfl ?_
  refine a_iconst cx (v := 0) dL_left_1 (by decide) ?_
  refine a_aload_n cx dL_left_2 rfl rfl ?_
  refine a_iload_n cx dL_left_3 rfl rfl ?_
  refine a_callV cx 1 (sp_X3_left hH hI) hO rfl ml_L_71 im_X3_left se_X3_left ini_X3 cd_X3_left rfl rfl (by decide +kernel) rfl rfl ⟨(Nat.le_of_ble_eq_true rfl), (Nat.le_of_ble_eq_true rfl)⟩ (Nat.le_of_ble_eq_true rfl) dL_left_4 ⟨(Nat.le_of_ble_eq_true rfl), (Nat.le_of_ble_eq_true rfl)⟩ (fun E9 ad9 τ9 hX => ?_) (fun v9 ad9 τ9 hP => ?_)
  · obtain ⟨hk, h2, h3⟩ := hX
    replace h2 := h2.symm
    subst h2
    replace h3 := h3.symm
    subst h3
    obtain ⟨hk, rfl⟩ := hk
    refine a_catch cx [] ⟨0, 9, 12, 20⟩ [] (htab.trans rfl) (fun z hz => by cases hz) (by decide) (by decide) cl_L_20 ca_IndexOutOfBoundsException_IndexOutOfBoundsException (fun q => ?_)
    refine a_astore_n3 cx dL_left_12 rfl (by decide) (by intro w h; first | (cases h; rfl) | (cases h; assumption) | (cases h; done)) ?_
    refine a_iconst cx (v := 1) dL_left_13 (by decide) ?_
    exact a_iret cx hr dL_left_14 (Nat.le_of_ble_eq_true rfl) (Nat.le_of_ble_eq_true rfl) ⟨vI hk.symm, Or.inr ⟨by rw [hk]; decide, rfl, hH⟩⟩
  obtain ⟨hk, rfl, h2, h3⟩ := hP
  replace h2 := h2.symm
  subst h2
  replace h3 := h3.symm
  subst h3
  have hH9 := hH
  have h9 := (hH9.2 90 (by decide)).trans hρ
  refine a_i2l cx dL_left_7 ?_
  refine a_lst cx (0) h9 (rfl) ((by decide)) (by decide)  dL_left_8 ?_
  refine a_goto cx (tgt := 15) dL_left_9 (by decide) ?_
  refine a_iconst cx (v := 0) dL_left_15 (by decide) ?_
  exact a_iret cx hr dL_left_16 (Nat.le_of_ble_eq_true rfl) (Nat.le_of_ble_eq_true rfl) ⟨vI hk.symm, Or.inl ⟨hk, rfl, hH9.rho (r := 90) (by decide) _⟩⟩

set_option maxHeartbeats 4000000 in
set_option maxRecDepth 100000 in
/-- wrapper: leftAnew -/
theorem sp_L_leftAnew {l : Launch} {g : GW} {ad : AD} {τ : RH} {Lv : Nat → Bool} {C : ME} {ρ : RH} {f : Nat → Int64} {j : Int32} (hH : HH g ad Lv C ρ τ) (hI : cI Lv C) (hρ : ρ 90 = some (lgO g f)) : Sp l g yL_leftAnew (.codeWith yL_leftAnew cL_leftAnew 4 (some .int) [(0, 9, 12, 20)]) (rmv 9 2 12) [.ref (ad 0), .int j, .ref (ad 90)] ad τ 2 12 (fun v ad' τ' => v = some (.int (kProp C j)) ∧ ((kProp C j = 0 ∧ (ad' = ad) ∧ HH g ad' (Lv) (oK C (tn (C (40 + tn j) 1)) (cReplay C (tn (C (40 + tn j) 1)))) (rL g ρ f (cAnew C (tn j)).toInt64) τ') ∨ (¬ kProp C j = 0 ∧ ad' = ad ∧ HH g ad Lv C ρ τ'))) (NoX) := by
  refine Sp.ofH 1 [some (.ref (ad 0)), some (.int j), some (.ref (ad 90)), none] (by decide +kernel) (Nat.le_of_ble_eq_true rfl) rfl ?_
  intro p e s m args below meth c A cx htab hr
  have hO := (H_lines hH hI).1
  refine a_aload_n cx dL_leftAnew_0 rfl rfl ?_
  refine a_iconst cx (v := 0) dL_leftAnew_1 (by decide) ?_
  refine a_aload_n cx dL_leftAnew_2 rfl rfl ?_
  refine a_iload_n cx dL_leftAnew_3 rfl rfl ?_
  refine a_callV cx 1 (sp_X3_leftAnew hH hI) hO rfl ml_L_74 im_X3_leftAnew se_X3_leftAnew ini_X3 cd_X3_leftAnew rfl rfl (by decide +kernel) rfl rfl ⟨(Nat.le_of_ble_eq_true rfl), (Nat.le_of_ble_eq_true rfl)⟩ (Nat.le_of_ble_eq_true rfl) dL_leftAnew_4 ⟨(Nat.le_of_ble_eq_true rfl), (Nat.le_of_ble_eq_true rfl)⟩ (fun E9 ad9 τ9 hX => ?_) (fun v9 ad9 τ9 hP => ?_)
  · obtain ⟨hk, h2, h3⟩ := hX
    replace h2 := h2.symm
    subst h2
    replace h3 := h3.symm
    subst h3
    obtain ⟨hk, rfl⟩ := hk
    refine a_catch cx [] ⟨0, 9, 12, 20⟩ [] (htab.trans rfl) (fun z hz => by cases hz) (by decide) (by decide) cl_L_20 ca_IndexOutOfBoundsException_IndexOutOfBoundsException (fun q => ?_)
    refine a_astore_n3 cx dL_leftAnew_12 rfl (by decide) (by intro w h; first | (cases h; rfl) | (cases h; assumption) | (cases h; done)) ?_
    refine a_iconst cx (v := 1) dL_leftAnew_13 (by decide) ?_
    exact a_iret cx hr dL_leftAnew_14 (Nat.le_of_ble_eq_true rfl) (Nat.le_of_ble_eq_true rfl) ⟨vI hk.symm, Or.inr ⟨by rw [hk]; decide, rfl, hH⟩⟩
  obtain ⟨hk, rfl, h2, hH9⟩ := hP
  replace h2 := h2.symm
  subst h2
  have h9 := (hH9.2 90 (by decide)).trans hρ
  refine a_i2l cx dL_leftAnew_7 ?_
  refine a_lst cx (0) h9 (rfl) ((by decide)) (by decide)  dL_leftAnew_8 ?_
  refine a_goto cx (tgt := 15) dL_leftAnew_9 (by decide) ?_
  refine a_iconst cx (v := 0) dL_leftAnew_15 (by decide) ?_
  exact a_iret cx hr dL_leftAnew_16 (Nat.le_of_ble_eq_true rfl) (Nat.le_of_ble_eq_true rfl) ⟨vI hk.symm, Or.inl ⟨hk, rfl, hH9.rho (r := 90) (by decide) _⟩⟩

set_option maxHeartbeats 4000000 in
set_option maxRecDepth 100000 in
/-- wrapper: nextAt -/
theorem sp_L_nextAt {l : Launch} {g : GW} {ad : AD} {τ : RH} {Lv : Nat → Bool} {C : ME} {ρ : RH} {f : Nat → Int64} {j : Int32} (hH : HH g ad Lv C ρ τ) (hI : cI Lv C) (hρ : ρ 90 = some (lgO g f)) : Sp l g yL_nextAt (.codeWith yL_nextAt cL_nextAt 4 (some .int) [(0, 9, 12, 20), (0, 9, 15, 47)]) (rmv 9 2 12) [.ref (ad 0), .int j, .ref (ad 90)] ad τ 2 12 (fun v ad' τ' => v = some (.int (kNext C j)) ∧ ((kNext C j = 0 ∧ (ad' = ad) ∧ HH g ad' (Lv) (C) (rL g ρ f (cNext C (tn j)).toInt64) τ') ∨ (¬ kNext C j = 0 ∧ ad' = ad ∧ HH g ad Lv C ρ τ'))) (NoX) := by
  refine Sp.ofH 1 [some (.ref (ad 0)), some (.int j), some (.ref (ad 90)), none] (by decide +kernel) (Nat.le_of_ble_eq_true rfl) rfl ?_
  intro p e s m args below meth c A cx htab hr
  have hO := (H_lines hH hI).1
  refine a_aload_n cx dL_nextAt_0 rfl rfl ?_
  refine a_iconst cx (v := 0) dL_nextAt_1 (by decide) ?_
  refine a_aload_n cx dL_nextAt_2 rfl rfl ?_
  refine a_iload_n cx dL_nextAt_3 rfl rfl ?_
  refine a_callV cx 1 (sp_X3_nextAt hH hI) hO rfl ml_L_77 im_X3_nextAt se_X3_nextAt ini_X3 cd_X3_nextAt rfl rfl (by decide +kernel) rfl rfl ⟨(Nat.le_of_ble_eq_true rfl), (Nat.le_of_ble_eq_true rfl)⟩ (Nat.le_of_ble_eq_true rfl) dL_nextAt_4 ⟨(Nat.le_of_ble_eq_true rfl), (Nat.le_of_ble_eq_true rfl)⟩ (fun E9 ad9 τ9 hX => ?_) (fun v9 ad9 τ9 hP => ?_)
  · obtain ⟨hk, h2, h3⟩ := hX
    replace h2 := h2.symm
    subst h2
    replace h3 := h3.symm
    subst h3
    rcases hk with ⟨hk, rfl⟩ | ⟨hk, rfl⟩
    · refine a_catch cx [] ⟨0, 9, 12, 20⟩ [⟨0, 9, 15, 47⟩] (htab.trans rfl) (fun z hz => by cases hz) (by decide) (by decide) cl_L_20 ca_IndexOutOfBoundsException_IndexOutOfBoundsException (fun q => ?_)
      refine a_astore_n3 cx dL_nextAt_12 rfl (by decide) (by intro w h; first | (cases h; rfl) | (cases h; assumption) | (cases h; done)) ?_
      refine a_iconst cx (v := 1) dL_nextAt_13 (by decide) ?_
      exact a_iret cx hr dL_nextAt_14 (Nat.le_of_ble_eq_true rfl) (Nat.le_of_ble_eq_true rfl) ⟨vI hk.symm, Or.inr ⟨by rw [hk]; decide, rfl, hH⟩⟩
    · refine a_catch cx [⟨0, 9, 12, 20⟩] ⟨0, 9, 15, 47⟩ [] (htab.trans rfl) (fun z hz => by rcases List.mem_cons.mp hz with rfl | hz; exact Or.inr ⟨by decide, _, cl_L_20, by decide +kernel⟩; cases hz) (by decide) (by decide) cl_L_47 ca_NoSuchElementException_NoSuchElementException (fun q => ?_)
      refine a_astore_n3 cx dL_nextAt_15 rfl (by decide) (by intro w h; first | (cases h; rfl) | (cases h; assumption) | (cases h; done)) ?_
      refine a_iconst cx (v := 2) dL_nextAt_16 (by decide) ?_
      exact a_iret cx hr dL_nextAt_17 (Nat.le_of_ble_eq_true rfl) (Nat.le_of_ble_eq_true rfl) ⟨vI hk.symm, Or.inr ⟨by rw [hk]; decide, rfl, hH⟩⟩
  obtain ⟨hk, rfl, h2, h3⟩ := hP
  replace h2 := h2.symm
  subst h2
  replace h3 := h3.symm
  subst h3
  have hH9 := hH
  have h9 := (hH9.2 90 (by decide)).trans hρ
  refine a_i2l cx dL_nextAt_7 ?_
  refine a_lst cx (0) h9 (rfl) ((by decide)) (by decide)  dL_nextAt_8 ?_
  refine a_goto cx (tgt := 18) dL_nextAt_9 (by decide) ?_
  refine a_iconst cx (v := 0) dL_nextAt_18 (by decide) ?_
  exact a_iret cx hr dL_nextAt_19 (Nat.le_of_ble_eq_true rfl) (Nat.le_of_ble_eq_true rfl) ⟨vI hk.symm, Or.inl ⟨hk, rfl, hH9.rho (r := 90) (by decide) _⟩⟩

set_option maxHeartbeats 4000000 in
set_option maxRecDepth 100000 in
/-- wrapper: count -/
theorem sp_L_count {l : Launch} {g : GW} {ad : AD} {τ : RH} {Lv : Nat → Bool} {C : ME} {ρ : RH} {f : Nat → Int64} {j : Int32} {x : Int32} (hH : HH g ad Lv C ρ τ) (hI : cI Lv C) (hρ : ρ 90 = some (lgO g f)) : Sp l g yL_count (.codeWith yL_count cL_count 5 (some .int) [(0, 10, 13, 20), (0, 10, 17, 13)]) (rmv 9 2 12) [.ref (ad 0), .int j, .int x, .ref (ad 90)] ad τ 2 12 (fun v ad' τ' => v = some (.int (kCount C j x)) ∧ ((kCount C j x = 0 ∧ (ad' = ad) ∧ HH g ad' (Lv) (C) (rL g ρ f (cCount C (tn j) x).toInt64) τ') ∨ (¬ kCount C j x = 0 ∧ ad' = ad ∧ HH g ad Lv C ρ τ'))) (NoX) := by
  refine Sp.ofH 1 [some (.ref (ad 0)), some (.int j), some (.int x), some (.ref (ad 90)), none] (by decide +kernel) (Nat.le_of_ble_eq_true rfl) rfl ?_
  intro p e s m args below meth c A cx htab hr
  have hO := (H_lines hH hI).1
  refine a_aload_n cx dL_count_0 rfl rfl ?_
  refine a_iconst cx (v := 0) dL_count_1 (by decide) ?_
  refine a_aload_n cx dL_count_2 rfl rfl ?_
  refine a_iload_n cx dL_count_3 rfl rfl ?_
  refine a_iload_n cx dL_count_4 rfl rfl ?_
  refine a_callV cx 2 (sp_X3_count hH hI) hO rfl ml_L_80 im_X3_count se_X3_count ini_X3 cd_X3_count rfl rfl (by decide +kernel) rfl rfl ⟨(Nat.le_of_ble_eq_true rfl), (Nat.le_of_ble_eq_true rfl)⟩ (Nat.le_of_ble_eq_true rfl) dL_count_5 ⟨(Nat.le_of_ble_eq_true rfl), (Nat.le_of_ble_eq_true rfl)⟩ (fun E9 ad9 τ9 hX => ?_) (fun v9 ad9 τ9 hP => ?_)
  · obtain ⟨hk, h2, h3⟩ := hX
    replace h2 := h2.symm
    subst h2
    replace h3 := h3.symm
    subst h3
    rcases hk with ⟨hk, rfl⟩ | ⟨hk, rfl⟩
    · refine a_catch cx [] ⟨0, 10, 13, 20⟩ [⟨0, 10, 17, 13⟩] (htab.trans rfl) (fun z hz => by cases hz) (by decide) (by decide) cl_L_20 ca_IndexOutOfBoundsException_IndexOutOfBoundsException (fun q => ?_)
      refine a_astore4 cx dL_count_13 (by decide) (by intro w h; first | (cases h; rfl) | (cases h; assumption) | (cases h; done)) ?_
      refine a_iconst cx (v := 1) dL_count_15 (by decide) ?_
      exact a_iret cx hr dL_count_16 (Nat.le_of_ble_eq_true rfl) (Nat.le_of_ble_eq_true rfl) ⟨vI hk.symm, Or.inr ⟨by rw [hk]; decide, rfl, hH⟩⟩
    · refine a_catch cx [⟨0, 10, 13, 20⟩] ⟨0, 10, 17, 13⟩ [] (htab.trans rfl) (fun z hz => by rcases List.mem_cons.mp hz with rfl | hz; exact Or.inr ⟨by decide, _, cl_L_20, by decide +kernel⟩; cases hz) (by decide) (by decide) cl_L_13 ca_IllegalArgumentException_IllegalArgumentException (fun q => ?_)
      refine a_astore4 cx dL_count_17 (by decide) (by intro w h; first | (cases h; rfl) | (cases h; assumption) | (cases h; done)) ?_
      refine a_iconst cx (v := 2) dL_count_19 (by decide) ?_
      exact a_iret cx hr dL_count_20 (Nat.le_of_ble_eq_true rfl) (Nat.le_of_ble_eq_true rfl) ⟨vI hk.symm, Or.inr ⟨by rw [hk]; decide, rfl, hH⟩⟩
  obtain ⟨hk, rfl, h2, h3⟩ := hP
  replace h2 := h2.symm
  subst h2
  replace h3 := h3.symm
  subst h3
  have hH9 := hH
  have h9 := (hH9.2 90 (by decide)).trans hρ
  refine a_i2l cx dL_count_8 ?_
  refine a_lst cx (0) h9 (rfl) ((by decide)) (by decide)  dL_count_9 ?_
  refine a_goto cx (tgt := 21) dL_count_10 (by decide) ?_
  refine a_iconst cx (v := 0) dL_count_21 (by decide) ?_
  exact a_iret cx hr dL_count_22 (Nat.le_of_ble_eq_true rfl) (Nat.le_of_ble_eq_true rfl) ⟨vI hk.symm, Or.inl ⟨hk, rfl, hH9.rho (r := 90) (by decide) _⟩⟩

set_option maxHeartbeats 4000000 in
set_option maxRecDepth 100000 in
/-- wrapper: mostOwed -/
theorem sp_L_mostOwed {l : Launch} {g : GW} {ad : AD} {τ : RH} {Lv : Nat → Bool} {C : ME} {ρ : RH} {f : Nat → Int64}  (hH : HH g ad Lv C ρ τ) (hI : cI Lv C) (hρ : ρ 90 = some (lgO g f)) : Sp l g yL_mostOwed (.codeWith yL_mostOwed cL_mostOwed 3 (some .int) [(0, 8, 11, 47)]) (rmv 9 2 12) [.ref (ad 0), .ref (ad 90)] ad τ 2 12 (fun v ad' τ' => v = some (.int (kMost C)) ∧ ((kMost C = 0 ∧ (ad' = ad) ∧ HH g ad' (Lv) (C) (rL g ρ f (cMost C).toInt64) τ') ∨ (¬ kMost C = 0 ∧ ad' = ad ∧ HH g ad Lv C ρ τ'))) (NoX) := by
  refine Sp.ofH 1 [some (.ref (ad 0)), some (.ref (ad 90)), none] (by decide +kernel) (Nat.le_of_ble_eq_true rfl) rfl ?_
  intro p e s m args below meth c A cx htab hr
  have hO := (H_lines hH hI).1
  refine a_aload_n cx dL_mostOwed_0 rfl rfl ?_
  refine a_iconst cx (v := 0) dL_mostOwed_1 (by decide) ?_
  refine a_aload_n cx dL_mostOwed_2 rfl rfl ?_
  refine a_callV cx 0 (sp_X3_mostOwed hH hI) hO rfl ml_L_84 im_X3_mostOwed se_X3_mostOwed ini_X3 cd_X3_mostOwed rfl rfl (by decide +kernel) rfl rfl ⟨(Nat.le_of_ble_eq_true rfl), (Nat.le_of_ble_eq_true rfl)⟩ (Nat.le_of_ble_eq_true rfl) dL_mostOwed_3 ⟨(Nat.le_of_ble_eq_true rfl), (Nat.le_of_ble_eq_true rfl)⟩ (fun E9 ad9 τ9 hX => ?_) (fun v9 ad9 τ9 hP => ?_)
  · obtain ⟨hk, h2, h3⟩ := hX
    replace h2 := h2.symm
    subst h2
    replace h3 := h3.symm
    subst h3
    obtain ⟨hk, rfl⟩ := hk
    refine a_catch cx [] ⟨0, 8, 11, 47⟩ [] (htab.trans rfl) (fun z hz => by cases hz) (by decide) (by decide) cl_L_47 ca_NoSuchElementException_NoSuchElementException (fun q => ?_)
    refine a_astore_n2 cx dL_mostOwed_11 rfl (by decide) (by intro w h; first | (cases h; rfl) | (cases h; assumption) | (cases h; done)) ?_
    refine a_iconst cx (v := 1) dL_mostOwed_12 (by decide) ?_
    exact a_iret cx hr dL_mostOwed_13 (Nat.le_of_ble_eq_true rfl) (Nat.le_of_ble_eq_true rfl) ⟨vI hk.symm, Or.inr ⟨by rw [hk]; decide, rfl, hH⟩⟩
  obtain ⟨hk, rfl, h2, h3⟩ := hP
  replace h2 := h2.symm
  subst h2
  replace h3 := h3.symm
  subst h3
  have hH9 := hH
  have h9 := (hH9.2 90 (by decide)).trans hρ
  refine a_i2l cx dL_mostOwed_6 ?_
  refine a_lst cx (0) h9 (rfl) ((by decide)) (by decide)  dL_mostOwed_7 ?_
  refine a_goto cx (tgt := 14) dL_mostOwed_8 (by decide) ?_
  refine a_iconst cx (v := 0) dL_mostOwed_14 (by decide) ?_
  exact a_iret cx hr dL_mostOwed_15 (Nat.le_of_ble_eq_true rfl) (Nat.le_of_ble_eq_true rfl) ⟨vI hk.symm, Or.inl ⟨hk, rfl, hH9.rho (r := 90) (by decide) _⟩⟩

set_option maxHeartbeats 4000000 in
set_option maxRecDepth 100000 in
/-- wrapper: doneShare -/
theorem sp_L_doneShare {l : Launch} {g : GW} {ad : AD} {τ : RH} {Lv : Nat → Bool} {C : ME} {ρ : RH} {f : Nat → UInt64}  (hH : HH g ad Lv C ρ τ) (hI : cI Lv C) (hρ : ρ 91 = some (dbO g f)) (hn : ¬ cAllD C = 0 → vf_n32 (cShare C)) (hn2 : kShare C = 0 → vf_n64 (FP.f2d (cShare C))) : Sp l g yL_doneShare (.codeWith yL_doneShare cL_doneShare 3 (some .int) [(0, 8, 11, 92)]) (rmv 9 2 12) [.ref (ad 0), .ref (ad 91)] ad τ 2 12 (fun v ad' τ' => v = some (.int (kShare C)) ∧ ((kShare C = 0 ∧ (ad' = ad) ∧ HH g ad' (Lv) (C) (rD g ρ f (FP.f2d (cShare C))) τ') ∨ (¬ kShare C = 0 ∧ ad' = ad ∧ HH g ad Lv C ρ τ'))) (NoX) := by
  refine Sp.ofH 1 [some (.ref (ad 0)), some (.ref (ad 91)), none] (by decide +kernel) (Nat.le_of_ble_eq_true rfl) rfl ?_
  intro p e s m args below meth c A cx htab hr
  have hO := (H_lines hH hI).1
  refine a_aload_n cx dL_doneShare_0 rfl rfl ?_
  refine a_iconst cx (v := 0) dL_doneShare_1 (by decide) ?_
  refine a_aload_n cx dL_doneShare_2 rfl rfl ?_
  refine a_callV cx 0 (sp_X3_doneShare hH hI hn) hO rfl ml_L_88 im_X3_doneShare se_X3_doneShare ini_X3 cd_X3_doneShare rfl rfl (by decide +kernel) rfl rfl ⟨(Nat.le_of_ble_eq_true rfl), (Nat.le_of_ble_eq_true rfl)⟩ (Nat.le_of_ble_eq_true rfl) dL_doneShare_3 ⟨(Nat.le_of_ble_eq_true rfl), (Nat.le_of_ble_eq_true rfl)⟩ (fun E9 ad9 τ9 hX => ?_) (fun v9 ad9 τ9 hP => ?_)
  · obtain ⟨hk, h2, h3⟩ := hX
    replace h2 := h2.symm
    subst h2
    replace h3 := h3.symm
    subst h3
    obtain ⟨hk, rfl⟩ := hk
    refine a_catch cx [] ⟨0, 8, 11, 92⟩ [] (htab.trans rfl) (fun z hz => by cases hz) (by decide) (by decide) cl_L_92 ca_ArithmeticException_ArithmeticException (fun q => ?_)
    refine a_astore_n2 cx dL_doneShare_11 rfl (by decide) (by intro w h; first | (cases h; rfl) | (cases h; assumption) | (cases h; done)) ?_
    refine a_iconst cx (v := 1) dL_doneShare_12 (by decide) ?_
    exact a_iret cx hr dL_doneShare_13 (Nat.le_of_ble_eq_true rfl) (Nat.le_of_ble_eq_true rfl) ⟨vI hk.symm, Or.inr ⟨by rw [hk]; decide, rfl, hH⟩⟩
  obtain ⟨hk, rfl, h2, h3⟩ := hP
  replace h2 := h2.symm
  subst h2
  replace h3 := h3.symm
  subst h3
  have hH9 := hH
  have h9 := (hH9.2 91 (by decide)).trans hρ
  refine a_f2d cx dL_doneShare_6 (hn2 hk) ?_
  refine a_dst cx (0) h9 (rfl) ((by decide)) (by decide)  dL_doneShare_7 ?_
  refine a_goto cx (tgt := 14) dL_doneShare_8 (by decide) ?_
  refine a_iconst cx (v := 0) dL_doneShare_14 (by decide) ?_
  exact a_iret cx hr dL_doneShare_15 (Nat.le_of_ble_eq_true rfl) (Nat.le_of_ble_eq_true rfl) ⟨vI hk.symm, Or.inl ⟨hk, rfl, hH9.rho (r := 91) (by decide) _⟩⟩

set_option maxHeartbeats 4000000 in
set_option maxRecDepth 100000 in
/-- wrapper: meanScore -/
theorem sp_L_meanScore {l : Launch} {g : GW} {ad : AD} {τ : RH} {Lv : Nat → Bool} {C : ME} {ρ : RH} {f : Nat → UInt64}  (hH : HH g ad Lv C ρ τ) (hI : cI Lv C) (hρ : ρ 91 = some (dbO g f)) (hn : ¬ cNum C = 0 → vf_n64 (cMean C)) : Sp l g yL_meanScore (.codeWith yL_meanScore cL_meanScore 3 (some .int) [(0, 7, 10, 92)]) (rmv 9 2 12) [.ref (ad 0), .ref (ad 91)] ad τ 2 12 (fun v ad' τ' => v = some (.int (kMean C)) ∧ ((kMean C = 0 ∧ (ad' = ad) ∧ HH g ad' (Lv) (C) (rD g ρ f (cMean C)) τ') ∨ (¬ kMean C = 0 ∧ ad' = ad ∧ HH g ad Lv C ρ τ'))) (NoX) := by
  refine Sp.ofH 1 [some (.ref (ad 0)), some (.ref (ad 91)), none] (by decide +kernel) (Nat.le_of_ble_eq_true rfl) rfl ?_
  intro p e s m args below meth c A cx htab hr
  have hO := (H_lines hH hI).1
  refine a_aload_n cx dL_meanScore_0 rfl rfl ?_
  refine a_iconst cx (v := 0) dL_meanScore_1 (by decide) ?_
  refine a_aload_n cx dL_meanScore_2 rfl rfl ?_
  refine a_callV cx 0 (sp_X3_meanScore hH hI hn) hO rfl ml_L_94 im_X3_meanScore se_X3_meanScore ini_X3 cd_X3_meanScore rfl rfl (by decide +kernel) rfl rfl ⟨(Nat.le_of_ble_eq_true rfl), (Nat.le_of_ble_eq_true rfl)⟩ (Nat.le_of_ble_eq_true rfl) dL_meanScore_3 ⟨(Nat.le_of_ble_eq_true rfl), (Nat.le_of_ble_eq_true rfl)⟩ (fun E9 ad9 τ9 hX => ?_) (fun v9 ad9 τ9 hP => ?_)
  · obtain ⟨hk, h2, h3⟩ := hX
    replace h2 := h2.symm
    subst h2
    replace h3 := h3.symm
    subst h3
    obtain ⟨hk, rfl⟩ := hk
    refine a_catch cx [] ⟨0, 7, 10, 92⟩ [] (htab.trans rfl) (fun z hz => by cases hz) (by decide) (by decide) cl_L_92 ca_ArithmeticException_ArithmeticException (fun q => ?_)
    refine a_astore_n2 cx dL_meanScore_10 rfl (by decide) (by intro w h; first | (cases h; rfl) | (cases h; assumption) | (cases h; done)) ?_
    refine a_iconst cx (v := 1) dL_meanScore_11 (by decide) ?_
    exact a_iret cx hr dL_meanScore_12 (Nat.le_of_ble_eq_true rfl) (Nat.le_of_ble_eq_true rfl) ⟨vI hk.symm, Or.inr ⟨by rw [hk]; decide, rfl, hH⟩⟩
  obtain ⟨hk, rfl, h2, h3⟩ := hP
  replace h2 := h2.symm
  subst h2
  replace h3 := h3.symm
  subst h3
  have hH9 := hH
  have h9 := (hH9.2 91 (by decide)).trans hρ
  refine a_dst cx (0) h9 (rfl) ((by decide)) (by decide)  dL_meanScore_6 ?_
  refine a_goto cx (tgt := 13) dL_meanScore_7 (by decide) ?_
  refine a_iconst cx (v := 0) dL_meanScore_13 (by decide) ?_
  exact a_iret cx hr dL_meanScore_14 (Nat.le_of_ble_eq_true rfl) (Nat.le_of_ble_eq_true rfl) ⟨vI hk.symm, Or.inl ⟨hk, rfl, hH9.rho (r := 91) (by decide) _⟩⟩

