def kSetRate (C : ME) (b u : Int32) : Int32 := if okL C b then (if win u 0 99 then (0) else 2) else 1
set_option maxHeartbeats 4000000 in
set_option maxRecDepth 100000 in
/-- setRate -/
theorem sp_X3_setRate {l : Launch} {g : GW} {ad : AD} {τ : RH} {Lv : Nat → Bool} {C : ME} {ρ : RH} {b u : Int32} (hH : HH g ad Lv C ρ τ) (hI : cI Lv C) : Sp l g yX3_setRate (.code yX3_setRate cX3_setRate 5 (some .int)) (rmv 8 2 12) [.ref (ad 0), .int b, .int u] ad τ 2 12 (fun v ad' τ' => kSetRate C b u = 0 ∧ v = some (.int (C (10 + 10 * tn b) 7)) ∧ ad' = ad ∧ HH g ad Lv (up2 C (10 + 10 * tn b) 7 u) ρ τ') (fun E ad' τ' => ((kSetRate C b u = 1 ∧ E = "java/lang/IndexOutOfBoundsException") ∨ (kSetRate C b u = 2 ∧ E = "java/lang/IllegalArgumentException")) ∧ ad' = ad ∧ τ' = τ) := by
  refine Sp.of 2 [some (.ref (ad 0)), some (.int b), some (.int u), none, none] (by decide +kernel) (Nat.le_of_ble_eq_true rfl) rfl ?_
  intro p e s m args below meth c A cx hout hr hnm
  have hO := (H_lines hH hI).1
  refine a_aload_n cx dX3_setRate_0 rfl rfl ?_
  refine a_iload_n cx dX3_setRate_1 rfl rfl ?_
  refine a_callV cx 1 (sp_X3_beamlineNumbered (b := b) hH hI) hO rfl ml_X3_61 im_X3_beamlineNumbered se_X3_beamlineNumbered ini_X3 cd_X3_beamlineNumbered rfl rfl (by decide +kernel) rfl rfl ⟨(Nat.le_of_ble_eq_true rfl), (Nat.le_of_ble_eq_true rfl)⟩ (Nat.le_of_ble_eq_true rfl) dX3_setRate_2 ⟨(Nat.le_of_ble_eq_true rfl), (Nat.le_of_ble_eq_true rfl)⟩ (fun E9 ad9 τ9 hX => a_out cx hout (Nat.le_of_ble_eq_true rfl) (Nat.le_of_ble_eq_true rfl) (⟨Or.inl ⟨(by unfold kSetRate; rw [if_neg (hX.1)]), hX.2.1⟩, hX.2.2.1, hX.2.2.2⟩)) (fun v9 ad9 τ9 hP => ?_)
  obtain ⟨hok, rfl, h2, h3⟩ := hP
  replace h2 := h2.symm
  subst h2
  replace h3 := h3.symm
  subst h3
  have hb := (okL_ix hI hok).2
  have hB := H_beam hH hI hb
  obtain ⟨hL, hb2⟩ := cI_lin hI hb
  refine a_astore_n3 cx dX3_setRate_5 rfl (by decide) (by intro w h; first | (cases h; rfl) | (cases h; assumption) | (cases h; done)) ?_
  refine a_iload_n cx dX3_setRate_6 rfl rfl ?_
  refine a_iconst cx (v := 0) dX3_setRate_7 (by decide) ?_
  refine a_bipush cx (v := 99) dX3_setRate_8 (by decide) ?_
  refine a_callS cx 3 (sp_X3_isWithin (x := u) (lo := 0) (hi := 99)) ml_X3_30 st_X3_isWithin ini_X3 cd_X3_isWithin rfl rfl (by decide +kernel) rfl rfl ⟨(Nat.le_of_ble_eq_true rfl), (Nat.le_of_ble_eq_true rfl)⟩ (Nat.le_of_ble_eq_true rfl) dX3_setRate_10 ⟨(Nat.le_of_ble_eq_true rfl), (Nat.le_of_ble_eq_true rfl)⟩ (fun _ _ _ h => h.elim) (fun v9 ad9 τ9 hP => ?_)
  obtain ⟨⟨w10, rfl, hw10⟩, h2, h3⟩ := hP
  replace h2 := h2.symm
  subst h2
  replace h3 := h3.symm
  subst h3
  replace hw10 := win_if hw10
  refine a_if_ne cx (tgt := 26) dX3_setRate_13 (by decide) (fun c_13 => ?_) (fun c_13 => ?_)
  · refine a_aload_n cx dX3_setRate_26 rfl rfl ?_
    refine gf_X3_67 cx hB dX3_setRate_27 ?_
    refine a_istore4 cx dX3_setRate_30 (by decide) (by intro w h; first | (cases h; rfl) | (cases h; assumption) | (cases h; done)) ?_
    refine a_aload_n cx dX3_setRate_32 rfl rfl ?_
    refine a_iload_n cx dX3_setRate_33 rfl rfl ?_
    refine pf_X3_67 cx hB dX3_setRate_34 ?_
    refine a_iload cx dX3_setRate_37 rfl ?_
    exact a_iret cx hr dX3_setRate_39 (Nat.le_of_ble_eq_true rfl) (Nat.le_of_ble_eq_true rfl) ⟨(by unfold kSetRate; rw [if_pos (hok), if_pos (hw10.2 c_13)]), rfl, rfl, hH.beam hb2 hL.1 7 _ rfl⟩
  · exact a_throw cx "the rate is out of range" ["java/lang/RuntimeException", "java/lang/Exception"] hout (by decide +kernel) fit_names cl_X3_34 ini_IllegalArgumentException th_38.1 th_38.2 (by decide +kernel) dX3_setRate_16 dX3_setRate_19 dX3_setRate_20 dX3_setRate_22 dX3_setRate_25 (Nat.le_of_ble_eq_true rfl) (Nat.le_of_ble_eq_true rfl) (Nat.le_of_ble_eq_true rfl) (Nat.le_of_ble_eq_true rfl) (Nat.le_of_ble_eq_true rfl) (Nat.le_of_ble_eq_true rfl) ⟨Or.inr (⟨(by unfold kSetRate; rw [if_pos (hok), if_neg (hw10.1 c_13)]), rfl⟩), rfl, rfl⟩

def kReserve (C : ME) (b : Int32) : Int32 := if okL C b then (if ¬ C (10 + 10 * tn b) 9 = 0 then (0) else 2) else 1
set_option maxHeartbeats 4000000 in
set_option maxRecDepth 100000 in
/-- reserve -/
theorem sp_X3_reserve {l : Launch} {g : GW} {ad : AD} {τ : RH} {Lv : Nat → Bool} {C : ME} {ρ : RH} {b : Int32} (hH : HH g ad Lv C ρ τ) (hI : cI Lv C) : Sp l g yX3_reserve (.code yX3_reserve cX3_reserve 3 (some .int)) (rmv 8 2 12) [.ref (ad 0), .int b] ad τ 2 12 (fun v ad' τ' => kReserve C b = 0 ∧ v = some (.int (C (13 + 10 * tn b) 2)) ∧ ad' = ad ∧ τ' = τ) (fun E ad' τ' => ((kReserve C b = 1 ∧ E = "java/lang/IndexOutOfBoundsException") ∨ (kReserve C b = 2 ∧ E = "java/lang/IllegalStateException")) ∧ ad' = ad ∧ τ' = τ) := by
  refine Sp.of 1 [some (.ref (ad 0)), some (.int b), none] (by decide +kernel) (Nat.le_of_ble_eq_true rfl) rfl ?_
  intro p e s m args below meth c A cx hout hr hnm
  have hO := (H_lines hH hI).1
  refine a_aload_n cx dX3_reserve_0 rfl rfl ?_
  refine a_iload_n cx dX3_reserve_1 rfl rfl ?_
  refine a_callV cx 1 (sp_X3_beamlineNumbered (b := b) hH hI) hO rfl ml_X3_61 im_X3_beamlineNumbered se_X3_beamlineNumbered ini_X3 cd_X3_beamlineNumbered rfl rfl (by decide +kernel) rfl rfl ⟨(Nat.le_of_ble_eq_true rfl), (Nat.le_of_ble_eq_true rfl)⟩ (Nat.le_of_ble_eq_true rfl) dX3_reserve_2 ⟨(Nat.le_of_ble_eq_true rfl), (Nat.le_of_ble_eq_true rfl)⟩ (fun E9 ad9 τ9 hX => a_out cx hout (Nat.le_of_ble_eq_true rfl) (Nat.le_of_ble_eq_true rfl) (⟨Or.inl ⟨(by unfold kReserve; rw [if_neg (hX.1)]), hX.2.1⟩, hX.2.2.1, hX.2.2.2⟩)) (fun v9 ad9 τ9 hP => ?_)
  obtain ⟨hok, rfl, h2, h3⟩ := hP
  replace h2 := h2.symm
  subst h2
  replace h3 := h3.symm
  subst h3
  have hb := (okL_ix hI hok).2
  have hB := H_beam hH hI hb
  obtain ⟨hL, hb2⟩ := cI_lin hI hb
  refine a_astore_n2 cx dX3_reserve_5 rfl (by decide) (by intro w h; first | (cases h; rfl) | (cases h; assumption) | (cases h; done)) ?_
  refine a_aload_n cx dX3_reserve_6 rfl rfl ?_
  refine gf_X3_78 cx hB dX3_reserve_7 ?_
  refine a_if_ne cx (tgt := 23) dX3_reserve_10 (by decide) (fun c_10 => ?_) (fun c_10 => ?_)
  · have hK := H_kept' hH hI hb
    refine a_aload_n cx dX3_reserve_23 rfl rfl ?_
    refine gf_X3_100 cx hB dX3_reserve_24 ?_
    refine gf_X3_104 cx hK.1 dX3_reserve_27 ?_
    exact a_iret cx hr dX3_reserve_30 (Nat.le_of_ble_eq_true rfl) (Nat.le_of_ble_eq_true rfl) ⟨(by unfold kReserve; rw [if_pos (hok), if_pos (c_10)]), rfl, rfl, rfl⟩
  · exact a_throw cx "the panel has not met" ["java/lang/RuntimeException", "java/lang/Exception"] hout (by decide +kernel) fit_names cl_X3_47 ini_IllegalStateException th_51.1 th_51.2 (by decide +kernel) dX3_reserve_13 dX3_reserve_16 dX3_reserve_17 dX3_reserve_19 dX3_reserve_22 (Nat.le_of_ble_eq_true rfl) (Nat.le_of_ble_eq_true rfl) (Nat.le_of_ble_eq_true rfl) (Nat.le_of_ble_eq_true rfl) (Nat.le_of_ble_eq_true rfl) (Nat.le_of_ble_eq_true rfl) ⟨Or.inr (⟨(by unfold kReserve; rw [if_pos (hok), if_neg (fun h => h c_10)]), rfl⟩), rfl, rfl⟩

def kThere (u : Int32) : Int32 := if ¬ u < 0 ∧ ¬ nI 10 ≤ u then (0) else 1
theorem ten_ix {u : Int32} (h0 : ¬ u < 0) (h1 : u < nI 10) : u = nI (tn u) ∧ tn u < 10 := ix_lt' h0 h1 (by decide)
theorem H_there {g : GW} {ad : AD} {Lv : Nat → Bool} {C : ME} {ρ τ : RH} (hH : HH g ad Lv C ρ τ) (hI : cI Lv C) : τ 5 = some (arZ g 10 (C 5)) ∧ τ 6 = some (arZ g 10 (C 6)) := ⟨hH.at (by decide) hI.2.2.2.1, hH.at (by decide) hI.2.2.2.2.1⟩
theorem not_nar {x : Int32} (h : x = 0 ∨ x = 1) : vp_nar .boolean x = x := by rcases h with rfl | rfl <;> decide
set_option maxHeartbeats 4000000 in
set_option maxRecDepth 100000 in
/-- setThere -/
theorem sp_X3_setThere {l : Launch} {g : GW} {ad : AD} {τ : RH} {Lv : Nat → Bool} {C : ME} {ρ : RH} {u z : Int32} (hH : HH g ad Lv C ρ τ) (hI : cI Lv C) (hz : z = 0 ∨ z = 1) (h6 : ∀ i, C 6 i = 0 ∨ C 6 i = 1) : Sp l g yX3_setThere (.code yX3_setThere cX3_setThere 4 (some .boolean)) (rmv 8 2 12) [.ref (ad 0), .int u, .int z] ad τ 2 12 (fun v ad' τ' => kThere u = 0 ∧ v = some (.int (C 6 (tn u))) ∧ ad' = ad ∧ HH g ad Lv (up2 C 6 (tn u) z) ρ τ') (fun E ad' τ' => ((kThere u = 1 ∧ E = "java/lang/IndexOutOfBoundsException")) ∧ ad' = ad ∧ τ' = τ) := by
  refine Sp.of 1 [some (.ref (ad 0)), some (.int u), some (.int z), none] (by decide +kernel) (Nat.le_of_ble_eq_true rfl) rfl ?_
  intro p e s m args below meth c A cx hout hr hnm
  have hO := (H_lines hH hI).1
  have hT := H_there hH hI
  refine a_iload_n cx dX3_setThere_0 rfl rfl ?_
  refine a_if_lt cx (tgt := 13) dX3_setThere_1 (by decide) (fun c_1 => ?_) (fun c_1 => ?_)
  · exact a_throw cx "no such user" ["java/lang/RuntimeException", "java/lang/Exception"] hout (by decide +kernel) fit_names cl_X3_109 ini_IndexOutOfBoundsException th_113.1 th_113.2 (by decide +kernel) dX3_setThere_13 dX3_setThere_16 dX3_setThere_17 dX3_setThere_19 dX3_setThere_22 (Nat.le_of_ble_eq_true rfl) (Nat.le_of_ble_eq_true rfl) (Nat.le_of_ble_eq_true rfl) (Nat.le_of_ble_eq_true rfl) (Nat.le_of_ble_eq_true rfl) (Nat.le_of_ble_eq_true rfl) ⟨⟨(by unfold kThere; rw [if_neg (fun h => h.1 c_1)]), rfl⟩, rfl, rfl⟩
  · refine a_iload_n cx dX3_setThere_4 rfl rfl ?_
    refine a_aload_n cx dX3_setThere_5 rfl rfl ?_
    refine gf_X3_23 cx hO dX3_setThere_6 ?_
    refine a_alen cx 2 hT.2 rfl rfl dX3_setThere_9 ?_
    refine a_icmp_lt cx (tgt := 23) dX3_setThere_10 (by decide) (fun c_10 => ?_) (fun c_10 => ?_)
    · refine a_aload_n cx dX3_setThere_23 rfl rfl ?_
      refine gf_X3_23 cx hO dX3_setThere_24 ?_
      refine a_iload_n cx dX3_setThere_27 rfl rfl ?_
      refine a_zld cx (tn u) hT.2 ((ten_ix c_1 c_10).1) ((ten_ix c_1 c_10).2) (by decide) dX3_setThere_28 ?_
      refine a_istore_n3 cx dX3_setThere_29 rfl (by decide) (by intro w h; first | (cases h; rfl) | (cases h; assumption) | (cases h; done)) ?_
      refine a_aload_n cx dX3_setThere_30 rfl rfl ?_
      refine gf_X3_23 cx hO dX3_setThere_31 ?_
      refine a_iload_n cx dX3_setThere_34 rfl rfl ?_
      refine a_iload_n cx dX3_setThere_35 rfl rfl ?_
      refine a_zst cx (tn u) hT.2 ((ten_ix c_1 c_10).1) ((ten_ix c_1 c_10).2) (by decide) (not_nar hz) dX3_setThere_36 ?_
      refine a_iload_n cx dX3_setThere_37 rfl rfl ?_
      exact a_zret cx hr dX3_setThere_38 (by rcases h6 (tn u) with q | q <;> rw [q] <;> rfl) (Nat.le_of_ble_eq_true rfl) (Nat.le_of_ble_eq_true rfl) ⟨(by unfold kThere; rw [if_pos (⟨c_1, fun h => lt_ge c_10 h⟩)]), rfl, rfl, hH.put (r := 6) (tn u) z (by decide) hI.2.2.2.2.1 rfl⟩
    · exact a_throw cx "no such user" ["java/lang/RuntimeException", "java/lang/Exception"] hout (by decide +kernel) fit_names cl_X3_109 ini_IndexOutOfBoundsException th_113.1 th_113.2 (by decide +kernel) dX3_setThere_13 dX3_setThere_16 dX3_setThere_17 dX3_setThere_19 dX3_setThere_22 (Nat.le_of_ble_eq_true rfl) (Nat.le_of_ble_eq_true rfl) (Nat.le_of_ble_eq_true rfl) (Nat.le_of_ble_eq_true rfl) (Nat.le_of_ble_eq_true rfl) (Nat.le_of_ble_eq_true rfl) ⟨⟨(by unfold kThere; rw [if_neg (fun h => c_10 (le_gt h.2))]), rfl⟩, rfl, rfl⟩

def kBring (C : ME) (j x : Int32) : Int32 := if okP C j then (if win x 1 50 then (0) else 2) else 1
set_option maxHeartbeats 4000000 in
set_option maxRecDepth 100000 in
/-- bring -/
theorem sp_X3_bring {l : Launch} {g : GW} {ad : AD} {τ : RH} {Lv : Nat → Bool} {C : ME} {ρ : RH} {j x : Int32} (hH : HH g ad Lv C ρ τ) (hI : cI Lv C) : Sp l g yX3_bring (.code yX3_bring cX3_bring 5 (some .int)) (rmv 8 2 12) [.ref (ad 0), .int j, .int x] ad τ 2 12 (fun v ad' τ' => kBring C j x = 0 ∧ v = some (.int (C (40 + tn j) 7)) ∧ ad' = ad ∧ HH g ad Lv (va_up C (40 + tn j) (va_up (va_up (C (40 + tn j)) 7 x) 8 114)) ρ τ') (fun E ad' τ' => ((kBring C j x = 1 ∧ E = "java/lang/IndexOutOfBoundsException") ∨ (kBring C j x = 2 ∧ E = "java/lang/IllegalArgumentException")) ∧ ad' = ad ∧ τ' = τ) := by
  refine Sp.of 2 [some (.ref (ad 0)), some (.int j), some (.int x), none, none] (by decide +kernel) (Nat.le_of_ble_eq_true rfl) rfl ?_
  intro p e s m args below meth c A cx hout hr hnm
  have hO := (H_lines hH hI).1
  refine a_aload_n cx dX3_bring_0 rfl rfl ?_
  refine a_iload_n cx dX3_bring_1 rfl rfl ?_
  refine a_callV cx 1 (sp_X3_proposalNumbered (b := j) hH hI) hO rfl ml_X3_116 im_X3_proposalNumbered se_X3_proposalNumbered ini_X3 cd_X3_proposalNumbered rfl rfl (by decide +kernel) rfl rfl ⟨(Nat.le_of_ble_eq_true rfl), (Nat.le_of_ble_eq_true rfl)⟩ (Nat.le_of_ble_eq_true rfl) dX3_bring_2 ⟨(Nat.le_of_ble_eq_true rfl), (Nat.le_of_ble_eq_true rfl)⟩ (fun E9 ad9 τ9 hX => a_out cx hout (Nat.le_of_ble_eq_true rfl) (Nat.le_of_ble_eq_true rfl) (⟨Or.inl ⟨(by unfold kBring; rw [if_neg (hX.1)]), hX.2.1⟩, hX.2.2.1, hX.2.2.2⟩)) (fun v9 ad9 τ9 hP => ?_)
  obtain ⟨hok, rfl, h2, h3⟩ := hP
  replace h2 := h2.symm
  subst h2
  replace h3 := h3.symm
  subst h3
  have hj := (okP_ix hI hok).2
  have hP := H_prop2 hH hI hj
  obtain ⟨hLj, hj8⟩ := cI_prp hI hj
  refine a_astore_n3 cx dX3_bring_5 rfl (by decide) (by intro w h; first | (cases h; rfl) | (cases h; assumption) | (cases h; done)) ?_
  refine a_iload_n cx dX3_bring_6 rfl rfl ?_
  refine a_iconst cx (v := 1) dX3_bring_7 (by decide) ?_
  refine a_bipush cx (v := 50) dX3_bring_8 (by decide) ?_
  refine a_callS cx 3 (sp_X3_isWithin (x := x) (lo := 1) (hi := 50)) ml_X3_30 st_X3_isWithin ini_X3 cd_X3_isWithin rfl rfl (by decide +kernel) rfl rfl ⟨(Nat.le_of_ble_eq_true rfl), (Nat.le_of_ble_eq_true rfl)⟩ (Nat.le_of_ble_eq_true rfl) dX3_bring_10 ⟨(Nat.le_of_ble_eq_true rfl), (Nat.le_of_ble_eq_true rfl)⟩ (fun _ _ _ h => h.elim) (fun v9 ad9 τ9 hP => ?_)
  obtain ⟨⟨w10, rfl, hw10⟩, h2, h3⟩ := hP
  replace h2 := h2.symm
  subst h2
  replace h3 := h3.symm
  subst h3
  replace hw10 := win_if hw10
  refine a_if_ne cx (tgt := 26) dX3_bring_13 (by decide) (fun c_13 => ?_) (fun c_13 => ?_)
  · refine a_aload_n cx dX3_bring_26 rfl rfl ?_
    refine gf_X3_122 cx hP dX3_bring_27 ?_
    refine a_istore4 cx dX3_bring_30 (by decide) (by intro w h; first | (cases h; rfl) | (cases h; assumption) | (cases h; done)) ?_
    refine a_aload_n cx dX3_bring_32 rfl rfl ?_
    refine a_iload_n cx dX3_bring_33 rfl rfl ?_
    refine pf_X3_122 cx hP dX3_bring_34 ?_
    have hP := va_up_self τ (40 + tn j) (some (prO (C (40 + tn j) 0) (.ref (ad (10 + 10 * tn (C (40 + tn j) 1)))) (C (40 + tn j) 2) (C (40 + tn j) 3) (C (40 + tn j) 4) (C (40 + tn j) 5) (C (40 + tn j) 6) x (C (40 + tn j) 8) (C (40 + tn j) 9) (C (40 + tn j) 10) (C (40 + tn j) 11) (C (40 + tn j) 12)))
    refine a_aload_n cx dX3_bring_37 rfl rfl ?_
    refine a_bipush cx (v := 114) dX3_bring_38 (by decide) ?_
    refine pf_X3_125 cx hP (by first | exact ⟨by decide +kernel, by decide +kernel⟩ | assumption) dX3_bring_40 ?_
    refine a_iload cx dX3_bring_43 rfl ?_
    exact a_iret cx hr dX3_bring_45 (Nat.le_of_ble_eq_true rfl) (Nat.le_of_ble_eq_true rfl) ⟨(by unfold kBring; rw [if_pos (hok), if_pos (hw10.2 c_13)]), rfl, rfl, by rw [up_up]; exact hH.prop hj8 hLj.1 (w := va_up (va_up (C (40 + tn j)) 7 x) 8 114) rfl⟩
  · exact a_throw cx "the life is out of range" ["java/lang/RuntimeException", "java/lang/Exception"] hout (by decide +kernel) fit_names cl_X3_34 ini_IllegalArgumentException th_38.1 th_38.2 (by decide +kernel) dX3_bring_16 dX3_bring_19 dX3_bring_20 dX3_bring_22 dX3_bring_25 (Nat.le_of_ble_eq_true rfl) (Nat.le_of_ble_eq_true rfl) (Nat.le_of_ble_eq_true rfl) (Nat.le_of_ble_eq_true rfl) (Nat.le_of_ble_eq_true rfl) (Nat.le_of_ble_eq_true rfl) ⟨Or.inr (⟨(by unfold kBring; rw [if_pos (hok), if_neg (hw10.1 c_13)]), rfl⟩), rfl, rfl⟩

def kLife (C : ME) (j : Int32) : Int32 := if okP C j then (if ¬ C (40 + tn j) 7 = -1 then (0) else 2) else 1
set_option maxHeartbeats 4000000 in
set_option maxRecDepth 100000 in
/-- life -/
theorem sp_X3_life {l : Launch} {g : GW} {ad : AD} {τ : RH} {Lv : Nat → Bool} {C : ME} {ρ : RH} {j : Int32} (hH : HH g ad Lv C ρ τ) (hI : cI Lv C) : Sp l g yX3_life (.code yX3_life cX3_life 3 (some .int)) (rmv 8 2 12) [.ref (ad 0), .int j] ad τ 2 12 (fun v ad' τ' => kLife C j = 0 ∧ v = some (.int (C (40 + tn j) 7)) ∧ ad' = ad ∧ τ' = τ) (fun E ad' τ' => ((kLife C j = 1 ∧ E = "java/lang/IndexOutOfBoundsException") ∨ (kLife C j = 2 ∧ E = "java/util/NoSuchElementException")) ∧ ad' = ad ∧ τ' = τ) := by
  refine Sp.of 1 [some (.ref (ad 0)), some (.int j), none] (by decide +kernel) (Nat.le_of_ble_eq_true rfl) rfl ?_
  intro p e s m args below meth c A cx hout hr hnm
  have hO := (H_lines hH hI).1
  refine a_aload_n cx dX3_life_0 rfl rfl ?_
  refine a_iload_n cx dX3_life_1 rfl rfl ?_
  refine a_callV cx 1 (sp_X3_proposalNumbered (b := j) hH hI) hO rfl ml_X3_116 im_X3_proposalNumbered se_X3_proposalNumbered ini_X3 cd_X3_proposalNumbered rfl rfl (by decide +kernel) rfl rfl ⟨(Nat.le_of_ble_eq_true rfl), (Nat.le_of_ble_eq_true rfl)⟩ (Nat.le_of_ble_eq_true rfl) dX3_life_2 ⟨(Nat.le_of_ble_eq_true rfl), (Nat.le_of_ble_eq_true rfl)⟩ (fun E9 ad9 τ9 hX => a_out cx hout (Nat.le_of_ble_eq_true rfl) (Nat.le_of_ble_eq_true rfl) (⟨Or.inl ⟨(by unfold kLife; rw [if_neg (hX.1)]), hX.2.1⟩, hX.2.2.1, hX.2.2.2⟩)) (fun v9 ad9 τ9 hP => ?_)
  obtain ⟨hok, rfl, h2, h3⟩ := hP
  replace h2 := h2.symm
  subst h2
  replace h3 := h3.symm
  subst h3
  have hj := (okP_ix hI hok).2
  have hP := H_prop2 hH hI hj
  obtain ⟨hLj, hj8⟩ := cI_prp hI hj
  refine a_astore_n2 cx dX3_life_5 rfl (by decide) (by intro w h; first | (cases h; rfl) | (cases h; assumption) | (cases h; done)) ?_
  refine a_aload_n cx dX3_life_6 rfl rfl ?_
  refine a_callV cx 0 (sp_X2_hasSample hP) hP rfl ml_X3_131 im_X2_hasSample se_X2_hasSample ini_X2 cd_X2_hasSample rfl rfl (by decide +kernel) rfl rfl ⟨(Nat.le_of_ble_eq_true rfl), (Nat.le_of_ble_eq_true rfl)⟩ (Nat.le_of_ble_eq_true rfl) dX3_life_7 ⟨(Nat.le_of_ble_eq_true rfl), (Nat.le_of_ble_eq_true rfl)⟩ (fun _ _ _ h => h.elim) (fun v9 ad9 τ9 hP => ?_)
  obtain ⟨rfl, h2, h3⟩ := hP
  replace h2 := h2.symm
  subst h2
  replace h3 := h3.symm
  subst h3
  refine a_if_ne cx (tgt := 23) dX3_life_10 (by decide) (fun c_10 => ?_) (fun c_10 => ?_)
  · refine a_aload_n cx dX3_life_23 rfl rfl ?_
    refine gf_X3_122 cx hP dX3_life_24 ?_
    exact a_iret cx hr dX3_life_27 (Nat.le_of_ble_eq_true rfl) (Nat.le_of_ble_eq_true rfl) ⟨(by unfold kLife; rw [if_pos (hok), if_pos (i10_1 c_10)]), rfl, rfl, rfl⟩
  · exact a_throwN cx "no sample" hout (by decide +kernel) dX3_life_13 dX3_life_16 dX3_life_17 dX3_life_19 dX3_life_22 (Nat.le_of_ble_eq_true rfl) (Nat.le_of_ble_eq_true rfl) (Nat.le_of_ble_eq_true rfl) (Nat.le_of_ble_eq_true rfl) (Nat.le_of_ble_eq_true rfl) (Nat.le_of_ble_eq_true rfl) ⟨Or.inr (⟨(by unfold kLife; rw [if_pos (hok), if_neg (i10_0 c_10)]), rfl⟩), rfl, rfl⟩

set_option maxHeartbeats 4000000 in
set_option maxRecDepth 100000 in
/-- time -/
theorem sp_X3_time {l : Launch} {g : GW} {ad : AD} {τ : RH} {Lv : Nat → Bool} {C : ME} {ρ : RH} (hH : HH g ad Lv C ρ τ) (hI : cI Lv C) : Sp l g yX3_time (.code yX3_time cX3_time 1 (some .int)) (rmv 8 0 0) [.ref (ad 0)] ad τ 0 0 (fun v ad' τ' => v = some (.int (C 0 4)) ∧ ad' = ad ∧ τ' = τ) (NoX) := by
  refine Sp.of 0 [some (.ref (ad 0))] (by decide +kernel) (Nat.le_of_ble_eq_true rfl) rfl ?_
  intro p e s m args below meth c A cx hout hr hnm
  have hO := (H_lines hH hI).1
  refine a_aload_n cx dX3_time_0 rfl rfl ?_
  refine gf_X3_26 cx hO dX3_time_1 ?_
  exact a_iret cx hr dX3_time_4 (Nat.le_of_ble_eq_true rfl) (Nat.le_of_ble_eq_true rfl) ⟨rfl, rfl, rfl⟩

def kLine (C : ME) (b : Int32) : Int32 := if okL C b then (0) else 1
def kProp (C : ME) (j : Int32) : Int32 := if okP C j then (0) else 1

def cLeft (C : ME) (j : Nat) : Int32 := kAt (cNq C (tn (C (40 + j) 1))) (C (14 + 10 * tn (C (40 + j) 1))) (C (40 + j) 6)
set_option maxHeartbeats 4000000 in
set_option maxRecDepth 100000 in
/-- left -/
theorem sp_X3_left {l : Launch} {g : GW} {ad : AD} {τ : RH} {Lv : Nat → Bool} {C : ME} {ρ : RH} {j : Int32} (hH : HH g ad Lv C ρ τ) (hI : cI Lv C) : Sp l g yX3_left (.code yX3_left cX3_left 2 (some .int)) (rmv 8 2 12) [.ref (ad 0), .int j] ad τ 2 12 (fun v ad' τ' => kProp C j = 0 ∧ v = some (.int (cLeft C (tn j))) ∧ ad' = ad ∧ τ' = τ) (fun E ad' τ' => ((kProp C j = 1 ∧ E = "java/lang/IndexOutOfBoundsException")) ∧ ad' = ad ∧ τ' = τ) := by
  refine Sp.of 0 [some (.ref (ad 0)), some (.int j)] (by decide +kernel) (Nat.le_of_ble_eq_true rfl) rfl ?_
  intro p e s m args below meth c A cx hout hr hnm
  have hO := (H_lines hH hI).1
  refine a_aload_n cx dX3_left_0 rfl rfl ?_
  refine a_iload_n cx dX3_left_1 rfl rfl ?_
  refine a_callV cx 1 (sp_X3_proposalNumbered (b := j) hH hI) hO rfl ml_X3_116 im_X3_proposalNumbered se_X3_proposalNumbered ini_X3 cd_X3_proposalNumbered rfl rfl (by decide +kernel) rfl rfl ⟨(Nat.le_of_ble_eq_true rfl), (Nat.le_of_ble_eq_true rfl)⟩ (Nat.le_of_ble_eq_true rfl) dX3_left_2 ⟨(Nat.le_of_ble_eq_true rfl), (Nat.le_of_ble_eq_true rfl)⟩ (fun E9 ad9 τ9 hX => a_out cx hout (Nat.le_of_ble_eq_true rfl) (Nat.le_of_ble_eq_true rfl) (⟨⟨(by unfold kProp; rw [if_neg (hX.1)]), hX.2.1⟩, hX.2.2.1, hX.2.2.2⟩)) (fun v9 ad9 τ9 hP => ?_)
  obtain ⟨hok, rfl, h2, h3⟩ := hP
  replace h2 := h2.symm
  subst h2
  replace h3 := h3.symm
  subst h3
  have hj := (okP_ix hI hok).2
  have hP := H_prop2 hH hI hj
  obtain ⟨hLj, hj8⟩ := cI_prp hI hj
  refine a_callS cx 1 (sp_X3_leftKept hH hI hj) ml_X3_179 st_X3_leftKept ini_X3 cd_X3_leftKept rfl rfl (by decide +kernel) rfl rfl ⟨(Nat.le_of_ble_eq_true rfl), (Nat.le_of_ble_eq_true rfl)⟩ (Nat.le_of_ble_eq_true rfl) dX3_left_5 ⟨(Nat.le_of_ble_eq_true rfl), (Nat.le_of_ble_eq_true rfl)⟩ (fun _ _ _ h => h.elim) (fun v9 ad9 τ9 hP => ?_)
  obtain ⟨rfl, h2, h3⟩ := hP
  replace h2 := h2.symm
  subst h2
  replace h3 := h3.symm
  subst h3
  exact a_iret cx hr dX3_left_8 (Nat.le_of_ble_eq_true rfl) (Nat.le_of_ble_eq_true rfl) ⟨(by unfold kProp; rw [if_pos (hok)]), rfl, rfl, rfl⟩

def kNext (C : ME) (j : Int32) : Int32 := if okP C j then (if ¬ cLeft C (tn j) = 0 then (0) else 2) else 1
def cNext (C : ME) (j : Nat) : Int32 := C 0 4 + kAhead (cNq C (tn (C (40 + j) 1))) (C (14 + 10 * tn (C (40 + j) 1))) (C (40 + j) 6)
set_option maxHeartbeats 4000000 in
set_option maxRecDepth 100000 in
/-- nextAt -/
theorem sp_X3_nextAt {l : Launch} {g : GW} {ad : AD} {τ : RH} {Lv : Nat → Bool} {C : ME} {ρ : RH} {j : Int32} (hH : HH g ad Lv C ρ τ) (hI : cI Lv C) : Sp l g yX3_nextAt (.code yX3_nextAt cX3_nextAt 3 (some .int)) (rmv 8 2 12) [.ref (ad 0), .int j] ad τ 2 12 (fun v ad' τ' => kNext C j = 0 ∧ v = some (.int (cNext C (tn j))) ∧ ad' = ad ∧ τ' = τ) (fun E ad' τ' => ((kNext C j = 1 ∧ E = "java/lang/IndexOutOfBoundsException") ∨ (kNext C j = 2 ∧ E = "java/util/NoSuchElementException")) ∧ ad' = ad ∧ τ' = τ) := by
  refine Sp.of 1 [some (.ref (ad 0)), some (.int j), none] (by decide +kernel) (Nat.le_of_ble_eq_true rfl) rfl ?_
  intro p e s m args below meth c A cx hout hr hnm
  have hO := (H_lines hH hI).1
  refine a_aload_n cx dX3_nextAt_0 rfl rfl ?_
  refine a_iload_n cx dX3_nextAt_1 rfl rfl ?_
  refine a_callV cx 1 (sp_X3_proposalNumbered (b := j) hH hI) hO rfl ml_X3_116 im_X3_proposalNumbered se_X3_proposalNumbered ini_X3 cd_X3_proposalNumbered rfl rfl (by decide +kernel) rfl rfl ⟨(Nat.le_of_ble_eq_true rfl), (Nat.le_of_ble_eq_true rfl)⟩ (Nat.le_of_ble_eq_true rfl) dX3_nextAt_2 ⟨(Nat.le_of_ble_eq_true rfl), (Nat.le_of_ble_eq_true rfl)⟩ (fun E9 ad9 τ9 hX => a_out cx hout (Nat.le_of_ble_eq_true rfl) (Nat.le_of_ble_eq_true rfl) (⟨Or.inl ⟨(by unfold kNext; rw [if_neg (hX.1)]), hX.2.1⟩, hX.2.2.1, hX.2.2.2⟩)) (fun v9 ad9 τ9 hP => ?_)
  obtain ⟨hok, rfl, h2, h3⟩ := hP
  replace h2 := h2.symm
  subst h2
  replace h3 := h3.symm
  subst h3
  have hj := (okP_ix hI hok).2
  have hP := H_prop2 hH hI hj
  obtain ⟨hLj, hj8⟩ := cI_prp hI hj
  refine a_astore_n2 cx dX3_nextAt_5 rfl (by decide) (by intro w h; first | (cases h; rfl) | (cases h; assumption) | (cases h; done)) ?_
  refine a_aload_n cx dX3_nextAt_6 rfl rfl ?_
  refine a_callS cx 1 (sp_X3_leftKept hH hI hj) ml_X3_179 st_X3_leftKept ini_X3 cd_X3_leftKept rfl rfl (by decide +kernel) rfl rfl ⟨(Nat.le_of_ble_eq_true rfl), (Nat.le_of_ble_eq_true rfl)⟩ (Nat.le_of_ble_eq_true rfl) dX3_nextAt_7 ⟨(Nat.le_of_ble_eq_true rfl), (Nat.le_of_ble_eq_true rfl)⟩ (fun _ _ _ h => h.elim) (fun v9 ad9 τ9 hP => ?_)
  obtain ⟨rfl, h2, h3⟩ := hP
  replace h2 := h2.symm
  subst h2
  replace h3 := h3.symm
  subst h3
  refine a_if_ne cx (tgt := 23) dX3_nextAt_10 (by decide) (fun c_10 => ?_) (fun c_10 => ?_)
  · obtain ⟨-, -, ln, hln, hln2⟩ := hLj
    have hln3 : tn (C (40 + tn j) 1) < cNb C := by rw [hln2, tn_nI (by have := hI.1; omega)]; exact hln
    have hB := H_beam hH hI hln3
    have hK := H_kept' hH hI hln3
    have hlb2 := (cI_lin hI hln3).2
    refine a_aload_n cx dX3_nextAt_23 rfl rfl ?_
    refine gf_X3_26 cx hO dX3_nextAt_24 ?_
    refine a_aload_n cx dX3_nextAt_27 rfl rfl ?_
    refine gf_X3_183 cx hP dX3_nextAt_28 ?_
    refine gf_X3_100 cx hB dX3_nextAt_31 ?_
    refine a_aload_n cx dX3_nextAt_34 rfl rfl ?_
    refine gf_X3_193 cx hP dX3_nextAt_35 ?_
    refine a_callV cx 1 (sp_X1_leftAheadOf hK.1 hK.2.1 hK.2.2) hK.1 rfl ml_X3_202 im_X1_leftAheadOf se_X1_leftAheadOf ini_X1 cd_X1_leftAheadOf rfl rfl (by decide +kernel) rfl rfl ⟨(Nat.le_of_ble_eq_true rfl), (Nat.le_of_ble_eq_true rfl)⟩ (Nat.le_of_ble_eq_true rfl) dX3_nextAt_38 ⟨(Nat.le_of_ble_eq_true rfl), (Nat.le_of_ble_eq_true rfl)⟩ (fun _ _ _ h => h.elim) (fun v9 ad9 τ9 hP => ?_)
    obtain ⟨rfl, h2, h3⟩ := hP
    replace h2 := h2.symm
    subst h2
    replace h3 := h3.symm
    subst h3
    refine a_iadd cx dX3_nextAt_41 ?_
    exact a_iret cx hr dX3_nextAt_42 (Nat.le_of_ble_eq_true rfl) (Nat.le_of_ble_eq_true rfl) ⟨(by unfold kNext; rw [if_pos (hok), if_pos (show ¬ cLeft C (tn j) = 0 from c_10)]), rfl, rfl, rfl⟩
  · exact a_throwN cx "no shifts left" hout (by decide +kernel) dX3_nextAt_13 dX3_nextAt_16 dX3_nextAt_17 dX3_nextAt_19 dX3_nextAt_22 (Nat.le_of_ble_eq_true rfl) (Nat.le_of_ble_eq_true rfl) (Nat.le_of_ble_eq_true rfl) (Nat.le_of_ble_eq_true rfl) (Nat.le_of_ble_eq_true rfl) (Nat.le_of_ble_eq_true rfl) ⟨Or.inr (⟨(by unfold kNext; rw [if_pos (hok), if_neg (show ¬ ¬ cLeft C (tn j) = 0 from fun h => h c_10)]), rfl⟩), rfl, rfl⟩

def cAnew (C : ME) (j : Nat) : Int32 := kAt (cReplay C (tn (C (40 + j) 1))).1 (cReplay C (tn (C (40 + j) 1))).2.1 (C (40 + j) 6)
theorem rpA_8 {w : Nat → Int32} : ∀ {f i : Nat} {q : K3}, q.1 ≤ 8 → (rpA w f i q).1 ≤ 8
  | 0, _, _, h => h
  | f + 1, i, q, h => rpA_8 (f := f) (kAl_8 h)
theorem rpF_1 {w : Nat → Int32} : ∀ {f i : Nat} {q : K3}, (rpF w f i q).1 = q.1
  | 0, _, _ => rfl
  | f + 1, i, q => (rpF_1 (f := f) (q := kFo q (w i))).trans rfl
theorem replay_8 (C : ME) (b : Nat) : (cReplay C b).1 ≤ 8 := by
  unfold cReplay
  rw [rpF_1]
  exact rpA_8 (Nat.zero_le _)
set_option maxHeartbeats 4000000 in
set_option maxRecDepth 100000 in
/-- leftAnew -/
theorem sp_X3_leftAnew {l : Launch} {g : GW} {ad : AD} {τ : RH} {Lv : Nat → Bool} {C : ME} {ρ : RH} {j : Int32} (hH : HH g ad Lv C ρ τ) (hI : cI Lv C) : Sp l g yX3_leftAnew (.code yX3_leftAnew cX3_leftAnew 3 (some .int)) (rmv 8 2 12) [.ref (ad 0), .int j] ad τ 2 12 (fun v ad' τ' => kProp C j = 0 ∧ v = some (.int (cAnew C (tn j))) ∧ ad' = ad ∧ HH g ad Lv (oK C (tn (C (40 + tn j) 1)) (cReplay C (tn (C (40 + tn j) 1)))) ρ τ') (fun E ad' τ' => ((kProp C j = 1 ∧ E = "java/lang/IndexOutOfBoundsException")) ∧ ad' = ad ∧ τ' = τ) := by
  refine Sp.of 1 [some (.ref (ad 0)), some (.int j), none] (by decide +kernel) (Nat.le_of_ble_eq_true rfl) rfl ?_
  intro p e s m args below meth c A cx hout hr hnm
  have hO := (H_lines hH hI).1
  refine a_aload_n cx dX3_leftAnew_0 rfl rfl ?_
  refine a_iload_n cx dX3_leftAnew_1 rfl rfl ?_
  refine a_callV cx 1 (sp_X3_proposalNumbered (b := j) hH hI) hO rfl ml_X3_116 im_X3_proposalNumbered se_X3_proposalNumbered ini_X3 cd_X3_proposalNumbered rfl rfl (by decide +kernel) rfl rfl ⟨(Nat.le_of_ble_eq_true rfl), (Nat.le_of_ble_eq_true rfl)⟩ (Nat.le_of_ble_eq_true rfl) dX3_leftAnew_2 ⟨(Nat.le_of_ble_eq_true rfl), (Nat.le_of_ble_eq_true rfl)⟩ (fun E9 ad9 τ9 hX => a_out cx hout (Nat.le_of_ble_eq_true rfl) (Nat.le_of_ble_eq_true rfl) (⟨⟨(by unfold kProp; rw [if_neg (hX.1)]), hX.2.1⟩, hX.2.2.1, hX.2.2.2⟩)) (fun v9 ad9 τ9 hP => ?_)
  obtain ⟨hok, rfl, h2, h3⟩ := hP
  replace h2 := h2.symm
  subst h2
  replace h3 := h3.symm
  subst h3
  have hj := (okP_ix hI hok).2
  have hP := H_prop2 hH hI hj
  obtain ⟨hLj, hj8⟩ := cI_prp hI hj
  refine a_astore_n2 cx dX3_leftAnew_5 rfl (by decide) (by intro w h; first | (cases h; rfl) | (cases h; assumption) | (cases h; done)) ?_
  obtain ⟨-, -, ln, hln, hln2⟩ := hLj
  have hln3 : tn (C (40 + tn j) 1) < cNb C := by rw [hln2, tn_nI (by have := hI.1; omega)]; exact hln
  have hB := H_beam hH hI hln3
  have hK := H_kept' hH hI hln3
  have hlb2 := (cI_lin hI hln3).2
  refine a_aload_n cx dX3_leftAnew_6 rfl rfl ?_
  refine gf_X3_183 cx hP dX3_leftAnew_7 ?_
  refine a_callV cx 0 (sp_X0_replay hH hI hln3) hB rfl ml_X3_187 im_X0_replay se_X0_replay ini_X0 cd_X0_replay rfl rfl (by decide +kernel) rfl rfl ⟨(Nat.le_of_ble_eq_true rfl), (Nat.le_of_ble_eq_true rfl)⟩ (Nat.le_of_ble_eq_true rfl) dX3_leftAnew_10 ⟨(Nat.le_of_ble_eq_true rfl), (Nat.le_of_ble_eq_true rfl)⟩ (fun _ _ _ h => h.elim) (fun v9 ad9 τ9 hP9 => ?_)
  obtain ⟨rfl, h2, hH2⟩ := hP9
  replace h2 := h2.symm
  subst h2
  have hE := cE_k (C := C) (q := cReplay C (tn (C (40 + tn j) 1))) hlb2 (replay_8 _ _)
  replace hB := H_beam hH2 (hE.keep hI) (hE.lb hln3)
  replace hP := H_prop hH2 (hE.keep hI) (hE.lp hj)
  rw [oK_ne C _ (by omega : 40 + tn j ≠ 15 + 10 * tn (C (40 + tn j) 1)) (by omega)] at hP
  have hK2 := H_k hH2 hlb2 (cI_lin hI hln3).1.2.2.2.1 (cI_lin hI hln3).1.2.2.2.2.1
  refine a_aload_n cx dX3_leftAnew_13 rfl rfl ?_
  refine gf_X3_183 cx hP dX3_leftAnew_14 ?_
  refine gf_X3_190 cx hB dX3_leftAnew_17 ?_
  refine a_aload_n cx dX3_leftAnew_20 rfl rfl ?_
  refine gf_X3_193 cx hP dX3_leftAnew_21 ?_
  refine a_callV cx 1 (sp_X1_leftAt hK2.1 hK2.2 (replay_8 _ _)) hK2.1 rfl ml_X3_196 im_X1_leftAt se_X1_leftAt ini_X1 cd_X1_leftAt rfl rfl (by decide +kernel) rfl rfl ⟨(Nat.le_of_ble_eq_true rfl), (Nat.le_of_ble_eq_true rfl)⟩ (Nat.le_of_ble_eq_true rfl) dX3_leftAnew_24 ⟨(Nat.le_of_ble_eq_true rfl), (Nat.le_of_ble_eq_true rfl)⟩ (fun _ _ _ h => h.elim) (fun v9 ad9 τ9 hP => ?_)
  obtain ⟨rfl, h2, h3⟩ := hP
  replace h2 := h2.symm
  subst h2
  replace h3 := h3.symm
  subst h3
  exact a_iret cx hr dX3_leftAnew_27 (Nat.le_of_ble_eq_true rfl) (Nat.le_of_ble_eq_true rfl) ⟨(by unfold kProp; rw [if_pos (hok)]), rfl, rfl, hH2⟩

def kCount (C : ME) (j x : Int32) : Int32 := if okP C j then (if x = 100 ∨ x = 109 ∨ x = 108 ∨ x = 111 then 0 else 2) else 1
def cCount (C : ME) (j : Nat) (x : Int32) : Int32 := if x = 100 then C (40 + j) 9 else if x = 109 then C (40 + j) 10 else if x = 108 then C (40 + j) 11 else C (40 + j) 12
set_option maxHeartbeats 4000000 in
set_option maxRecDepth 100000 in
/-- count -/
theorem sp_X3_count {l : Launch} {g : GW} {ad : AD} {τ : RH} {Lv : Nat → Bool} {C : ME} {ρ : RH} {j x : Int32} (hH : HH g ad Lv C ρ τ) (hI : cI Lv C) : Sp l g yX3_count (.code yX3_count cX3_count 4 (some .int)) (rmv 8 2 12) [.ref (ad 0), .int j, .int x] ad τ 2 12 (fun v ad' τ' => kCount C j x = 0 ∧ v = some (.int (cCount C (tn j) x)) ∧ ad' = ad ∧ τ' = τ) (fun E ad' τ' => ((kCount C j x = 1 ∧ E = "java/lang/IndexOutOfBoundsException") ∨ (kCount C j x = 2 ∧ E = "java/lang/IllegalArgumentException")) ∧ ad' = ad ∧ τ' = τ) := by
  refine Sp.of 1 [some (.ref (ad 0)), some (.int j), some (.int x), none] (by decide +kernel) (Nat.le_of_ble_eq_true rfl) rfl ?_
  intro p e s m args below meth c A cx hout hr hnm
  have hO := (H_lines hH hI).1
  refine a_aload_n cx dX3_count_0 rfl rfl ?_
  refine a_iload_n cx dX3_count_1 rfl rfl ?_
  refine a_callV cx 1 (sp_X3_proposalNumbered (b := j) hH hI) hO rfl ml_X3_116 im_X3_proposalNumbered se_X3_proposalNumbered ini_X3 cd_X3_proposalNumbered rfl rfl (by decide +kernel) rfl rfl ⟨(Nat.le_of_ble_eq_true rfl), (Nat.le_of_ble_eq_true rfl)⟩ (Nat.le_of_ble_eq_true rfl) dX3_count_2 ⟨(Nat.le_of_ble_eq_true rfl), (Nat.le_of_ble_eq_true rfl)⟩ (fun E9 ad9 τ9 hX => a_out cx hout (Nat.le_of_ble_eq_true rfl) (Nat.le_of_ble_eq_true rfl) (⟨Or.inl ⟨(by unfold kCount; rw [if_neg (hX.1)]), hX.2.1⟩, hX.2.2.1, hX.2.2.2⟩)) (fun v9 ad9 τ9 hP => ?_)
  obtain ⟨hok, rfl, h2, h3⟩ := hP
  replace h2 := h2.symm
  subst h2
  replace h3 := h3.symm
  subst h3
  have hj := (okP_ix hI hok).2
  have hP := H_prop2 hH hI hj
  obtain ⟨hLj, hj8⟩ := cI_prp hI hj
  refine a_astore_n3 cx dX3_count_5 rfl (by decide) (by intro w h; first | (cases h; rfl) | (cases h; assumption) | (cases h; done)) ?_
  refine a_iload_n cx dX3_count_6 rfl rfl ?_
  refine a_bipush cx (v := 100) dX3_count_7 (by decide) ?_
  refine a_icmp_ne cx (tgt := 17) dX3_count_9 (by decide) (fun c_9 => ?_) (fun c_9 => ?_)
  · refine a_iload_n cx dX3_count_17 rfl rfl ?_
    refine a_bipush cx (v := 109) dX3_count_18 (by decide) ?_
    refine a_icmp_ne cx (tgt := 28) dX3_count_20 (by decide) (fun c_20 => ?_) (fun c_20 => ?_)
    · refine a_iload_n cx dX3_count_28 rfl rfl ?_
      refine a_bipush cx (v := 108) dX3_count_29 (by decide) ?_
      refine a_icmp_ne cx (tgt := 39) dX3_count_31 (by decide) (fun c_31 => ?_) (fun c_31 => ?_)
      · refine a_iload_n cx dX3_count_39 rfl rfl ?_
        refine a_bipush cx (v := 111) dX3_count_40 (by decide) ?_
        refine a_icmp_ne cx (tgt := 50) dX3_count_42 (by decide) (fun c_42 => ?_) (fun c_42 => ?_)
        · exact a_throw cx "no such kind" ["java/lang/RuntimeException", "java/lang/Exception"] hout (by decide +kernel) fit_names cl_X3_34 ini_IllegalArgumentException th_38.1 th_38.2 (by decide +kernel) dX3_count_50 dX3_count_53 dX3_count_54 dX3_count_56 dX3_count_59 (Nat.le_of_ble_eq_true rfl) (Nat.le_of_ble_eq_true rfl) (Nat.le_of_ble_eq_true rfl) (Nat.le_of_ble_eq_true rfl) (Nat.le_of_ble_eq_true rfl) (Nat.le_of_ble_eq_true rfl) ⟨Or.inr (⟨(by unfold kCount; rw [if_pos (hok), if_neg (fun h => h.elim c_9 (fun h => h.elim c_20 (fun h => h.elim c_31 c_42)))]), rfl⟩), rfl, rfl⟩
        · refine a_aload_n cx dX3_count_45 rfl rfl ?_
          refine gf_X3_214 cx hP dX3_count_46 ?_
          exact a_iret cx hr dX3_count_49 (Nat.le_of_ble_eq_true rfl) (Nat.le_of_ble_eq_true rfl) ⟨(by unfold kCount; rw [if_pos (hok), if_pos (Or.inr (Or.inr (Or.inr c_42)))]), vI (by unfold cCount; rw [if_neg c_9, if_neg c_20, if_neg c_31]), rfl, rfl⟩
      · refine a_aload_n cx dX3_count_34 rfl rfl ?_
        refine gf_X3_211 cx hP dX3_count_35 ?_
        exact a_iret cx hr dX3_count_38 (Nat.le_of_ble_eq_true rfl) (Nat.le_of_ble_eq_true rfl) ⟨(by unfold kCount; rw [if_pos (hok), if_pos (Or.inr (Or.inr (Or.inl c_31)))]), vI (by unfold cCount; rw [if_neg c_9, if_neg c_20, if_pos c_31]), rfl, rfl⟩
    · refine a_aload_n cx dX3_count_23 rfl rfl ?_
      refine gf_X3_208 cx hP dX3_count_24 ?_
      exact a_iret cx hr dX3_count_27 (Nat.le_of_ble_eq_true rfl) (Nat.le_of_ble_eq_true rfl) ⟨(by unfold kCount; rw [if_pos (hok), if_pos (Or.inr (Or.inl c_20))]), vI (by unfold cCount; rw [if_neg c_9, if_pos c_20]), rfl, rfl⟩
  · refine a_aload_n cx dX3_count_12 rfl rfl ?_
    refine gf_X3_205 cx hP dX3_count_13 ?_
    exact a_iret cx hr dX3_count_16 (Nat.le_of_ble_eq_true rfl) (Nat.le_of_ble_eq_true rfl) ⟨(by unfold kCount; rw [if_pos (hok), if_pos (Or.inl c_9)]), vI (by unfold cCount; rw [if_pos c_9]), rfl, rfl⟩

