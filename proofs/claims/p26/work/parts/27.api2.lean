/-- why no data is taken at beamline b, in the document's order -/
def cWhyJ (C : ME) (b j : Nat) : Int32 := if ¬ C (10 + 10 * b) 10 = 0 then 102 else if cMark (C 5) (C (40 + j) 2) = 0 then 116 else if cMark (C 6) (C (40 + j) 2) = 0 then 112 else if ¬ (0 < C (40 + j) 7 ∧ C (40 + j) 8 = 98) then 115 else if C (10 + 10 * b) 1 - C (10 + 10 * b) 8 < C (40 + j) 5 then 100 else 45
def cWhy (C : ME) (b : Nat) : Int32 := match cCur C b with
  | none => 113
  | some j => cWhyJ C b j
theorem cWhy_n {C : ME} {b : Nat} (h : cCur C b = none) : cWhy C b = 113 := by unfold cWhy; rw [h]
theorem cWhy_s {C : ME} {b j : Nat} (h : cCur C b = some j) : cWhy C b = cWhyJ C b j := by unfold cWhy; rw [h]
set_option maxHeartbeats 4000000 in
set_option maxRecDepth 100000 in
/-- reasonAt(line) -/
theorem sp_X3_reasonAt {l : Launch} {g : GW} {ad : AD} {τ : RH} {Lv : Nat → Bool} {C : ME} {ρ : RH} {b : Nat} (hH : HH g ad Lv C ρ τ) (hI : cI Lv C) (hb : b < cNb C) : Sp l g yX3_reasonAt (.code yX3_reasonAt cX3_reasonAt 3 (some .char)) (rmv 6 0 0) [.ref (ad 0), .ref (ad (10 + 10 * b))] ad τ 0 0 (fun v ad' τ' => v = some (.int (cWhy C b)) ∧ ad' = ad ∧ τ' = τ) (NoX) := by
  refine Sp.of 1 [some (.ref (ad 0)), some (.ref (ad (10 + 10 * b))), none] (by decide +kernel) (Nat.le_of_ble_eq_true rfl) rfl ?_
  intro p e s m args below meth c A cx hout hr hnm
  have hO := (H_lines hH hI).1
  have hB := H_beam hH hI hb
  have hT := H_there hH hI
  refine a_aload_n cx dX3_reasonAt_0 rfl rfl ?_
  refine a_callV cx 0 (sp_X0_current hH hI hb) hB rfl ml_X3_151 im_X0_current se_X0_current ini_X0 cd_X0_current rfl rfl (by decide +kernel) rfl rfl ⟨(Nat.le_of_ble_eq_true rfl), (Nat.le_of_ble_eq_true rfl)⟩ (Nat.le_of_ble_eq_true rfl) dX3_reasonAt_1 ⟨(Nat.le_of_ble_eq_true rfl), (Nat.le_of_ble_eq_true rfl)⟩ (fun _ _ _ h => h.elim) (fun v9 ad9 τ9 hP => ?_)
  obtain ⟨rfl, h2, h3⟩ := hP
  replace h2 := h2.symm
  subst h2
  replace h3 := h3.symm
  subst h3
  rcases hq : cCur C b with _ | j
  · refine a_astore_n2N cx dX3_reasonAt_4 rfl (by decide) (by intro w h; first | (cases h; rfl) | (cases h; assumption) | (cases h; done)) ?_
    refine a_aload_nN cx dX3_reasonAt_5 rfl rfl ?_
    refine a_ifnonnullN cx dX3_reasonAt_6 ?_
    refine a_bipush cx (v := 113) dX3_reasonAt_9 (by decide) ?_
    exact a_zret cx hr dX3_reasonAt_11 (by first | rfl | decide) (Nat.le_of_ble_eq_true rfl) (Nat.le_of_ble_eq_true rfl) ⟨vI (cWhy_n hq).symm, rfl, rfl⟩
  · have hj := cAt_lt hI hb hq
    have hP := H_prop2 hH hI hj
    refine a_astore_n2 cx dX3_reasonAt_4 rfl (by decide) (by intro w h; first | (cases h; rfl) | (cases h; assumption) | (cases h; done)) ?_
    refine a_aload_n cx dX3_reasonAt_5 rfl rfl ?_
    refine a_ifnonnullR cx (tgt := 12) dX3_reasonAt_6 (by decide) ?_
    refine a_aload_n cx dX3_reasonAt_12 rfl rfl ?_
    refine gf_X3_164 cx hB dX3_reasonAt_13 ?_
    refine a_if_eq cx (tgt := 22) dX3_reasonAt_16 (by decide) (fun c_16 => ?_) (fun c_16 => ?_)
    · refine a_aload_n cx dX3_reasonAt_22 rfl rfl ?_
      refine gf_X3_19 cx hO dX3_reasonAt_23 ?_
      refine a_aload_n cx dX3_reasonAt_26 rfl rfl ?_
      refine gf_X3_246 cx hP dX3_reasonAt_27 ?_
      refine a_callS cx 2 (sp_X3_isMarked hT.1) ml_X3_249 st_X3_isMarked ini_X3 cd_X3_isMarked rfl rfl (by decide +kernel) rfl rfl ⟨(Nat.le_of_ble_eq_true rfl), (Nat.le_of_ble_eq_true rfl)⟩ (Nat.le_of_ble_eq_true rfl) dX3_reasonAt_30 ⟨(Nat.le_of_ble_eq_true rfl), (Nat.le_of_ble_eq_true rfl)⟩ (fun _ _ _ h => h.elim) (fun v9 ad9 τ9 hP => ?_)
      obtain ⟨rfl, h2, h3⟩ := hP
      replace h2 := h2.symm
      subst h2
      replace h3 := h3.symm
      subst h3
      refine a_if_ne cx (tgt := 39) dX3_reasonAt_33 (by decide) (fun c_33 => ?_) (fun c_33 => ?_)
      · refine a_aload_n cx dX3_reasonAt_39 rfl rfl ?_
        refine gf_X3_23 cx hO dX3_reasonAt_40 ?_
        refine a_aload_n cx dX3_reasonAt_43 rfl rfl ?_
        refine gf_X3_246 cx hP dX3_reasonAt_44 ?_
        refine a_callS cx 2 (sp_X3_isMarked hT.2) ml_X3_249 st_X3_isMarked ini_X3 cd_X3_isMarked rfl rfl (by decide +kernel) rfl rfl ⟨(Nat.le_of_ble_eq_true rfl), (Nat.le_of_ble_eq_true rfl)⟩ (Nat.le_of_ble_eq_true rfl) dX3_reasonAt_47 ⟨(Nat.le_of_ble_eq_true rfl), (Nat.le_of_ble_eq_true rfl)⟩ (fun _ _ _ h => h.elim) (fun v9 ad9 τ9 hP => ?_)
        obtain ⟨rfl, h2, h3⟩ := hP
        replace h2 := h2.symm
        subst h2
        replace h3 := h3.symm
        subst h3
        refine a_if_ne cx (tgt := 56) dX3_reasonAt_50 (by decide) (fun c_50 => ?_) (fun c_50 => ?_)
        · refine a_aload_n cx dX3_reasonAt_56 rfl rfl ?_
          refine a_callV cx 0 (sp_X2_hasGoodSampleAtBeamline hP) hP rfl ml_X3_253 im_X2_hasGoodSampleAtBeamline se_X2_hasGoodSampleAtBeamline ini_X2 cd_X2_hasGoodSampleAtBeamline rfl rfl (by decide +kernel) rfl rfl ⟨(Nat.le_of_ble_eq_true rfl), (Nat.le_of_ble_eq_true rfl)⟩ (Nat.le_of_ble_eq_true rfl) dX3_reasonAt_57 ⟨(Nat.le_of_ble_eq_true rfl), (Nat.le_of_ble_eq_true rfl)⟩ (fun _ _ _ h => h.elim) (fun v9 ad9 τ9 hP => ?_)
          obtain ⟨rfl, h2, h3⟩ := hP
          replace h2 := h2.symm
          subst h2
          replace h3 := h3.symm
          subst h3
          refine a_if_ne cx (tgt := 66) dX3_reasonAt_60 (by decide) (fun c_60 => ?_) (fun c_60 => ?_)
          · refine a_aload_n cx dX3_reasonAt_66 rfl rfl ?_
            refine gf_X3_256 cx hP dX3_reasonAt_67 ?_
            refine a_aload_n cx dX3_reasonAt_70 rfl rfl ?_
            refine gf_X3_259 cx hB dX3_reasonAt_71 ?_
            refine a_aload_n cx dX3_reasonAt_74 rfl rfl ?_
            refine gf_X3_176 cx hB dX3_reasonAt_75 ?_
            refine a_isub cx dX3_reasonAt_78 ?_
            refine a_icmp_le cx (tgt := 85) dX3_reasonAt_79 (by decide) (fun c_79 => ?_) (fun c_79 => ?_)
            · refine a_bipush cx (v := 45) dX3_reasonAt_85 (by decide) ?_
              exact a_zret cx hr dX3_reasonAt_87 (by first | rfl | decide) (Nat.le_of_ble_eq_true rfl) (Nat.le_of_ble_eq_true rfl) ⟨vI (by rw [cWhy_s hq]; unfold cWhyJ; rw [if_neg (fun h => h c_16), if_neg c_33, if_neg c_50, if_neg (fun h => h (i10_1 c_60)), if_neg (fun h => lt_ge h c_79)]), rfl, rfl⟩
            · refine a_bipush cx (v := 100) dX3_reasonAt_82 (by decide) ?_
              exact a_zret cx hr dX3_reasonAt_84 (by first | rfl | decide) (Nat.le_of_ble_eq_true rfl) (Nat.le_of_ble_eq_true rfl) ⟨vI (by rw [cWhy_s hq]; unfold cWhyJ; rw [if_neg (fun h => h c_16), if_neg c_33, if_neg c_50, if_neg (fun h => h (i10_1 c_60)), if_pos (le_gt c_79)]), rfl, rfl⟩
          · refine a_bipush cx (v := 115) dX3_reasonAt_63 (by decide) ?_
            exact a_zret cx hr dX3_reasonAt_65 (by first | rfl | decide) (Nat.le_of_ble_eq_true rfl) (Nat.le_of_ble_eq_true rfl) ⟨vI (by rw [cWhy_s hq]; unfold cWhyJ; rw [if_neg (fun h => h c_16), if_neg c_33, if_neg c_50, if_pos (i10_0 c_60)]), rfl, rfl⟩
        · refine a_bipush cx (v := 112) dX3_reasonAt_53 (by decide) ?_
          exact a_zret cx hr dX3_reasonAt_55 (by first | rfl | decide) (Nat.le_of_ble_eq_true rfl) (Nat.le_of_ble_eq_true rfl) ⟨vI (by rw [cWhy_s hq]; unfold cWhyJ; rw [if_neg (fun h => h c_16), if_neg c_33, if_pos c_50]), rfl, rfl⟩
      · refine a_bipush cx (v := 116) dX3_reasonAt_36 (by decide) ?_
        exact a_zret cx hr dX3_reasonAt_38 (by first | rfl | decide) (Nat.le_of_ble_eq_true rfl) (Nat.le_of_ble_eq_true rfl) ⟨vI (by rw [cWhy_s hq]; unfold cWhyJ; rw [if_neg (fun h => h c_16), if_pos c_33]), rfl, rfl⟩
    · refine a_bipush cx (v := 102) dX3_reasonAt_19 (by decide) ?_
      exact a_zret cx hr dX3_reasonAt_21 (by first | rfl | decide) (Nat.le_of_ble_eq_true rfl) (Nat.le_of_ble_eq_true rfl) ⟨vI (by rw [cWhy_s hq]; unfold cWhyJ; rw [if_pos c_16]), rfl, rfl⟩

theorem cWhy_in (C : ME) (b : Nat) : cWhy C b ∈ ([113, 102, 116, 112, 115, 100, 45] : List Int32) := by
  unfold cWhy
  split
  · decide
  · unfold cWhyJ
    repeat' split
    all_goals decide
theorem cWhy_nar (C : ME) (b : Nat) : narrow .char (.int (cWhy C b)) = .int (cWhy C b) := by
  have h := cWhy_in C b
  revert h
  generalize cWhy C b = x
  intro h
  simp only [List.mem_cons, List.mem_nil_iff, or_false] at h
  rcases h with rfl | rfl | rfl | rfl | rfl | rfl | rfl <;> rfl
set_option maxHeartbeats 4000000 in
set_option maxRecDepth 100000 in
/-- reason -/
theorem sp_X3_reason {l : Launch} {g : GW} {ad : AD} {τ : RH} {Lv : Nat → Bool} {C : ME} {ρ : RH} {b : Int32} (hH : HH g ad Lv C ρ τ) (hI : cI Lv C) : Sp l g yX3_reason (.code yX3_reason cX3_reason 2 (some .char)) (rmv 8 2 12) [.ref (ad 0), .int b] ad τ 2 12 (fun v ad' τ' => kLine C b = 0 ∧ v = some (.int (cWhy C (tn b))) ∧ ad' = ad ∧ τ' = τ) (fun E ad' τ' => ((kLine C b = 1 ∧ E = "java/lang/IndexOutOfBoundsException")) ∧ ad' = ad ∧ τ' = τ) := by
  refine Sp.of 0 [some (.ref (ad 0)), some (.int b)] (by decide +kernel) (Nat.le_of_ble_eq_true rfl) rfl ?_
  intro p e s m args below meth c A cx hout hr hnm
  have hO := (H_lines hH hI).1
  refine a_aload_n cx dX3_reason_0 rfl rfl ?_
  refine a_aload_n cx dX3_reason_1 rfl rfl ?_
  refine a_iload_n cx dX3_reason_2 rfl rfl ?_
  refine a_callV cx 1 (sp_X3_beamlineNumbered (b := b) hH hI) hO rfl ml_X3_61 im_X3_beamlineNumbered se_X3_beamlineNumbered ini_X3 cd_X3_beamlineNumbered rfl rfl (by decide +kernel) rfl rfl ⟨(Nat.le_of_ble_eq_true rfl), (Nat.le_of_ble_eq_true rfl)⟩ (Nat.le_of_ble_eq_true rfl) dX3_reason_3 ⟨(Nat.le_of_ble_eq_true rfl), (Nat.le_of_ble_eq_true rfl)⟩ (fun E9 ad9 τ9 hX => a_out cx hout (Nat.le_of_ble_eq_true rfl) (Nat.le_of_ble_eq_true rfl) (⟨⟨(by unfold kLine; rw [if_neg (hX.1)]), hX.2.1⟩, hX.2.2.1, hX.2.2.2⟩)) (fun v9 ad9 τ9 hP => ?_)
  obtain ⟨hok, rfl, h2, h3⟩ := hP
  replace h2 := h2.symm
  subst h2
  replace h3 := h3.symm
  subst h3
  have hb := (okL_ix hI hok).2
  have hB := H_beam hH hI hb
  obtain ⟨hL, hb2⟩ := cI_lin hI hb
  refine a_callV cx 1 (sp_X3_reasonAt hH hI hb) hO rfl ml_X3_160 im_X3_reasonAt se_X3_reasonAt ini_X3 cd_X3_reasonAt rfl rfl (by decide +kernel) rfl rfl ⟨(Nat.le_of_ble_eq_true rfl), (Nat.le_of_ble_eq_true rfl)⟩ (Nat.le_of_ble_eq_true rfl) dX3_reason_6 ⟨(Nat.le_of_ble_eq_true rfl), (Nat.le_of_ble_eq_true rfl)⟩ (fun _ _ _ h => h.elim) (fun v9 ad9 τ9 hP => ?_)
  obtain ⟨rfl, h2, h3⟩ := hP
  replace h2 := h2.symm
  subst h2
  replace h3 := h3.symm
  subst h3
  exact a_zret cx hr dX3_reason_9 (cWhy_nar _ _) (Nat.le_of_ble_eq_true rfl) (Nat.le_of_ble_eq_true rfl) ⟨(by unfold kLine; rw [if_pos (hok)]), rfl, rfl, rfl⟩

def kOn (C : ME) (b : Int32) : Int32 := if okL C b then (if cCur C (tn b) = none then 2 else 0) else 1
def cOn (C : ME) (b : Nat) : Int32 := match cCur C b with
  | none => 0
  | some j => nI j
set_option maxHeartbeats 4000000 in
set_option maxRecDepth 100000 in
/-- on -/
theorem sp_X3_on {l : Launch} {g : GW} {ad : AD} {τ : RH} {Lv : Nat → Bool} {C : ME} {ρ : RH} {b : Int32} (hH : HH g ad Lv C ρ τ) (hI : cI Lv C) : Sp l g yX3_on (.code yX3_on cX3_on 3 (some .int)) (rmv 8 2 12) [.ref (ad 0), .int b] ad τ 2 12 (fun v ad' τ' => kOn C b = 0 ∧ v = some (.int (cOn C (tn b))) ∧ ad' = ad ∧ τ' = τ) (fun E ad' τ' => ((kOn C b = 1 ∧ E = "java/lang/IndexOutOfBoundsException") ∨ (kOn C b = 2 ∧ E = "java/util/NoSuchElementException")) ∧ ad' = ad ∧ τ' = τ) := by
  refine Sp.of 1 [some (.ref (ad 0)), some (.int b), none] (by decide +kernel) (Nat.le_of_ble_eq_true rfl) rfl ?_
  intro p e s m args below meth c A cx hout hr hnm
  have hO := (H_lines hH hI).1
  refine a_aload_n cx dX3_on_0 rfl rfl ?_
  refine a_iload_n cx dX3_on_1 rfl rfl ?_
  refine a_callV cx 1 (sp_X3_beamlineNumbered (b := b) hH hI) hO rfl ml_X3_61 im_X3_beamlineNumbered se_X3_beamlineNumbered ini_X3 cd_X3_beamlineNumbered rfl rfl (by decide +kernel) rfl rfl ⟨(Nat.le_of_ble_eq_true rfl), (Nat.le_of_ble_eq_true rfl)⟩ (Nat.le_of_ble_eq_true rfl) dX3_on_2 ⟨(Nat.le_of_ble_eq_true rfl), (Nat.le_of_ble_eq_true rfl)⟩ (fun E9 ad9 τ9 hX => a_out cx hout (Nat.le_of_ble_eq_true rfl) (Nat.le_of_ble_eq_true rfl) (⟨Or.inl ⟨(by unfold kOn; rw [if_neg (hX.1)]), hX.2.1⟩, hX.2.2.1, hX.2.2.2⟩)) (fun v9 ad9 τ9 hP => ?_)
  obtain ⟨hok, rfl, h2, h3⟩ := hP
  replace h2 := h2.symm
  subst h2
  replace h3 := h3.symm
  subst h3
  have hb := (okL_ix hI hok).2
  have hB := H_beam hH hI hb
  obtain ⟨hL, hb2⟩ := cI_lin hI hb
  refine a_callV cx 0 (sp_X0_current hH hI hb) hB rfl ml_X3_151 im_X0_current se_X0_current ini_X0 cd_X0_current rfl rfl (by decide +kernel) rfl rfl ⟨(Nat.le_of_ble_eq_true rfl), (Nat.le_of_ble_eq_true rfl)⟩ (Nat.le_of_ble_eq_true rfl) dX3_on_5 ⟨(Nat.le_of_ble_eq_true rfl), (Nat.le_of_ble_eq_true rfl)⟩ (fun _ _ _ h => h.elim) (fun v9 ad9 τ9 hP => ?_)
  obtain ⟨rfl, h2, h3⟩ := hP
  replace h2 := h2.symm
  subst h2
  replace h3 := h3.symm
  subst h3
  rcases hq : cCur C (tn b) with _ | j
  · refine a_astore_n2N cx dX3_on_8 rfl (by decide) (by intro w h; first | (cases h; rfl) | (cases h; assumption) | (cases h; done)) ?_
    refine a_aload_nN cx dX3_on_9 rfl rfl ?_
    refine a_ifnonnullN cx dX3_on_10 ?_
    exact a_throwN cx "no proposal is on" hout (by decide +kernel) dX3_on_13 dX3_on_16 dX3_on_17 dX3_on_19 dX3_on_22 (Nat.le_of_ble_eq_true rfl) (Nat.le_of_ble_eq_true rfl) (Nat.le_of_ble_eq_true rfl) (Nat.le_of_ble_eq_true rfl) (Nat.le_of_ble_eq_true rfl) (Nat.le_of_ble_eq_true rfl) ⟨Or.inr (⟨(by unfold kOn; rw [if_pos hok, if_pos hq]), rfl⟩), rfl, rfl⟩
  · have hj := cAt_lt hI hb hq
    have hP := H_prop2 hH hI hj
    refine a_astore_n2 cx dX3_on_8 rfl (by decide) (by intro w h; first | (cases h; rfl) | (cases h; assumption) | (cases h; done)) ?_
    refine a_aload_n cx dX3_on_9 rfl rfl ?_
    refine a_ifnonnullR cx (tgt := 23) dX3_on_10 (by decide) ?_
    refine a_aload_n cx dX3_on_23 rfl rfl ?_
    refine gf_X3_157 cx hP dX3_on_24 ?_
    exact a_iret cx hr dX3_on_27 (Nat.le_of_ble_eq_true rfl) (Nat.le_of_ble_eq_true rfl) ⟨(by unfold kOn; rw [if_pos hok, if_neg (by rw [hq]; simp)]), vI (by unfold cOn; rw [hq]; exact (cI_prp hI hj).1.2.1), rfl, rfl⟩

def kFail (C : ME) (b : Int32) : Int32 := if okL C b then (if C (10 + 10 * tn b) 10 = 0 then 0 else 2) else 1
def cFail (C : ME) (b : Nat) : Int32 := if cCur C b = none then 0 else 1
theorem cur_put {C : ME} {b k : Nat} {x : Int32} (hb : b < 2) : cCur (up2 C (10 + 10 * b) k x) b = cCur C b := by
  unfold cCur cAt cNq up2
  rw [va_up_ne _ _ (by omega : 11 + 10 * b ≠ 10 + 10 * b), va_up_ne _ _ (by omega : 14 + 10 * b ≠ 10 + 10 * b), va_up_ne _ _ (by omega : 12 + 10 * b ≠ 10 + 10 * b)]
set_option maxHeartbeats 4000000 in
set_option maxRecDepth 100000 in
/-- fail -/
theorem sp_X3_fail {l : Launch} {g : GW} {ad : AD} {τ : RH} {Lv : Nat → Bool} {C : ME} {ρ : RH} {b : Int32} (hH : HH g ad Lv C ρ τ) (hI : cI Lv C) : Sp l g yX3_fail (.code yX3_fail cX3_fail 3 (some .boolean)) (rmv 8 2 12) [.ref (ad 0), .int b] ad τ 2 12 (fun v ad' τ' => kFail C b = 0 ∧ v = some (.int (cFail C (tn b))) ∧ ad' = ad ∧ HH g ad Lv (up2 C (10 + 10 * tn b) 10 1) ρ τ') (fun E ad' τ' => ((kFail C b = 1 ∧ E = "java/lang/IndexOutOfBoundsException") ∨ (kFail C b = 2 ∧ E = "java/lang/IllegalStateException")) ∧ ad' = ad ∧ τ' = τ) := by
  refine Sp.of 1 [some (.ref (ad 0)), some (.int b), none] (by decide +kernel) (Nat.le_of_ble_eq_true rfl) rfl ?_
  intro p e s m args below meth c A cx hout hr hnm
  have hO := (H_lines hH hI).1
  refine a_aload_n cx dX3_fail_0 rfl rfl ?_
  refine a_iload_n cx dX3_fail_1 rfl rfl ?_
  refine a_callV cx 1 (sp_X3_beamlineNumbered (b := b) hH hI) hO rfl ml_X3_61 im_X3_beamlineNumbered se_X3_beamlineNumbered ini_X3 cd_X3_beamlineNumbered rfl rfl (by decide +kernel) rfl rfl ⟨(Nat.le_of_ble_eq_true rfl), (Nat.le_of_ble_eq_true rfl)⟩ (Nat.le_of_ble_eq_true rfl) dX3_fail_2 ⟨(Nat.le_of_ble_eq_true rfl), (Nat.le_of_ble_eq_true rfl)⟩ (fun E9 ad9 τ9 hX => a_out cx hout (Nat.le_of_ble_eq_true rfl) (Nat.le_of_ble_eq_true rfl) (⟨Or.inl ⟨(by unfold kFail; rw [if_neg (hX.1)]), hX.2.1⟩, hX.2.2.1, hX.2.2.2⟩)) (fun v9 ad9 τ9 hP => ?_)
  obtain ⟨hok, rfl, h2, h3⟩ := hP
  replace h2 := h2.symm
  subst h2
  replace h3 := h3.symm
  subst h3
  have hb := (okL_ix hI hok).2
  have hB := H_beam hH hI hb
  obtain ⟨hL, hb2⟩ := cI_lin hI hb
  refine a_astore_n2 cx dX3_fail_5 rfl (by decide) (by intro w h; first | (cases h; rfl) | (cases h; assumption) | (cases h; done)) ?_
  refine a_aload_n cx dX3_fail_6 rfl rfl ?_
  refine gf_X3_164 cx hB dX3_fail_7 ?_
  refine a_if_eq cx (tgt := 23) dX3_fail_10 (by decide) (fun c_10 => ?_) (fun c_10 => ?_)
  · refine a_aload_n cx dX3_fail_23 rfl rfl ?_
    refine a_iconst cx (v := 1) dX3_fail_24 (by decide) ?_
    refine pf_X3_164 cx hB (by first | exact Or.inl rfl | exact Or.inr rfl | assumption) dX3_fail_25 ?_
    have hH2 := hH.beam (C := C) hb2 hL.1 10 1 (e := _) rfl
    have hE : cE C (up2 C (10 + 10 * tn b) 10 1) := cE.put (by unfold cT; omega)
    refine a_aload_n cx dX3_fail_28 rfl rfl ?_
    refine a_callV cx 0 (sp_X0_current hH2 (hE.keep hI) (hE.lb hb)) (va_up_self _ _ _) rfl ml_X3_151 im_X0_current se_X0_current ini_X0 cd_X0_current rfl rfl (by decide +kernel) rfl rfl ⟨(Nat.le_of_ble_eq_true rfl), (Nat.le_of_ble_eq_true rfl)⟩ (Nat.le_of_ble_eq_true rfl) dX3_fail_29 ⟨(Nat.le_of_ble_eq_true rfl), (Nat.le_of_ble_eq_true rfl)⟩ (fun _ _ _ h => h.elim) (fun v9 ad9 τ9 hP => ?_)
    obtain ⟨rfl, h2, h3⟩ := hP
    replace h2 := h2.symm
    subst h2
    replace h3 := h3.symm
    subst h3
    rw [cur_put hb2]
    rcases hq : cCur C (tn b) with _ | j
    · refine a_ifnullN cx (tgt := 39) dX3_fail_32 (by decide) ?_
      refine a_iconst cx (v := 0) dX3_fail_39 (by decide) ?_
      exact a_zret cx hr dX3_fail_40 (by first | rfl | decide) (Nat.le_of_ble_eq_true rfl) (Nat.le_of_ble_eq_true rfl) ⟨(by unfold kFail; rw [if_pos hok, if_pos c_10]), vI (by unfold cFail; rw [if_pos hq]), rfl, hH2⟩
    · refine a_ifnullR cx dX3_fail_32 ?_
      refine a_iconst cx (v := 1) dX3_fail_35 (by decide) ?_
      refine a_goto cx (tgt := 40) dX3_fail_36 (by decide) ?_
      exact a_zret cx hr dX3_fail_40 (by first | rfl | decide) (Nat.le_of_ble_eq_true rfl) (Nat.le_of_ble_eq_true rfl) ⟨(by unfold kFail; rw [if_pos hok, if_pos c_10]), vI (by unfold cFail; rw [if_neg (by rw [hq]; simp)]), rfl, hH2⟩
  · exact a_throw cx "there is a fault" ["java/lang/RuntimeException", "java/lang/Exception"] hout (by decide +kernel) fit_names cl_X3_47 ini_IllegalStateException th_51.1 th_51.2 (by decide +kernel) dX3_fail_13 dX3_fail_16 dX3_fail_17 dX3_fail_19 dX3_fail_22 (Nat.le_of_ble_eq_true rfl) (Nat.le_of_ble_eq_true rfl) (Nat.le_of_ble_eq_true rfl) (Nat.le_of_ble_eq_true rfl) (Nat.le_of_ble_eq_true rfl) (Nat.le_of_ble_eq_true rfl) ⟨Or.inr (⟨(by unfold kFail; rw [if_pos hok, if_neg c_10]), rfl⟩), rfl, rfl⟩

