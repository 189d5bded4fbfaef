theorem m_no {g : GW} {ad : AD} {Lv : Nat → Bool} {C OP : ME} {ρ τ : RH} {K c : Int32} (hk : K = c) (hc : ¬ c = 0) (hH : HH g ad Lv (up2 C 60 0 c) ρ τ) : HH g ad Lv (up2 (if K = 0 then OP else C) 60 0 K) ρ τ := by rw [hk, if_neg hc]; exact hH
theorem m_ok {g : GW} {ad : AD} {Lv : Nat → Bool} {C OP : ME} {ρ τ : RH} {K : Int32} (hk : K = 0) (hH : HH g ad Lv (up2 OP 60 0 0) ρ τ) : HH g ad Lv (up2 (if K = 0 then OP else C) 60 0 K) ρ τ := by rw [hk, if_pos rfl]; exact hH
def jBeam (C : ME) (s m : Int32) : Int32 := if win s 3 40 ∧ win m 10 999 then (if C 60 1 = 2 then 2 else 0) else 1
set_option maxHeartbeats 4000000 in
set_option maxRecDepth 100000 in
/-- model: addBeamline -/
theorem sp_X4_addBeamline {l : Launch} {g : GW} {ad : AD} {τ : RH} {Lv : Nat → Bool} {C : ME} {ρ : RH} {s9 m9 : Int32} (hH : HH g ad Lv C ρ τ) (hL : mL Lv) (hI : mI C) : Sp l g yX4_addBeamline (.code yX4_addBeamline cX4_addBeamline 3 (some .int)) (rmv 4 0 0) [.ref (ad 60), .int s9, .int m9] ad τ 0 0 (fun v ad' τ' => (∃ w, v = some (.int w) ∧ (jBeam C s9 m9 = 0 → w = C 60 1 + 1 - 1)) ∧ ad' = ad ∧ HH g ad Lv (up2 (if jBeam C s9 m9 = 0 then up2 (up2 (up2 C 61 (mNb C) s9) 62 (mNb C) m9) 60 1 (C 60 1 + 1) else C) 60 0 (jBeam C s9 m9)) ρ τ') (NoX) := by
  refine Sp.of 0 [some (.ref (ad 60)), some (.int s9), some (.int m9)] (by decide +kernel) (Nat.le_of_ble_eq_true rfl) rfl ?_
  intro p e s m args below meth c A cx hout hr hnm
  have hM := M_obj hH hL
  have hR := M_row hH hL
  refine a_iload_n cx dX4_addBeamline_0 rfl rfl ?_
  refine a_iconst cx (v := 3) dX4_addBeamline_1 (by decide) ?_
  refine a_bipush cx (v := 40) dX4_addBeamline_2 (by decide) ?_
  refine a_callS cx 3 (sp_X4_in (x := s9) (lo := 3) (hi := 40)) ml_X4_88 st_X4_in ini_X4 cd_X4_in rfl rfl (by decide +kernel) rfl rfl ⟨(Nat.le_of_ble_eq_true rfl), (Nat.le_of_ble_eq_true rfl)⟩ (Nat.le_of_ble_eq_true rfl) dX4_addBeamline_4 ⟨(Nat.le_of_ble_eq_true rfl), (Nat.le_of_ble_eq_true rfl)⟩ (fun _ _ _ h => h.elim) (fun v9 ad9 τ9 hP => ?_)
  obtain ⟨⟨w4, rfl, hw4⟩, h2, h3⟩ := hP
  replace h2 := h2.symm
  subst h2
  replace h3 := h3.symm
  subst h3
  replace hw4 := w_if hw4
  refine a_if_eq cx (tgt := 22) dX4_addBeamline_7 (by decide) (fun c_7 => ?_) (fun c_7 => ?_)
  · refine a_aload_n cx dX4_addBeamline_22 rfl rfl ?_
    refine a_iconst cx (v := 1) dX4_addBeamline_23 (by decide) ?_
    refine a_callV cx 1 (sp_X4_fails (k := 1) hH hL) hM rfl ml_X4_95 im_X4_fails se_X4_fails ini_X4 cd_X4_fails rfl rfl (by decide +kernel) rfl rfl ⟨(Nat.le_of_ble_eq_true rfl), (Nat.le_of_ble_eq_true rfl)⟩ (Nat.le_of_ble_eq_true rfl) dX4_addBeamline_24 ⟨(Nat.le_of_ble_eq_true rfl), (Nat.le_of_ble_eq_true rfl)⟩ (fun _ _ _ h => h.elim) (fun v9 ad9 τ9 hP => ?_)
    obtain ⟨rfl, h2, hH⟩ := hP
    replace h2 := h2.symm
    subst h2
    exact a_iret cx hr dX4_addBeamline_27 (Nat.le_of_ble_eq_true rfl) (Nat.le_of_ble_eq_true rfl) ⟨⟨_, rfl, fun q => absurd (((show jBeam C s9 m9 = 1 from (by unfold jBeam; rw [if_neg (fun h => hw4.1 c_7 h.1)]))).symm.trans q) (by decide)⟩, rfl, m_no (show jBeam C s9 m9 = 1 from (by unfold jBeam; rw [if_neg (fun h => hw4.1 c_7 h.1)])) (by decide) hH⟩
  · refine a_iload_n cx dX4_addBeamline_10 rfl rfl ?_
    refine a_bipush cx (v := 10) dX4_addBeamline_11 (by decide) ?_
    refine a_sipush cx (v := 999) dX4_addBeamline_13 (by decide) ?_
    refine a_callS cx 3 (sp_X4_in (x := m9) (lo := 10) (hi := 999)) ml_X4_88 st_X4_in ini_X4 cd_X4_in rfl rfl (by decide +kernel) rfl rfl ⟨(Nat.le_of_ble_eq_true rfl), (Nat.le_of_ble_eq_true rfl)⟩ (Nat.le_of_ble_eq_true rfl) dX4_addBeamline_16 ⟨(Nat.le_of_ble_eq_true rfl), (Nat.le_of_ble_eq_true rfl)⟩ (fun _ _ _ h => h.elim) (fun v9 ad9 τ9 hP => ?_)
    obtain ⟨⟨w16, rfl, hw16⟩, h2, h3⟩ := hP
    replace h2 := h2.symm
    subst h2
    replace h3 := h3.symm
    subst h3
    replace hw16 := w_if hw16
    refine a_if_ne cx (tgt := 28) dX4_addBeamline_19 (by decide) (fun c_19 => ?_) (fun c_19 => ?_)
    · refine a_aload_n cx dX4_addBeamline_28 rfl rfl ?_
      refine gf_X4_85 cx hM dX4_addBeamline_29 ?_
      refine a_iconst cx (v := 2) dX4_addBeamline_32 (by decide) ?_
      refine a_icmp_ne cx (tgt := 42) dX4_addBeamline_33 (by decide) (fun c_33 => ?_) (fun c_33 => ?_)
      · refine a_aload_n cx dX4_addBeamline_42 rfl rfl ?_
        refine gf_X4_7 cx hM dX4_addBeamline_43 ?_
        refine a_aload_n cx dX4_addBeamline_46 rfl rfl ?_
        refine gf_X4_85 cx hM dX4_addBeamline_47 ?_
        refine a_iload_n cx dX4_addBeamline_50 rfl rfl ?_
        refine a_ist cx (mNb C) (by exact hR _ (by decide) (by decide)) (hI.1) ((by have h9 : ¬ mNb C = 2 := (fun q => c_33 (by rw [hI.1, q]; rfl)); have := hI.2.1; omega)) (by decide)  dX4_addBeamline_51 ?_
        refine a_HH (hH.put (r := 61) (mNb C) _ (by decide) (hL 61 (by decide) (by decide)) rfl) (fun τ hH => ?_)
        have hR := M_row hH hL
        have hM := M_obj hH hL
        refine a_aload_n cx dX4_addBeamline_52 rfl rfl ?_
        refine gf_X4_13 cx hM dX4_addBeamline_53 ?_
        refine a_aload_n cx dX4_addBeamline_56 rfl rfl ?_
        refine gf_X4_85 cx hM dX4_addBeamline_57 ?_
        refine a_iload_n cx dX4_addBeamline_60 rfl rfl ?_
        refine a_ist cx (mNb C) (by exact hR _ (by decide) (by decide)) (hI.1) ((by have h9 : ¬ mNb C = 2 := (fun q => c_33 (by rw [hI.1, q]; rfl)); have := hI.2.1; omega)) (by decide)  dX4_addBeamline_61 ?_
        refine a_HH (hH.put (r := 62) (mNb C) _ (by decide) (hL 62 (by decide) (by decide)) rfl) (fun τ hH => ?_)
        have hR := M_row hH hL
        have hM := M_obj hH hL
        refine a_aload_n cx dX4_addBeamline_62 rfl rfl ?_
        refine a_dup cx dX4_addBeamline_63 rfl ?_
        refine gf_X4_85 cx hM dX4_addBeamline_64 ?_
        refine a_iconst cx (v := 1) dX4_addBeamline_67 (by decide) ?_
        refine a_iadd cx dX4_addBeamline_68 ?_
        refine pf_X4_85 cx hM dX4_addBeamline_69 ?_
        refine a_HH (hH.put (r := 60) (1) _ (by decide) (hL 60 (by decide) (by decide)) rfl) (fun τ hH => ?_)
        have hR := M_row hH hL
        have hM := M_obj hH hL
        refine a_aload_n cx dX4_addBeamline_72 rfl rfl ?_
        refine a_aload_n cx dX4_addBeamline_73 rfl rfl ?_
        refine gf_X4_85 cx hM dX4_addBeamline_74 ?_
        refine a_iconst cx (v := 1) dX4_addBeamline_77 (by decide) ?_
        refine a_isub cx dX4_addBeamline_78 ?_
        refine a_callV cx 1 (sp_X4_tells hH hL) hM rfl ml_X4_99 im_X4_tells se_X4_tells ini_X4 cd_X4_tells rfl rfl (by decide +kernel) rfl rfl ⟨(Nat.le_of_ble_eq_true rfl), (Nat.le_of_ble_eq_true rfl)⟩ (Nat.le_of_ble_eq_true rfl) dX4_addBeamline_79 ⟨(Nat.le_of_ble_eq_true rfl), (Nat.le_of_ble_eq_true rfl)⟩ (fun _ _ _ h => h.elim) (fun v9 ad9 τ9 hP => ?_)
        obtain ⟨rfl, h2, hH⟩ := hP
        replace h2 := h2.symm
        subst h2
        exact a_iret cx hr dX4_addBeamline_82 (Nat.le_of_ble_eq_true rfl) (Nat.le_of_ble_eq_true rfl) ⟨⟨_, rfl, fun _ => rfl⟩, rfl, m_ok (show jBeam C s9 m9 = 0 from (by unfold jBeam; rw [if_pos (⟨hw4.2 c_7, hw16.2 c_19⟩), if_neg (c_33)])) hH⟩
      · refine a_aload_n cx dX4_addBeamline_36 rfl rfl ?_
        refine a_iconst cx (v := 2) dX4_addBeamline_37 (by decide) ?_
        refine a_callV cx 1 (sp_X4_fails (k := 2) hH hL) hM rfl ml_X4_95 im_X4_fails se_X4_fails ini_X4 cd_X4_fails rfl rfl (by decide +kernel) rfl rfl ⟨(Nat.le_of_ble_eq_true rfl), (Nat.le_of_ble_eq_true rfl)⟩ (Nat.le_of_ble_eq_true rfl) dX4_addBeamline_38 ⟨(Nat.le_of_ble_eq_true rfl), (Nat.le_of_ble_eq_true rfl)⟩ (fun _ _ _ h => h.elim) (fun v9 ad9 τ9 hP => ?_)
        obtain ⟨rfl, h2, hH⟩ := hP
        replace h2 := h2.symm
        subst h2
        exact a_iret cx hr dX4_addBeamline_41 (Nat.le_of_ble_eq_true rfl) (Nat.le_of_ble_eq_true rfl) ⟨⟨_, rfl, fun q => absurd (((show jBeam C s9 m9 = 2 from (by unfold jBeam; rw [if_pos (⟨hw4.2 c_7, hw16.2 c_19⟩), if_pos (c_33)]))).symm.trans q) (by decide)⟩, rfl, m_no (show jBeam C s9 m9 = 2 from (by unfold jBeam; rw [if_pos (⟨hw4.2 c_7, hw16.2 c_19⟩), if_pos (c_33)])) (by decide) hH⟩
    · refine a_aload_n cx dX4_addBeamline_22 rfl rfl ?_
      refine a_iconst cx (v := 1) dX4_addBeamline_23 (by decide) ?_
      refine a_callV cx 1 (sp_X4_fails (k := 1) hH hL) hM rfl ml_X4_95 im_X4_fails se_X4_fails ini_X4 cd_X4_fails rfl rfl (by decide +kernel) rfl rfl ⟨(Nat.le_of_ble_eq_true rfl), (Nat.le_of_ble_eq_true rfl)⟩ (Nat.le_of_ble_eq_true rfl) dX4_addBeamline_24 ⟨(Nat.le_of_ble_eq_true rfl), (Nat.le_of_ble_eq_true rfl)⟩ (fun _ _ _ h => h.elim) (fun v9 ad9 τ9 hP => ?_)
      obtain ⟨rfl, h2, hH⟩ := hP
      replace h2 := h2.symm
      subst h2
      exact a_iret cx hr dX4_addBeamline_27 (Nat.le_of_ble_eq_true rfl) (Nat.le_of_ble_eq_true rfl) ⟨⟨_, rfl, fun q => absurd (((show jBeam C s9 m9 = 1 from (by unfold jBeam; rw [if_neg (fun h => hw16.1 c_19 h.2)]))).symm.trans q) (by decide)⟩, rfl, m_no (show jBeam C s9 m9 = 1 from (by unfold jBeam; rw [if_neg (fun h => hw16.1 c_19 h.2)])) (by decide) hH⟩

def jRate (C : ME) (b u : Int32) : Int32 := if okm (mNb C) b then (if win u 0 99 then (0) else 2) else 1
set_option maxHeartbeats 4000000 in
set_option maxRecDepth 100000 in
/-- model: setRate -/
theorem sp_X4_setRate {l : Launch} {g : GW} {ad : AD} {τ : RH} {Lv : Nat → Bool} {C : ME} {ρ : RH} {b u : Int32} (hH : HH g ad Lv C ρ τ) (hL : mL Lv) (hI : mI C) : Sp l g yX4_setRate (.code yX4_setRate cX4_setRate 4 (some .int)) (rmv 4 0 0) [.ref (ad 60), .int b, .int u] ad τ 0 0 (fun v ad' τ' => (∃ w, v = some (.int w) ∧ (jRate C b u = 0 → w = C 63 (tn b))) ∧ ad' = ad ∧ HH g ad Lv (up2 (if jRate C b u = 0 then up2 C 63 (tn b) u else C) 60 0 (jRate C b u)) ρ τ') (NoX) := by
  refine Sp.of 1 [some (.ref (ad 60)), some (.int b), some (.int u), none] (by decide +kernel) (Nat.le_of_ble_eq_true rfl) rfl ?_
  intro p e s m args below meth c A cx hout hr hnm
  have hM := M_obj hH hL
  have hR := M_row hH hL
  refine a_aload_n cx dX4_setRate_0 rfl rfl ?_
  refine a_iload_n cx dX4_setRate_1 rfl rfl ?_
  refine a_callV cx 1 (sp_X4_isLine (b := b) hH hL hI) hM rfl ml_X4_102 im_X4_isLine se_X4_isLine ini_X4 cd_X4_isLine rfl rfl (by decide +kernel) rfl rfl ⟨(Nat.le_of_ble_eq_true rfl), (Nat.le_of_ble_eq_true rfl)⟩ (Nat.le_of_ble_eq_true rfl) dX4_setRate_2 ⟨(Nat.le_of_ble_eq_true rfl), (Nat.le_of_ble_eq_true rfl)⟩ (fun _ _ _ h => h.elim) (fun v9 ad9 τ9 hP => ?_)
  obtain ⟨⟨w2, rfl, hw2⟩, h2, h3⟩ := hP
  replace h2 := h2.symm
  subst h2
  replace h3 := h3.symm
  subst h3
  replace hw2 := w_if hw2
  refine a_if_ne cx (tgt := 14) dX4_setRate_5 (by decide) (fun c_5 => ?_) (fun c_5 => ?_)
  · refine a_iload_n cx dX4_setRate_14 rfl rfl ?_
    refine a_iconst cx (v := 0) dX4_setRate_15 (by decide) ?_
    refine a_bipush cx (v := 99) dX4_setRate_16 (by decide) ?_
    refine a_callS cx 3 (sp_X4_in (x := u) (lo := 0) (hi := 99)) ml_X4_88 st_X4_in ini_X4 cd_X4_in rfl rfl (by decide +kernel) rfl rfl ⟨(Nat.le_of_ble_eq_true rfl), (Nat.le_of_ble_eq_true rfl)⟩ (Nat.le_of_ble_eq_true rfl) dX4_setRate_18 ⟨(Nat.le_of_ble_eq_true rfl), (Nat.le_of_ble_eq_true rfl)⟩ (fun _ _ _ h => h.elim) (fun v9 ad9 τ9 hP => ?_)
    obtain ⟨⟨w18, rfl, hw18⟩, h2, h3⟩ := hP
    replace h2 := h2.symm
    subst h2
    replace h3 := h3.symm
    subst h3
    replace hw18 := w_if hw18
    refine a_if_ne cx (tgt := 30) dX4_setRate_21 (by decide) (fun c_21 => ?_) (fun c_21 => ?_)
    · refine a_aload_n cx dX4_setRate_30 rfl rfl ?_
      refine gf_X4_16 cx hM dX4_setRate_31 ?_
      refine a_iload_n cx dX4_setRate_34 rfl rfl ?_
      refine a_ild cx (tn b) (by exact hR _ (by decide) (by decide)) ((okm_ix (hw2.2 c_5) (by have := hI.2.1; omega)).1) ((by have h9 := (okm_ix (hw2.2 c_5) (by have := hI.2.1; omega)).2; have := hI.2.1; omega)) (by decide) dX4_setRate_35 ?_
      refine a_istore_n3 cx dX4_setRate_36 rfl (by decide) (by intro w h; first | (cases h; rfl) | (cases h; assumption) | (cases h; done)) ?_
      refine a_aload_n cx dX4_setRate_37 rfl rfl ?_
      refine gf_X4_16 cx hM dX4_setRate_38 ?_
      refine a_iload_n cx dX4_setRate_41 rfl rfl ?_
      refine a_iload_n cx dX4_setRate_42 rfl rfl ?_
      refine a_ist cx (tn b) (by exact hR _ (by decide) (by decide)) ((okm_ix (hw2.2 c_5) (by have := hI.2.1; omega)).1) ((by have h9 := (okm_ix (hw2.2 c_5) (by have := hI.2.1; omega)).2; have := hI.2.1; omega)) (by decide)  dX4_setRate_43 ?_
      refine a_HH (hH.put (r := 63) (tn b) _ (by decide) (hL 63 (by decide) (by decide)) rfl) (fun τ hH => ?_)
      have hR := M_row hH hL
      have hM := M_obj hH hL
      refine a_aload_n cx dX4_setRate_44 rfl rfl ?_
      refine a_iload_n cx dX4_setRate_45 rfl rfl ?_
      refine a_callV cx 1 (sp_X4_tells hH hL) hM rfl ml_X4_99 im_X4_tells se_X4_tells ini_X4 cd_X4_tells rfl rfl (by decide +kernel) rfl rfl ⟨(Nat.le_of_ble_eq_true rfl), (Nat.le_of_ble_eq_true rfl)⟩ (Nat.le_of_ble_eq_true rfl) dX4_setRate_46 ⟨(Nat.le_of_ble_eq_true rfl), (Nat.le_of_ble_eq_true rfl)⟩ (fun _ _ _ h => h.elim) (fun v9 ad9 τ9 hP => ?_)
      obtain ⟨rfl, h2, hH⟩ := hP
      replace h2 := h2.symm
      subst h2
      exact a_iret cx hr dX4_setRate_49 (Nat.le_of_ble_eq_true rfl) (Nat.le_of_ble_eq_true rfl) ⟨⟨_, rfl, fun _ => rfl⟩, rfl, m_ok (show jRate C b u = 0 from (by unfold jRate; rw [if_pos (hw2.2 c_5), if_pos (hw18.2 c_21)])) hH⟩
    · refine a_aload_n cx dX4_setRate_24 rfl rfl ?_
      refine a_iconst cx (v := 2) dX4_setRate_25 (by decide) ?_
      refine a_callV cx 1 (sp_X4_fails (k := 2) hH hL) hM rfl ml_X4_95 im_X4_fails se_X4_fails ini_X4 cd_X4_fails rfl rfl (by decide +kernel) rfl rfl ⟨(Nat.le_of_ble_eq_true rfl), (Nat.le_of_ble_eq_true rfl)⟩ (Nat.le_of_ble_eq_true rfl) dX4_setRate_26 ⟨(Nat.le_of_ble_eq_true rfl), (Nat.le_of_ble_eq_true rfl)⟩ (fun _ _ _ h => h.elim) (fun v9 ad9 τ9 hP => ?_)
      obtain ⟨rfl, h2, hH⟩ := hP
      replace h2 := h2.symm
      subst h2
      exact a_iret cx hr dX4_setRate_29 (Nat.le_of_ble_eq_true rfl) (Nat.le_of_ble_eq_true rfl) ⟨⟨_, rfl, fun q => absurd (((show jRate C b u = 2 from (by unfold jRate; rw [if_pos (hw2.2 c_5), if_neg (hw18.1 c_21)]))).symm.trans q) (by decide)⟩, rfl, m_no (show jRate C b u = 2 from (by unfold jRate; rw [if_pos (hw2.2 c_5), if_neg (hw18.1 c_21)])) (by decide) hH⟩
  · refine a_aload_n cx dX4_setRate_8 rfl rfl ?_
    refine a_iconst cx (v := 1) dX4_setRate_9 (by decide) ?_
    refine a_callV cx 1 (sp_X4_fails (k := 1) hH hL) hM rfl ml_X4_95 im_X4_fails se_X4_fails ini_X4 cd_X4_fails rfl rfl (by decide +kernel) rfl rfl ⟨(Nat.le_of_ble_eq_true rfl), (Nat.le_of_ble_eq_true rfl)⟩ (Nat.le_of_ble_eq_true rfl) dX4_setRate_10 ⟨(Nat.le_of_ble_eq_true rfl), (Nat.le_of_ble_eq_true rfl)⟩ (fun _ _ _ h => h.elim) (fun v9 ad9 τ9 hP => ?_)
    obtain ⟨rfl, h2, hH⟩ := hP
    replace h2 := h2.symm
    subst h2
    exact a_iret cx hr dX4_setRate_13 (Nat.le_of_ble_eq_true rfl) (Nat.le_of_ble_eq_true rfl) ⟨⟨_, rfl, fun q => absurd (((show jRate C b u = 1 from (by unfold jRate; rw [if_neg (hw2.1 c_5)]))).symm.trans q) (by decide)⟩, rfl, m_no (show jRate C b u = 1 from (by unfold jRate; rw [if_neg (hw2.1 c_5)])) (by decide) hH⟩

def jPrp (C : ME) (b us sc w d : Int32) : Int32 := if okm (mNb C) b then (if okm 10 us ∧ win sc 0 100 ∧ win w 1 9 ∧ win d 0 99 then (if C 68 (tn b) = 0 then (if C 60 2 = 8 then 3 else 0) else 3) else 2) else 1
set_option maxHeartbeats 4000000 in
set_option maxRecDepth 100000 in
/-- model: propose -/
theorem sp_X4_propose {l : Launch} {g : GW} {ad : AD} {τ : RH} {Lv : Nat → Bool} {C : ME} {ρ : RH} {b us sc w9 d9 : Int32} (hH : HH g ad Lv C ρ τ) (hL : mL Lv) (hI : mI C) : Sp l g yX4_propose (.code yX4_propose cX4_propose 6 (some .int)) (rmv 4 0 0) [.ref (ad 60), .int b, .int us, .int sc, .int w9, .int d9] ad τ 0 0 (fun v ad' τ' => (∃ w, v = some (.int w) ∧ (jPrp C b us sc w9 d9 = 0 → w = C 60 2 + 1 - 1)) ∧ ad' = ad ∧ HH g ad Lv (up2 (if jPrp C b us sc w9 d9 = 0 then up2 (up2 (up2 (up2 (up2 (up2 C 70 (mNp C) b) 71 (mNp C) us) 72 (mNp C) sc) 73 (mNp C) w9) 74 (mNp C) d9) 60 2 (C 60 2 + 1) else C) 60 0 (jPrp C b us sc w9 d9)) ρ τ') (NoX) := by
  refine Sp.of 0 [some (.ref (ad 60)), some (.int b), some (.int us), some (.int sc), some (.int w9), some (.int d9)] (by decide +kernel) (Nat.le_of_ble_eq_true rfl) rfl ?_
  intro p e s m args below meth c A cx hout hr hnm
  have hM := M_obj hH hL
  have hR := M_row hH hL
  refine a_aload_n cx dX4_propose_0 rfl rfl ?_
  refine a_iload_n cx dX4_propose_1 rfl rfl ?_
  refine a_callV cx 1 (sp_X4_isLine (b := b) hH hL hI) hM rfl ml_X4_102 im_X4_isLine se_X4_isLine ini_X4 cd_X4_isLine rfl rfl (by decide +kernel) rfl rfl ⟨(Nat.le_of_ble_eq_true rfl), (Nat.le_of_ble_eq_true rfl)⟩ (Nat.le_of_ble_eq_true rfl) dX4_propose_2 ⟨(Nat.le_of_ble_eq_true rfl), (Nat.le_of_ble_eq_true rfl)⟩ (fun _ _ _ h => h.elim) (fun v9 ad9 τ9 hP => ?_)
  obtain ⟨⟨w2, rfl, hw2⟩, h2, h3⟩ := hP
  replace h2 := h2.symm
  subst h2
  replace h3 := h3.symm
  subst h3
  replace hw2 := w_if hw2
  refine a_if_ne cx (tgt := 14) dX4_propose_5 (by decide) (fun c_5 => ?_) (fun c_5 => ?_)
  · refine a_iload_n cx dX4_propose_14 rfl rfl ?_
    refine a_callS cx 1 (sp_X4_isUser (b := us)) ml_X4_106 st_X4_isUser ini_X4 cd_X4_isUser rfl rfl (by decide +kernel) rfl rfl ⟨(Nat.le_of_ble_eq_true rfl), (Nat.le_of_ble_eq_true rfl)⟩ (Nat.le_of_ble_eq_true rfl) dX4_propose_15 ⟨(Nat.le_of_ble_eq_true rfl), (Nat.le_of_ble_eq_true rfl)⟩ (fun _ _ _ h => h.elim) (fun v9 ad9 τ9 hP => ?_)
    obtain ⟨⟨w15, rfl, hw15⟩, h2, h3⟩ := hP
    replace h2 := h2.symm
    subst h2
    replace h3 := h3.symm
    subst h3
    replace hw15 := w_if hw15
    refine a_if_eq cx (tgt := 53) dX4_propose_18 (by decide) (fun c_18 => ?_) (fun c_18 => ?_)
    · refine a_aload_n cx dX4_propose_53 rfl rfl ?_
      refine a_iconst cx (v := 2) dX4_propose_54 (by decide) ?_
      refine a_callV cx 1 (sp_X4_fails (k := 2) hH hL) hM rfl ml_X4_95 im_X4_fails se_X4_fails ini_X4 cd_X4_fails rfl rfl (by decide +kernel) rfl rfl ⟨(Nat.le_of_ble_eq_true rfl), (Nat.le_of_ble_eq_true rfl)⟩ (Nat.le_of_ble_eq_true rfl) dX4_propose_55 ⟨(Nat.le_of_ble_eq_true rfl), (Nat.le_of_ble_eq_true rfl)⟩ (fun _ _ _ h => h.elim) (fun v9 ad9 τ9 hP => ?_)
      obtain ⟨rfl, h2, hH⟩ := hP
      replace h2 := h2.symm
      subst h2
      exact a_iret cx hr dX4_propose_58 (Nat.le_of_ble_eq_true rfl) (Nat.le_of_ble_eq_true rfl) ⟨⟨_, rfl, fun q => absurd (((show jPrp C b us sc w9 d9 = 2 from (by unfold jPrp; rw [if_pos (hw2.2 c_5), if_neg (fun h => hw15.1 c_18 h.1)]))).symm.trans q) (by decide)⟩, rfl, m_no (show jPrp C b us sc w9 d9 = 2 from (by unfold jPrp; rw [if_pos (hw2.2 c_5), if_neg (fun h => hw15.1 c_18 h.1)])) (by decide) hH⟩
    · refine a_iload_n cx dX4_propose_21 rfl rfl ?_
      refine a_iconst cx (v := 0) dX4_propose_22 (by decide) ?_
      refine a_bipush cx (v := 100) dX4_propose_23 (by decide) ?_
      refine a_callS cx 3 (sp_X4_in (x := sc) (lo := 0) (hi := 100)) ml_X4_88 st_X4_in ini_X4 cd_X4_in rfl rfl (by decide +kernel) rfl rfl ⟨(Nat.le_of_ble_eq_true rfl), (Nat.le_of_ble_eq_true rfl)⟩ (Nat.le_of_ble_eq_true rfl) dX4_propose_25 ⟨(Nat.le_of_ble_eq_true rfl), (Nat.le_of_ble_eq_true rfl)⟩ (fun _ _ _ h => h.elim) (fun v9 ad9 τ9 hP => ?_)
      obtain ⟨⟨w25, rfl, hw25⟩, h2, h3⟩ := hP
      replace h2 := h2.symm
      subst h2
      replace h3 := h3.symm
      subst h3
      replace hw25 := w_if hw25
      refine a_if_eq cx (tgt := 53) dX4_propose_28 (by decide) (fun c_28 => ?_) (fun c_28 => ?_)
      · refine a_aload_n cx dX4_propose_53 rfl rfl ?_
        refine a_iconst cx (v := 2) dX4_propose_54 (by decide) ?_
        refine a_callV cx 1 (sp_X4_fails (k := 2) hH hL) hM rfl ml_X4_95 im_X4_fails se_X4_fails ini_X4 cd_X4_fails rfl rfl (by decide +kernel) rfl rfl ⟨(Nat.le_of_ble_eq_true rfl), (Nat.le_of_ble_eq_true rfl)⟩ (Nat.le_of_ble_eq_true rfl) dX4_propose_55 ⟨(Nat.le_of_ble_eq_true rfl), (Nat.le_of_ble_eq_true rfl)⟩ (fun _ _ _ h => h.elim) (fun v9 ad9 τ9 hP => ?_)
        obtain ⟨rfl, h2, hH⟩ := hP
        replace h2 := h2.symm
        subst h2
        exact a_iret cx hr dX4_propose_58 (Nat.le_of_ble_eq_true rfl) (Nat.le_of_ble_eq_true rfl) ⟨⟨_, rfl, fun q => absurd (((show jPrp C b us sc w9 d9 = 2 from (by unfold jPrp; rw [if_pos (hw2.2 c_5), if_neg (fun h => hw25.1 c_28 h.2.1)]))).symm.trans q) (by decide)⟩, rfl, m_no (show jPrp C b us sc w9 d9 = 2 from (by unfold jPrp; rw [if_pos (hw2.2 c_5), if_neg (fun h => hw25.1 c_28 h.2.1)])) (by decide) hH⟩
      · refine a_iload cx dX4_propose_31 rfl ?_
        refine a_iconst cx (v := 1) dX4_propose_33 (by decide) ?_
        refine a_bipush cx (v := 9) dX4_propose_34 (by decide) ?_
        refine a_callS cx 3 (sp_X4_in (x := w9) (lo := 1) (hi := 9)) ml_X4_88 st_X4_in ini_X4 cd_X4_in rfl rfl (by decide +kernel) rfl rfl ⟨(Nat.le_of_ble_eq_true rfl), (Nat.le_of_ble_eq_true rfl)⟩ (Nat.le_of_ble_eq_true rfl) dX4_propose_36 ⟨(Nat.le_of_ble_eq_true rfl), (Nat.le_of_ble_eq_true rfl)⟩ (fun _ _ _ h => h.elim) (fun v9 ad9 τ9 hP => ?_)
        obtain ⟨⟨w36, rfl, hw36⟩, h2, h3⟩ := hP
        replace h2 := h2.symm
        subst h2
        replace h3 := h3.symm
        subst h3
        replace hw36 := w_if hw36
        refine a_if_eq cx (tgt := 53) dX4_propose_39 (by decide) (fun c_39 => ?_) (fun c_39 => ?_)
        · refine a_aload_n cx dX4_propose_53 rfl rfl ?_
          refine a_iconst cx (v := 2) dX4_propose_54 (by decide) ?_
          refine a_callV cx 1 (sp_X4_fails (k := 2) hH hL) hM rfl ml_X4_95 im_X4_fails se_X4_fails ini_X4 cd_X4_fails rfl rfl (by decide +kernel) rfl rfl ⟨(Nat.le_of_ble_eq_true rfl), (Nat.le_of_ble_eq_true rfl)⟩ (Nat.le_of_ble_eq_true rfl) dX4_propose_55 ⟨(Nat.le_of_ble_eq_true rfl), (Nat.le_of_ble_eq_true rfl)⟩ (fun _ _ _ h => h.elim) (fun v9 ad9 τ9 hP => ?_)
          obtain ⟨rfl, h2, hH⟩ := hP
          replace h2 := h2.symm
          subst h2
          exact a_iret cx hr dX4_propose_58 (Nat.le_of_ble_eq_true rfl) (Nat.le_of_ble_eq_true rfl) ⟨⟨_, rfl, fun q => absurd (((show jPrp C b us sc w9 d9 = 2 from (by unfold jPrp; rw [if_pos (hw2.2 c_5), if_neg (fun h => hw36.1 c_39 h.2.2.1)]))).symm.trans q) (by decide)⟩, rfl, m_no (show jPrp C b us sc w9 d9 = 2 from (by unfold jPrp; rw [if_pos (hw2.2 c_5), if_neg (fun h => hw36.1 c_39 h.2.2.1)])) (by decide) hH⟩
        · refine a_iload cx dX4_propose_42 rfl ?_
          refine a_iconst cx (v := 0) dX4_propose_44 (by decide) ?_
          refine a_bipush cx (v := 99) dX4_propose_45 (by decide) ?_
          refine a_callS cx 3 (sp_X4_in (x := d9) (lo := 0) (hi := 99)) ml_X4_88 st_X4_in ini_X4 cd_X4_in rfl rfl (by decide +kernel) rfl rfl ⟨(Nat.le_of_ble_eq_true rfl), (Nat.le_of_ble_eq_true rfl)⟩ (Nat.le_of_ble_eq_true rfl) dX4_propose_47 ⟨(Nat.le_of_ble_eq_true rfl), (Nat.le_of_ble_eq_true rfl)⟩ (fun _ _ _ h => h.elim) (fun v9 ad9 τ9 hP => ?_)
          obtain ⟨⟨w47, rfl, hw47⟩, h2, h3⟩ := hP
          replace h2 := h2.symm
          subst h2
          replace h3 := h3.symm
          subst h3
          replace hw47 := w_if hw47
          refine a_if_ne cx (tgt := 59) dX4_propose_50 (by decide) (fun c_50 => ?_) (fun c_50 => ?_)
          · refine a_aload_n cx dX4_propose_59 rfl rfl ?_
            refine gf_X4_31 cx hM dX4_propose_60 ?_
            refine a_iload_n cx dX4_propose_63 rfl rfl ?_
            refine a_zld cx (tn b) (by exact hR _ (by decide) (by decide)) ((okm_ix (hw2.2 c_5) (by have := hI.2.1; omega)).1) ((by have h9 := (okm_ix (hw2.2 c_5) (by have := hI.2.1; omega)).2; have := hI.2.1; omega)) (by decide) dX4_propose_64 ?_
            refine a_if_ne cx (tgt := 77) dX4_propose_65 (by decide) (fun c_65 => ?_) (fun c_65 => ?_)
            · refine a_aload_n cx dX4_propose_77 rfl rfl ?_
              refine a_iconst cx (v := 3) dX4_propose_78 (by decide) ?_
              refine a_callV cx 1 (sp_X4_fails (k := 3) hH hL) hM rfl ml_X4_95 im_X4_fails se_X4_fails ini_X4 cd_X4_fails rfl rfl (by decide +kernel) rfl rfl ⟨(Nat.le_of_ble_eq_true rfl), (Nat.le_of_ble_eq_true rfl)⟩ (Nat.le_of_ble_eq_true rfl) dX4_propose_79 ⟨(Nat.le_of_ble_eq_true rfl), (Nat.le_of_ble_eq_true rfl)⟩ (fun _ _ _ h => h.elim) (fun v9 ad9 τ9 hP => ?_)
              obtain ⟨rfl, h2, hH⟩ := hP
              replace h2 := h2.symm
              subst h2
              exact a_iret cx hr dX4_propose_82 (Nat.le_of_ble_eq_true rfl) (Nat.le_of_ble_eq_true rfl) ⟨⟨_, rfl, fun q => absurd (((show jPrp C b us sc w9 d9 = 3 from (by unfold jPrp; rw [if_pos (hw2.2 c_5), if_pos (⟨hw15.2 c_18, hw25.2 c_28, hw36.2 c_39, hw47.2 c_50⟩), if_neg (c_65)]))).symm.trans q) (by decide)⟩, rfl, m_no (show jPrp C b us sc w9 d9 = 3 from (by unfold jPrp; rw [if_pos (hw2.2 c_5), if_pos (⟨hw15.2 c_18, hw25.2 c_28, hw36.2 c_39, hw47.2 c_50⟩), if_neg (c_65)])) (by decide) hH⟩
            · refine a_aload_n cx dX4_propose_68 rfl rfl ?_
              refine gf_X4_92 cx hM dX4_propose_69 ?_
              refine a_bipush cx (v := 8) dX4_propose_72 (by decide) ?_
              refine a_icmp_ne cx (tgt := 83) dX4_propose_74 (by decide) (fun c_74 => ?_) (fun c_74 => ?_)
              · refine a_aload_n cx dX4_propose_83 rfl rfl ?_
                refine gf_X4_38 cx hM dX4_propose_84 ?_
                refine a_aload_n cx dX4_propose_87 rfl rfl ?_
                refine gf_X4_92 cx hM dX4_propose_88 ?_
                refine a_iload_n cx dX4_propose_91 rfl rfl ?_
                refine a_ist cx (mNp C) (by exact hR _ (by decide) (by decide)) (hI.2.2.1) ((by have h9 : ¬ mNp C = 8 := (fun q => c_74 (by rw [hI.2.2.1, q]; rfl)); have := hI.2.2.2.1; omega)) (by decide)  dX4_propose_92 ?_
                refine a_HH (hH.put (r := 70) (mNp C) _ (by decide) (hL 70 (by decide) (by decide)) rfl) (fun τ hH => ?_)
                have hR := M_row hH hL
                have hM := M_obj hH hL
                refine a_aload_n cx dX4_propose_93 rfl rfl ?_
                refine gf_X4_41 cx hM dX4_propose_94 ?_
                refine a_aload_n cx dX4_propose_97 rfl rfl ?_
                refine gf_X4_92 cx hM dX4_propose_98 ?_
                refine a_iload_n cx dX4_propose_101 rfl rfl ?_
                refine a_ist cx (mNp C) (by exact hR _ (by decide) (by decide)) (hI.2.2.1) ((by have h9 : ¬ mNp C = 8 := (fun q => c_74 (by rw [hI.2.2.1, q]; rfl)); have := hI.2.2.2.1; omega)) (by decide)  dX4_propose_102 ?_
                refine a_HH (hH.put (r := 71) (mNp C) _ (by decide) (hL 71 (by decide) (by decide)) rfl) (fun τ hH => ?_)
                have hR := M_row hH hL
                have hM := M_obj hH hL
                refine a_aload_n cx dX4_propose_103 rfl rfl ?_
                refine gf_X4_44 cx hM dX4_propose_104 ?_
                refine a_aload_n cx dX4_propose_107 rfl rfl ?_
                refine gf_X4_92 cx hM dX4_propose_108 ?_
                refine a_iload_n cx dX4_propose_111 rfl rfl ?_
                refine a_ist cx (mNp C) (by exact hR _ (by decide) (by decide)) (hI.2.2.1) ((by have h9 : ¬ mNp C = 8 := (fun q => c_74 (by rw [hI.2.2.1, q]; rfl)); have := hI.2.2.2.1; omega)) (by decide)  dX4_propose_112 ?_
                refine a_HH (hH.put (r := 72) (mNp C) _ (by decide) (hL 72 (by decide) (by decide)) rfl) (fun τ hH => ?_)
                have hR := M_row hH hL
                have hM := M_obj hH hL
                refine a_aload_n cx dX4_propose_113 rfl rfl ?_
                refine gf_X4_47 cx hM dX4_propose_114 ?_
                refine a_aload_n cx dX4_propose_117 rfl rfl ?_
                refine gf_X4_92 cx hM dX4_propose_118 ?_
                refine a_iload cx dX4_propose_121 rfl ?_
                refine a_ist cx (mNp C) (by exact hR _ (by decide) (by decide)) (hI.2.2.1) ((by have h9 : ¬ mNp C = 8 := (fun q => c_74 (by rw [hI.2.2.1, q]; rfl)); have := hI.2.2.2.1; omega)) (by decide)  dX4_propose_123 ?_
                refine a_HH (hH.put (r := 73) (mNp C) _ (by decide) (hL 73 (by decide) (by decide)) rfl) (fun τ hH => ?_)
                have hR := M_row hH hL
                have hM := M_obj hH hL
                refine a_aload_n cx dX4_propose_124 rfl rfl ?_
                refine gf_X4_50 cx hM dX4_propose_125 ?_
                refine a_aload_n cx dX4_propose_128 rfl rfl ?_
                refine gf_X4_92 cx hM dX4_propose_129 ?_
                refine a_iload cx dX4_propose_132 rfl ?_
                refine a_ist cx (mNp C) (by exact hR _ (by decide) (by decide)) (hI.2.2.1) ((by have h9 : ¬ mNp C = 8 := (fun q => c_74 (by rw [hI.2.2.1, q]; rfl)); have := hI.2.2.2.1; omega)) (by decide)  dX4_propose_134 ?_
                refine a_HH (hH.put (r := 74) (mNp C) _ (by decide) (hL 74 (by decide) (by decide)) rfl) (fun τ hH => ?_)
                have hR := M_row hH hL
                have hM := M_obj hH hL
                refine a_aload_n cx dX4_propose_135 rfl rfl ?_
                refine a_dup cx dX4_propose_136 rfl ?_
                refine gf_X4_92 cx hM dX4_propose_137 ?_
                refine a_iconst cx (v := 1) dX4_propose_140 (by decide) ?_
                refine a_iadd cx dX4_propose_141 ?_
                refine pf_X4_92 cx hM dX4_propose_142 ?_
                refine a_HH (hH.put (r := 60) (2) _ (by decide) (hL 60 (by decide) (by decide)) rfl) (fun τ hH => ?_)
                have hR := M_row hH hL
                have hM := M_obj hH hL
                refine a_aload_n cx dX4_propose_145 rfl rfl ?_
                refine a_aload_n cx dX4_propose_146 rfl rfl ?_
                refine gf_X4_92 cx hM dX4_propose_147 ?_
                refine a_iconst cx (v := 1) dX4_propose_150 (by decide) ?_
                refine a_isub cx dX4_propose_151 ?_
                refine a_callV cx 1 (sp_X4_tells hH hL) hM rfl ml_X4_99 im_X4_tells se_X4_tells ini_X4 cd_X4_tells rfl rfl (by decide +kernel) rfl rfl ⟨(Nat.le_of_ble_eq_true rfl), (Nat.le_of_ble_eq_true rfl)⟩ (Nat.le_of_ble_eq_true rfl) dX4_propose_152 ⟨(Nat.le_of_ble_eq_true rfl), (Nat.le_of_ble_eq_true rfl)⟩ (fun _ _ _ h => h.elim) (fun v9 ad9 τ9 hP => ?_)
                obtain ⟨rfl, h2, hH⟩ := hP
                replace h2 := h2.symm
                subst h2
                exact a_iret cx hr dX4_propose_155 (Nat.le_of_ble_eq_true rfl) (Nat.le_of_ble_eq_true rfl) ⟨⟨_, rfl, fun _ => rfl⟩, rfl, m_ok (show jPrp C b us sc w9 d9 = 0 from (by unfold jPrp; rw [if_pos (hw2.2 c_5), if_pos (⟨hw15.2 c_18, hw25.2 c_28, hw36.2 c_39, hw47.2 c_50⟩), if_pos (c_65), if_neg (c_74)])) hH⟩
              · refine a_aload_n cx dX4_propose_77 rfl rfl ?_
                refine a_iconst cx (v := 3) dX4_propose_78 (by decide) ?_
                refine a_callV cx 1 (sp_X4_fails (k := 3) hH hL) hM rfl ml_X4_95 im_X4_fails se_X4_fails ini_X4 cd_X4_fails rfl rfl (by decide +kernel) rfl rfl ⟨(Nat.le_of_ble_eq_true rfl), (Nat.le_of_ble_eq_true rfl)⟩ (Nat.le_of_ble_eq_true rfl) dX4_propose_79 ⟨(Nat.le_of_ble_eq_true rfl), (Nat.le_of_ble_eq_true rfl)⟩ (fun _ _ _ h => h.elim) (fun v9 ad9 τ9 hP => ?_)
                obtain ⟨rfl, h2, hH⟩ := hP
                replace h2 := h2.symm
                subst h2
                exact a_iret cx hr dX4_propose_82 (Nat.le_of_ble_eq_true rfl) (Nat.le_of_ble_eq_true rfl) ⟨⟨_, rfl, fun q => absurd (((show jPrp C b us sc w9 d9 = 3 from (by unfold jPrp; rw [if_pos (hw2.2 c_5), if_pos (⟨hw15.2 c_18, hw25.2 c_28, hw36.2 c_39, hw47.2 c_50⟩), if_pos (c_65), if_pos (c_74)]))).symm.trans q) (by decide)⟩, rfl, m_no (show jPrp C b us sc w9 d9 = 3 from (by unfold jPrp; rw [if_pos (hw2.2 c_5), if_pos (⟨hw15.2 c_18, hw25.2 c_28, hw36.2 c_39, hw47.2 c_50⟩), if_pos (c_65), if_pos (c_74)])) (by decide) hH⟩
          · refine a_aload_n cx dX4_propose_53 rfl rfl ?_
            refine a_iconst cx (v := 2) dX4_propose_54 (by decide) ?_
            refine a_callV cx 1 (sp_X4_fails (k := 2) hH hL) hM rfl ml_X4_95 im_X4_fails se_X4_fails ini_X4 cd_X4_fails rfl rfl (by decide +kernel) rfl rfl ⟨(Nat.le_of_ble_eq_true rfl), (Nat.le_of_ble_eq_true rfl)⟩ (Nat.le_of_ble_eq_true rfl) dX4_propose_55 ⟨(Nat.le_of_ble_eq_true rfl), (Nat.le_of_ble_eq_true rfl)⟩ (fun _ _ _ h => h.elim) (fun v9 ad9 τ9 hP => ?_)
            obtain ⟨rfl, h2, hH⟩ := hP
            replace h2 := h2.symm
            subst h2
            exact a_iret cx hr dX4_propose_58 (Nat.le_of_ble_eq_true rfl) (Nat.le_of_ble_eq_true rfl) ⟨⟨_, rfl, fun q => absurd (((show jPrp C b us sc w9 d9 = 2 from (by unfold jPrp; rw [if_pos (hw2.2 c_5), if_neg (fun h => hw47.1 c_50 h.2.2.2)]))).symm.trans q) (by decide)⟩, rfl, m_no (show jPrp C b us sc w9 d9 = 2 from (by unfold jPrp; rw [if_pos (hw2.2 c_5), if_neg (fun h => hw47.1 c_50 h.2.2.2)])) (by decide) hH⟩
  · refine a_aload_n cx dX4_propose_8 rfl rfl ?_
    refine a_iconst cx (v := 1) dX4_propose_9 (by decide) ?_
    refine a_callV cx 1 (sp_X4_fails (k := 1) hH hL) hM rfl ml_X4_95 im_X4_fails se_X4_fails ini_X4 cd_X4_fails rfl rfl (by decide +kernel) rfl rfl ⟨(Nat.le_of_ble_eq_true rfl), (Nat.le_of_ble_eq_true rfl)⟩ (Nat.le_of_ble_eq_true rfl) dX4_propose_10 ⟨(Nat.le_of_ble_eq_true rfl), (Nat.le_of_ble_eq_true rfl)⟩ (fun _ _ _ h => h.elim) (fun v9 ad9 τ9 hP => ?_)
    obtain ⟨rfl, h2, hH⟩ := hP
    replace h2 := h2.symm
    subst h2
    exact a_iret cx hr dX4_propose_13 (Nat.le_of_ble_eq_true rfl) (Nat.le_of_ble_eq_true rfl) ⟨⟨_, rfl, fun q => absurd (((show jPrp C b us sc w9 d9 = 1 from (by unfold jPrp; rw [if_neg (hw2.1 c_5)]))).symm.trans q) (by decide)⟩, rfl, m_no (show jPrp C b us sc w9 d9 = 1 from (by unfold jPrp; rw [if_neg (hw2.1 c_5)])) (by decide) hH⟩

def jRes (C : ME) (b : Int32) : Int32 := if okm (mNb C) b then (if ¬ C 68 (tn b) = 0 then (0) else 2) else 1
set_option maxHeartbeats 4000000 in
set_option maxRecDepth 100000 in
/-- model: reserve -/
theorem sp_X4_reserve {l : Launch} {g : GW} {ad : AD} {τ : RH} {Lv : Nat → Bool} {C : ME} {ρ : RH} {b : Int32} (hH : HH g ad Lv C ρ τ) (hL : mL Lv) (hI : mI C) : Sp l g yX4_reserve (.code yX4_reserve cX4_reserve 2 (some .int)) (rmv 4 0 0) [.ref (ad 60), .int b] ad τ 0 0 (fun v ad' τ' => (∃ w, v = some (.int w) ∧ (jRes C b = 0 → w = C 65 (tn b))) ∧ ad' = ad ∧ HH g ad Lv (up2 (if jRes C b = 0 then C else C) 60 0 (jRes C b)) ρ τ') (NoX) := by
  refine Sp.of 0 [some (.ref (ad 60)), some (.int b)] (by decide +kernel) (Nat.le_of_ble_eq_true rfl) rfl ?_
  intro p e s m args below meth c A cx hout hr hnm
  have hM := M_obj hH hL
  have hR := M_row hH hL
  refine a_aload_n cx dX4_reserve_0 rfl rfl ?_
  refine a_iload_n cx dX4_reserve_1 rfl rfl ?_
  refine a_callV cx 1 (sp_X4_isLine (b := b) hH hL hI) hM rfl ml_X4_102 im_X4_isLine se_X4_isLine ini_X4 cd_X4_isLine rfl rfl (by decide +kernel) rfl rfl ⟨(Nat.le_of_ble_eq_true rfl), (Nat.le_of_ble_eq_true rfl)⟩ (Nat.le_of_ble_eq_true rfl) dX4_reserve_2 ⟨(Nat.le_of_ble_eq_true rfl), (Nat.le_of_ble_eq_true rfl)⟩ (fun _ _ _ h => h.elim) (fun v9 ad9 τ9 hP => ?_)
  obtain ⟨⟨w2, rfl, hw2⟩, h2, h3⟩ := hP
  replace h2 := h2.symm
  subst h2
  replace h3 := h3.symm
  subst h3
  replace hw2 := w_if hw2
  refine a_if_ne cx (tgt := 14) dX4_reserve_5 (by decide) (fun c_5 => ?_) (fun c_5 => ?_)
  · refine a_aload_n cx dX4_reserve_14 rfl rfl ?_
    refine gf_X4_31 cx hM dX4_reserve_15 ?_
    refine a_iload_n cx dX4_reserve_18 rfl rfl ?_
    refine a_zld cx (tn b) (by exact hR _ (by decide) (by decide)) ((okm_ix (hw2.2 c_5) (by have := hI.2.1; omega)).1) ((by have h9 := (okm_ix (hw2.2 c_5) (by have := hI.2.1; omega)).2; have := hI.2.1; omega)) (by decide) dX4_reserve_19 ?_
    refine a_if_eq cx (tgt := 36) dX4_reserve_20 (by decide) (fun c_20 => ?_) (fun c_20 => ?_)
    · refine a_aload_n cx dX4_reserve_36 rfl rfl ?_
      refine a_iconst cx (v := 2) dX4_reserve_37 (by decide) ?_
      refine a_callV cx 1 (sp_X4_fails (k := 2) hH hL) hM rfl ml_X4_95 im_X4_fails se_X4_fails ini_X4 cd_X4_fails rfl rfl (by decide +kernel) rfl rfl ⟨(Nat.le_of_ble_eq_true rfl), (Nat.le_of_ble_eq_true rfl)⟩ (Nat.le_of_ble_eq_true rfl) dX4_reserve_38 ⟨(Nat.le_of_ble_eq_true rfl), (Nat.le_of_ble_eq_true rfl)⟩ (fun _ _ _ h => h.elim) (fun v9 ad9 τ9 hP => ?_)
      obtain ⟨rfl, h2, hH⟩ := hP
      replace h2 := h2.symm
      subst h2
      exact a_iret cx hr dX4_reserve_41 (Nat.le_of_ble_eq_true rfl) (Nat.le_of_ble_eq_true rfl) ⟨⟨_, rfl, fun q => absurd (((show jRes C b = 2 from (by unfold jRes; rw [if_pos (hw2.2 c_5), if_neg (fun h => h c_20)]))).symm.trans q) (by decide)⟩, rfl, m_no (show jRes C b = 2 from (by unfold jRes; rw [if_pos (hw2.2 c_5), if_neg (fun h => h c_20)])) (by decide) hH⟩
    · refine a_aload_n cx dX4_reserve_23 rfl rfl ?_
      refine a_aload_n cx dX4_reserve_24 rfl rfl ?_
      refine gf_X4_22 cx hM dX4_reserve_25 ?_
      refine a_iload_n cx dX4_reserve_28 rfl rfl ?_
      refine a_ild cx (tn b) (by exact hR _ (by decide) (by decide)) ((okm_ix (hw2.2 c_5) (by have := hI.2.1; omega)).1) ((by have h9 := (okm_ix (hw2.2 c_5) (by have := hI.2.1; omega)).2; have := hI.2.1; omega)) (by decide) dX4_reserve_29 ?_
      refine a_callV cx 1 (sp_X4_tells hH hL) hM rfl ml_X4_99 im_X4_tells se_X4_tells ini_X4 cd_X4_tells rfl rfl (by decide +kernel) rfl rfl ⟨(Nat.le_of_ble_eq_true rfl), (Nat.le_of_ble_eq_true rfl)⟩ (Nat.le_of_ble_eq_true rfl) dX4_reserve_30 ⟨(Nat.le_of_ble_eq_true rfl), (Nat.le_of_ble_eq_true rfl)⟩ (fun _ _ _ h => h.elim) (fun v9 ad9 τ9 hP => ?_)
      obtain ⟨rfl, h2, hH⟩ := hP
      replace h2 := h2.symm
      subst h2
      refine a_goto cx (tgt := 41) dX4_reserve_33 (by decide) ?_
      exact a_iret cx hr dX4_reserve_41 (Nat.le_of_ble_eq_true rfl) (Nat.le_of_ble_eq_true rfl) ⟨⟨_, rfl, fun _ => rfl⟩, rfl, m_ok (show jRes C b = 0 from (by unfold jRes; rw [if_pos (hw2.2 c_5), if_pos (c_20)])) hH⟩
  · refine a_aload_n cx dX4_reserve_8 rfl rfl ?_
    refine a_iconst cx (v := 1) dX4_reserve_9 (by decide) ?_
    refine a_callV cx 1 (sp_X4_fails (k := 1) hH hL) hM rfl ml_X4_95 im_X4_fails se_X4_fails ini_X4 cd_X4_fails rfl rfl (by decide +kernel) rfl rfl ⟨(Nat.le_of_ble_eq_true rfl), (Nat.le_of_ble_eq_true rfl)⟩ (Nat.le_of_ble_eq_true rfl) dX4_reserve_10 ⟨(Nat.le_of_ble_eq_true rfl), (Nat.le_of_ble_eq_true rfl)⟩ (fun _ _ _ h => h.elim) (fun v9 ad9 τ9 hP => ?_)
    obtain ⟨rfl, h2, hH⟩ := hP
    replace h2 := h2.symm
    subst h2
    exact a_iret cx hr dX4_reserve_13 (Nat.le_of_ble_eq_true rfl) (Nat.le_of_ble_eq_true rfl) ⟨⟨_, rfl, fun q => absurd (((show jRes C b = 1 from (by unfold jRes; rw [if_neg (hw2.1 c_5)]))).symm.trans q) (by decide)⟩, rfl, m_no (show jRes C b = 1 from (by unfold jRes; rw [if_neg (hw2.1 c_5)])) (by decide) hH⟩

def jTrain (C : ME) (u : Int32) : Int32 := if okm 10 u then (if C 82 (tn u) = 0 then (0) else 2) else 1
set_option maxHeartbeats 4000000 in
set_option maxRecDepth 100000 in
/-- model: train -/
theorem sp_X4_train {l : Launch} {g : GW} {ad : AD} {τ : RH} {Lv : Nat → Bool} {C : ME} {ρ : RH} {u : Int32} (hH : HH g ad Lv C ρ τ) (hL : mL Lv) (hI : mI C) : Sp l g yX4_train (.code yX4_train cX4_train 2 (some .int)) (rmv 4 0 0) [.ref (ad 60), .int u] ad τ 0 0 (fun v ad' τ' => (∃ w, v = some (.int w) ∧ (jTrain C u = 0 → w = C 60 4 + 1)) ∧ ad' = ad ∧ HH g ad Lv (up2 (if jTrain C u = 0 then up2 (up2 C 82 (tn u) 1) 60 4 (C 60 4 + 1) else C) 60 0 (jTrain C u)) ρ τ') (NoX) := by
  refine Sp.of 0 [some (.ref (ad 60)), some (.int u)] (by decide +kernel) (Nat.le_of_ble_eq_true rfl) rfl ?_
  intro p e s m args below meth c A cx hout hr hnm
  have hM := M_obj hH hL
  have hR := M_row hH hL
  refine a_iload_n cx dX4_train_0 rfl rfl ?_
  refine a_callS cx 1 (sp_X4_isUser (b := u)) ml_X4_106 st_X4_isUser ini_X4 cd_X4_isUser rfl rfl (by decide +kernel) rfl rfl ⟨(Nat.le_of_ble_eq_true rfl), (Nat.le_of_ble_eq_true rfl)⟩ (Nat.le_of_ble_eq_true rfl) dX4_train_1 ⟨(Nat.le_of_ble_eq_true rfl), (Nat.le_of_ble_eq_true rfl)⟩ (fun _ _ _ h => h.elim) (fun v9 ad9 τ9 hP => ?_)
  obtain ⟨⟨w1, rfl, hw1⟩, h2, h3⟩ := hP
  replace h2 := h2.symm
  subst h2
  replace h3 := h3.symm
  subst h3
  replace hw1 := w_if hw1
  refine a_if_ne cx (tgt := 13) dX4_train_4 (by decide) (fun c_4 => ?_) (fun c_4 => ?_)
  · refine a_aload_n cx dX4_train_13 rfl rfl ?_
    refine gf_X4_75 cx hM dX4_train_14 ?_
    refine a_iload_n cx dX4_train_17 rfl rfl ?_
    refine a_zld cx (tn u) (by exact hR _ (by decide) (by decide)) ((okm_ix (hw1.2 c_4) (by decide)).1) ((okm_ix (hw1.2 c_4) (by decide)).2) (by decide) dX4_train_18 ?_
    refine a_if_eq cx (tgt := 28) dX4_train_19 (by decide) (fun c_19 => ?_) (fun c_19 => ?_)
    · refine a_aload_n cx dX4_train_28 rfl rfl ?_
      refine gf_X4_75 cx hM dX4_train_29 ?_
      refine a_iload_n cx dX4_train_32 rfl rfl ?_
      refine a_iconst cx (v := 1) dX4_train_33 (by decide) ?_
      refine a_zst cx (tn u) (by exact hR _ (by decide) (by decide)) ((okm_ix (hw1.2 c_4) (by decide)).1) ((okm_ix (hw1.2 c_4) (by decide)).2) (by decide) (by first | rfl | decide) dX4_train_34 ?_
      refine a_HH (hH.put (r := 82) (tn u) _ (by decide) (hL 82 (by decide) (by decide)) rfl) (fun τ hH => ?_)
      have hR := M_row hH hL
      have hM := M_obj hH hL
      refine a_aload_n cx dX4_train_35 rfl rfl ?_
      refine a_dup cx dX4_train_36 rfl ?_
      refine gf_X4_109 cx hM dX4_train_37 ?_
      refine a_iconst cx (v := 1) dX4_train_40 (by decide) ?_
      refine a_iadd cx dX4_train_41 ?_
      refine pf_X4_109 cx hM dX4_train_42 ?_
      refine a_HH (hH.put (r := 60) (4) _ (by decide) (hL 60 (by decide) (by decide)) rfl) (fun τ hH => ?_)
      have hR := M_row hH hL
      have hM := M_obj hH hL
      refine a_aload_n cx dX4_train_45 rfl rfl ?_
      refine a_aload_n cx dX4_train_46 rfl rfl ?_
      refine gf_X4_109 cx hM dX4_train_47 ?_
      refine a_callV cx 1 (sp_X4_tells hH hL) hM rfl ml_X4_99 im_X4_tells se_X4_tells ini_X4 cd_X4_tells rfl rfl (by decide +kernel) rfl rfl ⟨(Nat.le_of_ble_eq_true rfl), (Nat.le_of_ble_eq_true rfl)⟩ (Nat.le_of_ble_eq_true rfl) dX4_train_50 ⟨(Nat.le_of_ble_eq_true rfl), (Nat.le_of_ble_eq_true rfl)⟩ (fun _ _ _ h => h.elim) (fun v9 ad9 τ9 hP => ?_)
      obtain ⟨rfl, h2, hH⟩ := hP
      replace h2 := h2.symm
      subst h2
      exact a_iret cx hr dX4_train_53 (Nat.le_of_ble_eq_true rfl) (Nat.le_of_ble_eq_true rfl) ⟨⟨_, rfl, fun _ => rfl⟩, rfl, m_ok (show jTrain C u = 0 from (by unfold jTrain; rw [if_pos (hw1.2 c_4), if_pos (c_19)])) hH⟩
    · refine a_aload_n cx dX4_train_22 rfl rfl ?_
      refine a_iconst cx (v := 2) dX4_train_23 (by decide) ?_
      refine a_callV cx 1 (sp_X4_fails (k := 2) hH hL) hM rfl ml_X4_95 im_X4_fails se_X4_fails ini_X4 cd_X4_fails rfl rfl (by decide +kernel) rfl rfl ⟨(Nat.le_of_ble_eq_true rfl), (Nat.le_of_ble_eq_true rfl)⟩ (Nat.le_of_ble_eq_true rfl) dX4_train_24 ⟨(Nat.le_of_ble_eq_true rfl), (Nat.le_of_ble_eq_true rfl)⟩ (fun _ _ _ h => h.elim) (fun v9 ad9 τ9 hP => ?_)
      obtain ⟨rfl, h2, hH⟩ := hP
      replace h2 := h2.symm
      subst h2
      exact a_iret cx hr dX4_train_27 (Nat.le_of_ble_eq_true rfl) (Nat.le_of_ble_eq_true rfl) ⟨⟨_, rfl, fun q => absurd (((show jTrain C u = 2 from (by unfold jTrain; rw [if_pos (hw1.2 c_4), if_neg (c_19)]))).symm.trans q) (by decide)⟩, rfl, m_no (show jTrain C u = 2 from (by unfold jTrain; rw [if_pos (hw1.2 c_4), if_neg (c_19)])) (by decide) hH⟩
  · refine a_aload_n cx dX4_train_7 rfl rfl ?_
    refine a_iconst cx (v := 1) dX4_train_8 (by decide) ?_
    refine a_callV cx 1 (sp_X4_fails (k := 1) hH hL) hM rfl ml_X4_95 im_X4_fails se_X4_fails ini_X4 cd_X4_fails rfl rfl (by decide +kernel) rfl rfl ⟨(Nat.le_of_ble_eq_true rfl), (Nat.le_of_ble_eq_true rfl)⟩ (Nat.le_of_ble_eq_true rfl) dX4_train_9 ⟨(Nat.le_of_ble_eq_true rfl), (Nat.le_of_ble_eq_true rfl)⟩ (fun _ _ _ h => h.elim) (fun v9 ad9 τ9 hP => ?_)
    obtain ⟨rfl, h2, hH⟩ := hP
    replace h2 := h2.symm
    subst h2
    exact a_iret cx hr dX4_train_12 (Nat.le_of_ble_eq_true rfl) (Nat.le_of_ble_eq_true rfl) ⟨⟨_, rfl, fun q => absurd (((show jTrain C u = 1 from (by unfold jTrain; rw [if_neg (hw1.1 c_4)]))).symm.trans q) (by decide)⟩, rfl, m_no (show jTrain C u = 1 from (by unfold jTrain; rw [if_neg (hw1.1 c_4)])) (by decide) hH⟩

def jThere (u : Int32) : Int32 := if okm 10 u then (0) else 1
set_option maxHeartbeats 4000000 in
set_option maxRecDepth 100000 in
/-- model: setThere -/
theorem sp_X4_setThere {l : Launch} {g : GW} {ad : AD} {τ : RH} {Lv : Nat → Bool} {C : ME} {ρ : RH} {u z : Int32} (hH : HH g ad Lv C ρ τ) (hL : mL Lv) (hI : mI C) (hz : z = 0 ∨ z = 1) : Sp l g yX4_setThere (.code yX4_setThere cX4_setThere 4 (some .boolean)) (rmv 4 0 0) [.ref (ad 60), .int u, .int z] ad τ 0 0 (fun v ad' τ' => (∃ w, v = some (.int w) ∧ (jThere u = 0 → w = (if ¬ C 83 (tn u) = 0 then 1 else 0))) ∧ ad' = ad ∧ HH g ad Lv (up2 (if jThere u = 0 then up2 C 83 (tn u) z else C) 60 0 (jThere u)) ρ τ') (NoX) := by
  refine Sp.of 1 [some (.ref (ad 60)), some (.int u), some (.int z), none] (by decide +kernel) (Nat.le_of_ble_eq_true rfl) rfl ?_
  intro p e s m args below meth c A cx hout hr hnm
  have hM := M_obj hH hL
  have hR := M_row hH hL
  refine a_iload_n cx dX4_setThere_0 rfl rfl ?_
  refine a_callS cx 1 (sp_X4_isUser (b := u)) ml_X4_106 st_X4_isUser ini_X4 cd_X4_isUser rfl rfl (by decide +kernel) rfl rfl ⟨(Nat.le_of_ble_eq_true rfl), (Nat.le_of_ble_eq_true rfl)⟩ (Nat.le_of_ble_eq_true rfl) dX4_setThere_1 ⟨(Nat.le_of_ble_eq_true rfl), (Nat.le_of_ble_eq_true rfl)⟩ (fun _ _ _ h => h.elim) (fun v9 ad9 τ9 hP => ?_)
  obtain ⟨⟨w1, rfl, hw1⟩, h2, h3⟩ := hP
  replace h2 := h2.symm
  subst h2
  replace h3 := h3.symm
  subst h3
  replace hw1 := w_if hw1
  refine a_if_ne cx (tgt := 14) dX4_setThere_4 (by decide) (fun c_4 => ?_) (fun c_4 => ?_)
  · refine a_aload_n cx dX4_setThere_14 rfl rfl ?_
    refine gf_X4_78 cx hM dX4_setThere_15 ?_
    refine a_iload_n cx dX4_setThere_18 rfl rfl ?_
    refine a_zld cx (tn u) (by exact hR _ (by decide) (by decide)) ((okm_ix (hw1.2 c_4) (by decide)).1) ((okm_ix (hw1.2 c_4) (by decide)).2) (by decide) dX4_setThere_19 ?_
    refine a_istore_n3 cx dX4_setThere_20 rfl (by decide) (by intro w h; first | (cases h; rfl) | (cases h; assumption) | (cases h; done)) ?_
    refine a_aload_n cx dX4_setThere_21 rfl rfl ?_
    refine gf_X4_78 cx hM dX4_setThere_22 ?_
    refine a_iload_n cx dX4_setThere_25 rfl rfl ?_
    refine a_iload_n cx dX4_setThere_26 rfl rfl ?_
    refine a_zst cx (tn u) (by exact hR _ (by decide) (by decide)) ((okm_ix (hw1.2 c_4) (by decide)).1) ((okm_ix (hw1.2 c_4) (by decide)).2) (by decide) (not_nar hz) dX4_setThere_27 ?_
    refine a_HH (hH.put (r := 83) (tn u) _ (by decide) (hL 83 (by decide) (by decide)) rfl) (fun τ hH => ?_)
    have hR := M_row hH hL
    have hM := M_obj hH hL
    refine a_aload_n cx dX4_setThere_28 rfl rfl ?_
    refine a_iconst cx (v := 0) dX4_setThere_29 (by decide) ?_
    refine a_iload_n cx dX4_setThere_30 rfl rfl ?_
    refine a_callV cx 2 (sp_X4_asks (k := 0) hH hL) hM rfl ml_X4_112 im_X4_asks se_X4_asks ini_X4 cd_X4_asks rfl rfl (by decide +kernel) rfl rfl ⟨(Nat.le_of_ble_eq_true rfl), (Nat.le_of_ble_eq_true rfl)⟩ (Nat.le_of_ble_eq_true rfl) dX4_setThere_31 ⟨(Nat.le_of_ble_eq_true rfl), (Nat.le_of_ble_eq_true rfl)⟩ (fun _ _ _ h => h.elim) (fun v9 ad9 τ9 hP => ?_)
    obtain ⟨rfl, h2, hH⟩ := hP
    replace h2 := h2.symm
    subst h2
    exact a_zret cx hr dX4_setThere_34 (by split <;> rfl) (Nat.le_of_ble_eq_true rfl) (Nat.le_of_ble_eq_true rfl) ⟨⟨_, rfl, fun _ => (by simp)⟩, rfl, m_ok (show jThere u = 0 from (by unfold jThere; rw [if_pos (hw1.2 c_4)])) hH⟩
  · refine a_aload_n cx dX4_setThere_7 rfl rfl ?_
    refine a_iconst cx (v := 1) dX4_setThere_8 (by decide) ?_
    refine a_iconst cx (v := 0) dX4_setThere_9 (by decide) ?_
    refine a_callV cx 2 (sp_X4_asks (k := 1) hH hL) hM rfl ml_X4_112 im_X4_asks se_X4_asks ini_X4 cd_X4_asks rfl rfl (by decide +kernel) rfl rfl ⟨(Nat.le_of_ble_eq_true rfl), (Nat.le_of_ble_eq_true rfl)⟩ (Nat.le_of_ble_eq_true rfl) dX4_setThere_10 ⟨(Nat.le_of_ble_eq_true rfl), (Nat.le_of_ble_eq_true rfl)⟩ (fun _ _ _ h => h.elim) (fun v9 ad9 τ9 hP => ?_)
    obtain ⟨rfl, h2, hH⟩ := hP
    replace h2 := h2.symm
    subst h2
    exact a_zret cx hr dX4_setThere_13 (by split <;> rfl) (Nat.le_of_ble_eq_true rfl) (Nat.le_of_ble_eq_true rfl) ⟨⟨_, rfl, fun q => absurd (((show jThere u = 1 from (by unfold jThere; rw [if_neg (hw1.1 c_4)]))).symm.trans q) (by decide)⟩, rfl, m_no (show jThere u = 1 from (by unfold jThere; rw [if_neg (hw1.1 c_4)])) (by decide) hH⟩

def jBring (C : ME) (p9 x : Int32) : Int32 := if okm (mNp C) p9 then (if win x 1 50 then (0) else 2) else 1
set_option maxHeartbeats 4000000 in
set_option maxRecDepth 100000 in
/-- model: bring -/
theorem sp_X4_bring {l : Launch} {g : GW} {ad : AD} {τ : RH} {Lv : Nat → Bool} {C : ME} {ρ : RH} {p9 x : Int32} (hH : HH g ad Lv C ρ τ) (hL : mL Lv) (hI : mI C) : Sp l g yX4_bring (.code yX4_bring cX4_bring 4 (some .int)) (rmv 4 0 0) [.ref (ad 60), .int p9, .int x] ad τ 0 0 (fun v ad' τ' => (∃ w, v = some (.int w) ∧ (jBring C p9 x = 0 → w = (if C 81 (tn p9) = 110 then -1 else C 80 (tn p9)))) ∧ ad' = ad ∧ HH g ad Lv (up2 (if jBring C p9 x = 0 then up2 (up2 C 81 (tn p9) 114) 80 (tn p9) x else C) 60 0 (jBring C p9 x)) ρ τ') (NoX) := by
  refine Sp.of 1 [some (.ref (ad 60)), some (.int p9), some (.int x), none] (by decide +kernel) (Nat.le_of_ble_eq_true rfl) rfl ?_
  intro p e s m args below meth c A cx hout hr hnm
  have hM := M_obj hH hL
  have hR := M_row hH hL
  refine a_aload_n cx dX4_bring_0 rfl rfl ?_
  refine a_iload_n cx dX4_bring_1 rfl rfl ?_
  refine a_callV cx 1 (sp_X4_isProposal (b := p9) hH hL hI) hM rfl ml_X4_116 im_X4_isProposal se_X4_isProposal ini_X4 cd_X4_isProposal rfl rfl (by decide +kernel) rfl rfl ⟨(Nat.le_of_ble_eq_true rfl), (Nat.le_of_ble_eq_true rfl)⟩ (Nat.le_of_ble_eq_true rfl) dX4_bring_2 ⟨(Nat.le_of_ble_eq_true rfl), (Nat.le_of_ble_eq_true rfl)⟩ (fun _ _ _ h => h.elim) (fun v9 ad9 τ9 hP => ?_)
  obtain ⟨⟨w2, rfl, hw2⟩, h2, h3⟩ := hP
  replace h2 := h2.symm
  subst h2
  replace h3 := h3.symm
  subst h3
  replace hw2 := w_if hw2
  refine a_if_ne cx (tgt := 14) dX4_bring_5 (by decide) (fun c_5 => ?_) (fun c_5 => ?_)
  · refine a_iload_n cx dX4_bring_14 rfl rfl ?_
    refine a_iconst cx (v := 1) dX4_bring_15 (by decide) ?_
    refine a_bipush cx (v := 50) dX4_bring_16 (by decide) ?_
    refine a_callS cx 3 (sp_X4_in (x := x) (lo := 1) (hi := 50)) ml_X4_88 st_X4_in ini_X4 cd_X4_in rfl rfl (by decide +kernel) rfl rfl ⟨(Nat.le_of_ble_eq_true rfl), (Nat.le_of_ble_eq_true rfl)⟩ (Nat.le_of_ble_eq_true rfl) dX4_bring_18 ⟨(Nat.le_of_ble_eq_true rfl), (Nat.le_of_ble_eq_true rfl)⟩ (fun _ _ _ h => h.elim) (fun v9 ad9 τ9 hP => ?_)
    obtain ⟨⟨w18, rfl, hw18⟩, h2, h3⟩ := hP
    replace h2 := h2.symm
    subst h2
    replace h3 := h3.symm
    subst h3
    replace hw18 := w_if hw18
    refine a_if_ne cx (tgt := 30) dX4_bring_21 (by decide) (fun c_21 => ?_) (fun c_21 => ?_)
    · refine a_aload_n cx dX4_bring_30 rfl rfl ?_
      refine gf_X4_71 cx hM dX4_bring_31 ?_
      refine a_iload_n cx dX4_bring_34 rfl rfl ?_
      refine a_cld cx (tn p9) (by exact hR _ (by decide) (by decide)) ((okm_ix (hw2.2 c_5) (by have := hI.2.2.2.1; omega)).1) ((by have h9 := (okm_ix (hw2.2 c_5) (by have := hI.2.2.2.1; omega)).2; have := hI.2.2.2.1; omega)) (by decide) dX4_bring_35 ?_
      refine a_bipush cx (v := 110) dX4_bring_36 (by decide) ?_
      refine a_icmp_ne cx (tgt := 45) dX4_bring_38 (by decide) (fun c_38 => ?_) (fun c_38 => ?_)
      · refine a_aload_n cx dX4_bring_45 rfl rfl ?_
        refine gf_X4_68 cx hM dX4_bring_46 ?_
        refine a_iload_n cx dX4_bring_49 rfl rfl ?_
        refine a_ild cx (tn p9) (by exact hR _ (by decide) (by decide)) ((okm_ix (hw2.2 c_5) (by have := hI.2.2.2.1; omega)).1) ((by have h9 := (okm_ix (hw2.2 c_5) (by have := hI.2.2.2.1; omega)).2; have := hI.2.2.2.1; omega)) (by decide) dX4_bring_50 ?_
        refine a_istore_n3 cx dX4_bring_51 rfl (by decide) (by intro w h; first | (cases h; rfl) | (cases h; assumption) | (cases h; done)) ?_
        refine a_aload_n cx dX4_bring_52 rfl rfl ?_
        refine gf_X4_71 cx hM dX4_bring_53 ?_
        refine a_iload_n cx dX4_bring_56 rfl rfl ?_
        refine a_bipush cx (v := 114) dX4_bring_57 (by decide) ?_
        refine a_cst cx (tn p9) (by exact hR _ (by decide) (by decide)) ((okm_ix (hw2.2 c_5) (by have := hI.2.2.2.1; omega)).1) ((by have h9 := (okm_ix (hw2.2 c_5) (by have := hI.2.2.2.1; omega)).2; have := hI.2.2.2.1; omega)) (by decide) (by first | rfl | decide) dX4_bring_59 ?_
        refine a_HH (hH.put (r := 81) (tn p9) _ (by decide) (hL 81 (by decide) (by decide)) rfl) (fun τ hH => ?_)
        have hR := M_row hH hL
        have hM := M_obj hH hL
        refine a_aload_n cx dX4_bring_60 rfl rfl ?_
        refine gf_X4_68 cx hM dX4_bring_61 ?_
        refine a_iload_n cx dX4_bring_64 rfl rfl ?_
        refine a_iload_n cx dX4_bring_65 rfl rfl ?_
        refine a_ist cx (tn p9) (by exact hR _ (by decide) (by decide)) ((okm_ix (hw2.2 c_5) (by have := hI.2.2.2.1; omega)).1) ((by have h9 := (okm_ix (hw2.2 c_5) (by have := hI.2.2.2.1; omega)).2; have := hI.2.2.2.1; omega)) (by decide)  dX4_bring_66 ?_
        refine a_HH (hH.put (r := 80) (tn p9) _ (by decide) (hL 80 (by decide) (by decide)) rfl) (fun τ hH => ?_)
        have hR := M_row hH hL
        have hM := M_obj hH hL
        refine a_aload_n cx dX4_bring_67 rfl rfl ?_
        refine a_iload_n cx dX4_bring_68 rfl rfl ?_
        refine a_callV cx 1 (sp_X4_tells hH hL) hM rfl ml_X4_99 im_X4_tells se_X4_tells ini_X4 cd_X4_tells rfl rfl (by decide +kernel) rfl rfl ⟨(Nat.le_of_ble_eq_true rfl), (Nat.le_of_ble_eq_true rfl)⟩ (Nat.le_of_ble_eq_true rfl) dX4_bring_69 ⟨(Nat.le_of_ble_eq_true rfl), (Nat.le_of_ble_eq_true rfl)⟩ (fun _ _ _ h => h.elim) (fun v9 ad9 τ9 hP => ?_)
        obtain ⟨rfl, h2, hH⟩ := hP
        replace h2 := h2.symm
        subst h2
        exact a_iret cx hr dX4_bring_72 (Nat.le_of_ble_eq_true rfl) (Nat.le_of_ble_eq_true rfl) ⟨⟨_, rfl, fun _ => (if_neg c_38).symm⟩, rfl, m_ok (show jBring C p9 x = 0 from (by unfold jBring; rw [if_pos (hw2.2 c_5), if_pos (hw18.2 c_21)])) hH⟩
      · refine a_iconst cx (v := -1) dX4_bring_41 (by decide) ?_
        refine a_goto cx (tgt := 51) dX4_bring_42 (by decide) ?_
        refine a_istore_n3 cx dX4_bring_51 rfl (by decide) (by intro w h; first | (cases h; rfl) | (cases h; assumption) | (cases h; done)) ?_
        refine a_aload_n cx dX4_bring_52 rfl rfl ?_
        refine gf_X4_71 cx hM dX4_bring_53 ?_
        refine a_iload_n cx dX4_bring_56 rfl rfl ?_
        refine a_bipush cx (v := 114) dX4_bring_57 (by decide) ?_
        refine a_cst cx (tn p9) (by exact hR _ (by decide) (by decide)) ((okm_ix (hw2.2 c_5) (by have := hI.2.2.2.1; omega)).1) ((by have h9 := (okm_ix (hw2.2 c_5) (by have := hI.2.2.2.1; omega)).2; have := hI.2.2.2.1; omega)) (by decide) (by first | rfl | decide) dX4_bring_59 ?_
        refine a_HH (hH.put (r := 81) (tn p9) _ (by decide) (hL 81 (by decide) (by decide)) rfl) (fun τ hH => ?_)
        have hR := M_row hH hL
        have hM := M_obj hH hL
        refine a_aload_n cx dX4_bring_60 rfl rfl ?_
        refine gf_X4_68 cx hM dX4_bring_61 ?_
        refine a_iload_n cx dX4_bring_64 rfl rfl ?_
        refine a_iload_n cx dX4_bring_65 rfl rfl ?_
        refine a_ist cx (tn p9) (by exact hR _ (by decide) (by decide)) ((okm_ix (hw2.2 c_5) (by have := hI.2.2.2.1; omega)).1) ((by have h9 := (okm_ix (hw2.2 c_5) (by have := hI.2.2.2.1; omega)).2; have := hI.2.2.2.1; omega)) (by decide)  dX4_bring_66 ?_
        refine a_HH (hH.put (r := 80) (tn p9) _ (by decide) (hL 80 (by decide) (by decide)) rfl) (fun τ hH => ?_)
        have hR := M_row hH hL
        have hM := M_obj hH hL
        refine a_aload_n cx dX4_bring_67 rfl rfl ?_
        refine a_iload_n cx dX4_bring_68 rfl rfl ?_
        refine a_callV cx 1 (sp_X4_tells hH hL) hM rfl ml_X4_99 im_X4_tells se_X4_tells ini_X4 cd_X4_tells rfl rfl (by decide +kernel) rfl rfl ⟨(Nat.le_of_ble_eq_true rfl), (Nat.le_of_ble_eq_true rfl)⟩ (Nat.le_of_ble_eq_true rfl) dX4_bring_69 ⟨(Nat.le_of_ble_eq_true rfl), (Nat.le_of_ble_eq_true rfl)⟩ (fun _ _ _ h => h.elim) (fun v9 ad9 τ9 hP => ?_)
        obtain ⟨rfl, h2, hH⟩ := hP
        replace h2 := h2.symm
        subst h2
        exact a_iret cx hr dX4_bring_72 (Nat.le_of_ble_eq_true rfl) (Nat.le_of_ble_eq_true rfl) ⟨⟨_, rfl, fun _ => (if_pos c_38).symm⟩, rfl, m_ok (show jBring C p9 x = 0 from (by unfold jBring; rw [if_pos (hw2.2 c_5), if_pos (hw18.2 c_21)])) hH⟩
    · refine a_aload_n cx dX4_bring_24 rfl rfl ?_
      refine a_iconst cx (v := 2) dX4_bring_25 (by decide) ?_
      refine a_callV cx 1 (sp_X4_fails (k := 2) hH hL) hM rfl ml_X4_95 im_X4_fails se_X4_fails ini_X4 cd_X4_fails rfl rfl (by decide +kernel) rfl rfl ⟨(Nat.le_of_ble_eq_true rfl), (Nat.le_of_ble_eq_true rfl)⟩ (Nat.le_of_ble_eq_true rfl) dX4_bring_26 ⟨(Nat.le_of_ble_eq_true rfl), (Nat.le_of_ble_eq_true rfl)⟩ (fun _ _ _ h => h.elim) (fun v9 ad9 τ9 hP => ?_)
      obtain ⟨rfl, h2, hH⟩ := hP
      replace h2 := h2.symm
      subst h2
      exact a_iret cx hr dX4_bring_29 (Nat.le_of_ble_eq_true rfl) (Nat.le_of_ble_eq_true rfl) ⟨⟨_, rfl, fun q => absurd (((show jBring C p9 x = 2 from (by unfold jBring; rw [if_pos (hw2.2 c_5), if_neg (hw18.1 c_21)]))).symm.trans q) (by decide)⟩, rfl, m_no (show jBring C p9 x = 2 from (by unfold jBring; rw [if_pos (hw2.2 c_5), if_neg (hw18.1 c_21)])) (by decide) hH⟩
  · refine a_aload_n cx dX4_bring_8 rfl rfl ?_
    refine a_iconst cx (v := 1) dX4_bring_9 (by decide) ?_
    refine a_callV cx 1 (sp_X4_fails (k := 1) hH hL) hM rfl ml_X4_95 im_X4_fails se_X4_fails ini_X4 cd_X4_fails rfl rfl (by decide +kernel) rfl rfl ⟨(Nat.le_of_ble_eq_true rfl), (Nat.le_of_ble_eq_true rfl)⟩ (Nat.le_of_ble_eq_true rfl) dX4_bring_10 ⟨(Nat.le_of_ble_eq_true rfl), (Nat.le_of_ble_eq_true rfl)⟩ (fun _ _ _ h => h.elim) (fun v9 ad9 τ9 hP => ?_)
    obtain ⟨rfl, h2, hH⟩ := hP
    replace h2 := h2.symm
    subst h2
    exact a_iret cx hr dX4_bring_13 (Nat.le_of_ble_eq_true rfl) (Nat.le_of_ble_eq_true rfl) ⟨⟨_, rfl, fun q => absurd (((show jBring C p9 x = 1 from (by unfold jBring; rw [if_neg (hw2.1 c_5)]))).symm.trans q) (by decide)⟩, rfl, m_no (show jBring C p9 x = 1 from (by unfold jBring; rw [if_neg (hw2.1 c_5)])) (by decide) hH⟩

def jLife (C : ME) (p9 : Int32) : Int32 := if okm (mNp C) p9 then (if ¬ C 81 (tn p9) = 110 then (0) else 2) else 1
set_option maxHeartbeats 4000000 in
set_option maxRecDepth 100000 in
/-- model: life -/
theorem sp_X4_life {l : Launch} {g : GW} {ad : AD} {τ : RH} {Lv : Nat → Bool} {C : ME} {ρ : RH} {p9 : Int32} (hH : HH g ad Lv C ρ τ) (hL : mL Lv) (hI : mI C) : Sp l g yX4_life (.code yX4_life cX4_life 2 (some .int)) (rmv 4 0 0) [.ref (ad 60), .int p9] ad τ 0 0 (fun v ad' τ' => (∃ w, v = some (.int w) ∧ (jLife C p9 = 0 → w = C 80 (tn p9))) ∧ ad' = ad ∧ HH g ad Lv (up2 (if jLife C p9 = 0 then C else C) 60 0 (jLife C p9)) ρ τ') (NoX) := by
  refine Sp.of 0 [some (.ref (ad 60)), some (.int p9)] (by decide +kernel) (Nat.le_of_ble_eq_true rfl) rfl ?_
  intro p e s m args below meth c A cx hout hr hnm
  have hM := M_obj hH hL
  have hR := M_row hH hL
  refine a_aload_n cx dX4_life_0 rfl rfl ?_
  refine a_iload_n cx dX4_life_1 rfl rfl ?_
  refine a_callV cx 1 (sp_X4_isProposal (b := p9) hH hL hI) hM rfl ml_X4_116 im_X4_isProposal se_X4_isProposal ini_X4 cd_X4_isProposal rfl rfl (by decide +kernel) rfl rfl ⟨(Nat.le_of_ble_eq_true rfl), (Nat.le_of_ble_eq_true rfl)⟩ (Nat.le_of_ble_eq_true rfl) dX4_life_2 ⟨(Nat.le_of_ble_eq_true rfl), (Nat.le_of_ble_eq_true rfl)⟩ (fun _ _ _ h => h.elim) (fun v9 ad9 τ9 hP => ?_)
  obtain ⟨⟨w2, rfl, hw2⟩, h2, h3⟩ := hP
  replace h2 := h2.symm
  subst h2
  replace h3 := h3.symm
  subst h3
  replace hw2 := w_if hw2
  refine a_if_ne cx (tgt := 14) dX4_life_5 (by decide) (fun c_5 => ?_) (fun c_5 => ?_)
  · refine a_aload_n cx dX4_life_14 rfl rfl ?_
    refine gf_X4_71 cx hM dX4_life_15 ?_
    refine a_iload_n cx dX4_life_18 rfl rfl ?_
    refine a_cld cx (tn p9) (by exact hR _ (by decide) (by decide)) ((okm_ix (hw2.2 c_5) (by have := hI.2.2.2.1; omega)).1) ((by have h9 := (okm_ix (hw2.2 c_5) (by have := hI.2.2.2.1; omega)).2; have := hI.2.2.2.1; omega)) (by decide) dX4_life_19 ?_
    refine a_bipush cx (v := 110) dX4_life_20 (by decide) ?_
    refine a_icmp_ne cx (tgt := 33) dX4_life_22 (by decide) (fun c_22 => ?_) (fun c_22 => ?_)
    · refine a_aload_n cx dX4_life_33 rfl rfl ?_
      refine a_aload_n cx dX4_life_34 rfl rfl ?_
      refine gf_X4_68 cx hM dX4_life_35 ?_
      refine a_iload_n cx dX4_life_38 rfl rfl ?_
      refine a_ild cx (tn p9) (by exact hR _ (by decide) (by decide)) ((okm_ix (hw2.2 c_5) (by have := hI.2.2.2.1; omega)).1) ((by have h9 := (okm_ix (hw2.2 c_5) (by have := hI.2.2.2.1; omega)).2; have := hI.2.2.2.1; omega)) (by decide) dX4_life_39 ?_
      refine a_callV cx 1 (sp_X4_tells hH hL) hM rfl ml_X4_99 im_X4_tells se_X4_tells ini_X4 cd_X4_tells rfl rfl (by decide +kernel) rfl rfl ⟨(Nat.le_of_ble_eq_true rfl), (Nat.le_of_ble_eq_true rfl)⟩ (Nat.le_of_ble_eq_true rfl) dX4_life_40 ⟨(Nat.le_of_ble_eq_true rfl), (Nat.le_of_ble_eq_true rfl)⟩ (fun _ _ _ h => h.elim) (fun v9 ad9 τ9 hP => ?_)
      obtain ⟨rfl, h2, hH⟩ := hP
      replace h2 := h2.symm
      subst h2
      exact a_iret cx hr dX4_life_43 (Nat.le_of_ble_eq_true rfl) (Nat.le_of_ble_eq_true rfl) ⟨⟨_, rfl, fun _ => rfl⟩, rfl, m_ok (show jLife C p9 = 0 from (by unfold jLife; rw [if_pos (hw2.2 c_5), if_pos (c_22)])) hH⟩
    · refine a_aload_n cx dX4_life_25 rfl rfl ?_
      refine a_iconst cx (v := 2) dX4_life_26 (by decide) ?_
      refine a_callV cx 1 (sp_X4_fails (k := 2) hH hL) hM rfl ml_X4_95 im_X4_fails se_X4_fails ini_X4 cd_X4_fails rfl rfl (by decide +kernel) rfl rfl ⟨(Nat.le_of_ble_eq_true rfl), (Nat.le_of_ble_eq_true rfl)⟩ (Nat.le_of_ble_eq_true rfl) dX4_life_27 ⟨(Nat.le_of_ble_eq_true rfl), (Nat.le_of_ble_eq_true rfl)⟩ (fun _ _ _ h => h.elim) (fun v9 ad9 τ9 hP => ?_)
      obtain ⟨rfl, h2, hH⟩ := hP
      replace h2 := h2.symm
      subst h2
      refine a_goto cx (tgt := 43) dX4_life_30 (by decide) ?_
      exact a_iret cx hr dX4_life_43 (Nat.le_of_ble_eq_true rfl) (Nat.le_of_ble_eq_true rfl) ⟨⟨_, rfl, fun q => absurd (((show jLife C p9 = 2 from (by unfold jLife; rw [if_pos (hw2.2 c_5), if_neg (fun h => h c_22)]))).symm.trans q) (by decide)⟩, rfl, m_no (show jLife C p9 = 2 from (by unfold jLife; rw [if_pos (hw2.2 c_5), if_neg (fun h => h c_22)])) (by decide) hH⟩
  · refine a_aload_n cx dX4_life_8 rfl rfl ?_
    refine a_iconst cx (v := 1) dX4_life_9 (by decide) ?_
    refine a_callV cx 1 (sp_X4_fails (k := 1) hH hL) hM rfl ml_X4_95 im_X4_fails se_X4_fails ini_X4 cd_X4_fails rfl rfl (by decide +kernel) rfl rfl ⟨(Nat.le_of_ble_eq_true rfl), (Nat.le_of_ble_eq_true rfl)⟩ (Nat.le_of_ble_eq_true rfl) dX4_life_10 ⟨(Nat.le_of_ble_eq_true rfl), (Nat.le_of_ble_eq_true rfl)⟩ (fun _ _ _ h => h.elim) (fun v9 ad9 τ9 hP => ?_)
    obtain ⟨rfl, h2, hH⟩ := hP
    replace h2 := h2.symm
    subst h2
    exact a_iret cx hr dX4_life_13 (Nat.le_of_ble_eq_true rfl) (Nat.le_of_ble_eq_true rfl) ⟨⟨_, rfl, fun q => absurd (((show jLife C p9 = 1 from (by unfold jLife; rw [if_neg (hw2.1 c_5)]))).symm.trans q) (by decide)⟩, rfl, m_no (show jLife C p9 = 1 from (by unfold jLife; rw [if_neg (hw2.1 c_5)])) (by decide) hH⟩

def jLine (C : ME) (b : Int32) : Int32 := if okm (mNb C) b then (0) else 1
def jProp (C : ME) (p9 : Int32) : Int32 := if okm (mNp C) p9 then (0) else 1
set_option maxHeartbeats 4000000 in
set_option maxRecDepth 100000 in
theorem sp_X4_time {l : Launch} {g : GW} {ad : AD} {τ : RH} {Lv : Nat → Bool} {C : ME} {ρ : RH} (hH : HH g ad Lv C ρ τ) (hL : mL Lv) : Sp l g yX4_time (.code yX4_time cX4_time 1 (some .int)) (rmv 4 0 0) [.ref (ad 60)] ad τ 0 0 (fun v ad' τ' => v = some (.int (C 60 3)) ∧ ad' = ad ∧ HH g ad Lv (up2 C 60 0 0) ρ τ') (NoX) := by
  refine Sp.of 0 [some (.ref (ad 60))] (by decide +kernel) (Nat.le_of_ble_eq_true rfl) rfl ?_
  intro p e s m args below meth c A cx hout hr hnm
  have hM := M_obj hH hL
  have hR := M_row hH hL
  refine a_aload_n cx dX4_time_0 rfl rfl ?_
  refine a_aload_n cx dX4_time_1 rfl rfl ?_
  refine gf_X4_134 cx hM dX4_time_2 ?_
  refine a_callV cx 1 (sp_X4_tells hH hL) hM rfl ml_X4_99 im_X4_tells se_X4_tells ini_X4 cd_X4_tells rfl rfl (by decide +kernel) rfl rfl ⟨(Nat.le_of_ble_eq_true rfl), (Nat.le_of_ble_eq_true rfl)⟩ (Nat.le_of_ble_eq_true rfl) dX4_time_5 ⟨(Nat.le_of_ble_eq_true rfl), (Nat.le_of_ble_eq_true rfl)⟩ (fun _ _ _ h => h.elim) (fun v9 ad9 τ9 hP => ?_)
  obtain ⟨rfl, h2, hH⟩ := hP
  replace h2 := h2.symm
  subst h2
  exact a_iret cx hr dX4_time_8 (Nat.le_of_ble_eq_true rfl) (Nat.le_of_ble_eq_true rfl) ⟨rfl, rfl, hH⟩

set_option maxHeartbeats 4000000 in
set_option maxRecDepth 100000 in
/-- model: used -/
theorem sp_X4_used {l : Launch} {g : GW} {ad : AD} {τ : RH} {Lv : Nat → Bool} {C : ME} {ρ : RH} {b : Int32} (hH : HH g ad Lv C ρ τ) (hL : mL Lv) (hI : mI C) : Sp l g yX4_used (.code yX4_used cX4_used 2 (some .int)) (rmv 4 0 0) [.ref (ad 60), .int b] ad τ 0 0 (fun v ad' τ' => (∃ w, v = some (.int w) ∧ (jLine C b = 0 → w = C 64 (tn b))) ∧ ad' = ad ∧ HH g ad Lv (up2 (if jLine C b = 0 then C else C) 60 0 (jLine C b)) ρ τ') (NoX) := by
  refine Sp.of 0 [some (.ref (ad 60)), some (.int b)] (by decide +kernel) (Nat.le_of_ble_eq_true rfl) rfl ?_
  intro p e s m args below meth c A cx hout hr hnm
  have hM := M_obj hH hL
  have hR := M_row hH hL
  refine a_aload_n cx dX4_used_0 rfl rfl ?_
  refine a_iload_n cx dX4_used_1 rfl rfl ?_
  refine a_callV cx 1 (sp_X4_isLine (b := b) hH hL hI) hM rfl ml_X4_102 im_X4_isLine se_X4_isLine ini_X4 cd_X4_isLine rfl rfl (by decide +kernel) rfl rfl ⟨(Nat.le_of_ble_eq_true rfl), (Nat.le_of_ble_eq_true rfl)⟩ (Nat.le_of_ble_eq_true rfl) dX4_used_2 ⟨(Nat.le_of_ble_eq_true rfl), (Nat.le_of_ble_eq_true rfl)⟩ (fun _ _ _ h => h.elim) (fun v9 ad9 τ9 hP => ?_)
  obtain ⟨⟨w2, rfl, hw2⟩, h2, h3⟩ := hP
  replace h2 := h2.symm
  subst h2
  replace h3 := h3.symm
  subst h3
  replace hw2 := w_if hw2
  refine a_if_eq cx (tgt := 21) dX4_used_5 (by decide) (fun c_5 => ?_) (fun c_5 => ?_)
  · refine a_aload_n cx dX4_used_21 rfl rfl ?_
    refine a_iconst cx (v := 1) dX4_used_22 (by decide) ?_
    refine a_callV cx 1 (sp_X4_fails (k := 1) hH hL) hM rfl ml_X4_95 im_X4_fails se_X4_fails ini_X4 cd_X4_fails rfl rfl (by decide +kernel) rfl rfl ⟨(Nat.le_of_ble_eq_true rfl), (Nat.le_of_ble_eq_true rfl)⟩ (Nat.le_of_ble_eq_true rfl) dX4_used_23 ⟨(Nat.le_of_ble_eq_true rfl), (Nat.le_of_ble_eq_true rfl)⟩ (fun _ _ _ h => h.elim) (fun v9 ad9 τ9 hP => ?_)
    obtain ⟨rfl, h2, hH⟩ := hP
    replace h2 := h2.symm
    subst h2
    exact a_iret cx hr dX4_used_26 (Nat.le_of_ble_eq_true rfl) (Nat.le_of_ble_eq_true rfl) ⟨⟨_, rfl, fun q => absurd (((show jLine C b = 1 from (by unfold jLine; rw [if_neg (hw2.1 c_5)]))).symm.trans q) (by decide)⟩, rfl, m_no (show jLine C b = 1 from (by unfold jLine; rw [if_neg (hw2.1 c_5)])) (by decide) hH⟩
  · refine a_aload_n cx dX4_used_8 rfl rfl ?_
    refine a_aload_n cx dX4_used_9 rfl rfl ?_
    refine gf_X4_19 cx hM dX4_used_10 ?_
    refine a_iload_n cx dX4_used_13 rfl rfl ?_
    refine a_ild cx (tn b) (by exact hR _ (by decide) (by decide)) ((okm_ix (hw2.2 c_5) (by have := hI.2.1; omega)).1) ((by have h9 := (okm_ix (hw2.2 c_5) (by have := hI.2.1; omega)).2; have := hI.2.1; omega)) (by decide) dX4_used_14 ?_
    refine a_callV cx 1 (sp_X4_tells hH hL) hM rfl ml_X4_99 im_X4_tells se_X4_tells ini_X4 cd_X4_tells rfl rfl (by decide +kernel) rfl rfl ⟨(Nat.le_of_ble_eq_true rfl), (Nat.le_of_ble_eq_true rfl)⟩ (Nat.le_of_ble_eq_true rfl) dX4_used_15 ⟨(Nat.le_of_ble_eq_true rfl), (Nat.le_of_ble_eq_true rfl)⟩ (fun _ _ _ h => h.elim) (fun v9 ad9 τ9 hP => ?_)
    obtain ⟨rfl, h2, hH⟩ := hP
    replace h2 := h2.symm
    subst h2
    refine a_goto cx (tgt := 26) dX4_used_18 (by decide) ?_
    exact a_iret cx hr dX4_used_26 (Nat.le_of_ble_eq_true rfl) (Nat.le_of_ble_eq_true rfl) ⟨⟨_, rfl, fun _ => rfl⟩, rfl, m_ok (show jLine C b = 0 from (by unfold jLine; rw [if_pos (hw2.2 c_5)])) hH⟩

set_option maxHeartbeats 4000000 in
set_option maxRecDepth 100000 in
/-- model: left -/
theorem sp_X4_left {l : Launch} {g : GW} {ad : AD} {τ : RH} {Lv : Nat → Bool} {C : ME} {ρ : RH} {p9 : Int32} (hH : HH g ad Lv C ρ τ) (hL : mL Lv) (hI : mI C) : Sp l g yX4_left (.code yX4_left cX4_left 2 (some .int)) (rmv 4 0 0) [.ref (ad 60), .int p9] ad τ 0 0 (fun v ad' τ' => (∃ w, v = some (.int w) ∧ (jProp C p9 = 0 → w = C 75 (tn p9))) ∧ ad' = ad ∧ HH g ad Lv (up2 (if jProp C p9 = 0 then C else C) 60 0 (jProp C p9)) ρ τ') (NoX) := by
  refine Sp.of 0 [some (.ref (ad 60)), some (.int p9)] (by decide +kernel) (Nat.le_of_ble_eq_true rfl) rfl ?_
  intro p e s m args below meth c A cx hout hr hnm
  have hM := M_obj hH hL
  have hR := M_row hH hL
  refine a_aload_n cx dX4_left_0 rfl rfl ?_
  refine a_iload_n cx dX4_left_1 rfl rfl ?_
  refine a_callV cx 1 (sp_X4_isProposal (b := p9) hH hL hI) hM rfl ml_X4_116 im_X4_isProposal se_X4_isProposal ini_X4 cd_X4_isProposal rfl rfl (by decide +kernel) rfl rfl ⟨(Nat.le_of_ble_eq_true rfl), (Nat.le_of_ble_eq_true rfl)⟩ (Nat.le_of_ble_eq_true rfl) dX4_left_2 ⟨(Nat.le_of_ble_eq_true rfl), (Nat.le_of_ble_eq_true rfl)⟩ (fun _ _ _ h => h.elim) (fun v9 ad9 τ9 hP => ?_)
  obtain ⟨⟨w2, rfl, hw2⟩, h2, h3⟩ := hP
  replace h2 := h2.symm
  subst h2
  replace h3 := h3.symm
  subst h3
  replace hw2 := w_if hw2
  refine a_if_eq cx (tgt := 21) dX4_left_5 (by decide) (fun c_5 => ?_) (fun c_5 => ?_)
  · refine a_aload_n cx dX4_left_21 rfl rfl ?_
    refine a_iconst cx (v := 1) dX4_left_22 (by decide) ?_
    refine a_callV cx 1 (sp_X4_fails (k := 1) hH hL) hM rfl ml_X4_95 im_X4_fails se_X4_fails ini_X4 cd_X4_fails rfl rfl (by decide +kernel) rfl rfl ⟨(Nat.le_of_ble_eq_true rfl), (Nat.le_of_ble_eq_true rfl)⟩ (Nat.le_of_ble_eq_true rfl) dX4_left_23 ⟨(Nat.le_of_ble_eq_true rfl), (Nat.le_of_ble_eq_true rfl)⟩ (fun _ _ _ h => h.elim) (fun v9 ad9 τ9 hP => ?_)
    obtain ⟨rfl, h2, hH⟩ := hP
    replace h2 := h2.symm
    subst h2
    exact a_iret cx hr dX4_left_26 (Nat.le_of_ble_eq_true rfl) (Nat.le_of_ble_eq_true rfl) ⟨⟨_, rfl, fun q => absurd (((show jProp C p9 = 1 from (by unfold jProp; rw [if_neg (hw2.1 c_5)]))).symm.trans q) (by decide)⟩, rfl, m_no (show jProp C p9 = 1 from (by unfold jProp; rw [if_neg (hw2.1 c_5)])) (by decide) hH⟩
  · refine a_aload_n cx dX4_left_8 rfl rfl ?_
    refine a_aload_n cx dX4_left_9 rfl rfl ?_
    refine gf_X4_53 cx hM dX4_left_10 ?_
    refine a_iload_n cx dX4_left_13 rfl rfl ?_
    refine a_ild cx (tn p9) (by exact hR _ (by decide) (by decide)) ((okm_ix (hw2.2 c_5) (by have := hI.2.2.2.1; omega)).1) ((by have h9 := (okm_ix (hw2.2 c_5) (by have := hI.2.2.2.1; omega)).2; have := hI.2.2.2.1; omega)) (by decide) dX4_left_14 ?_
    refine a_callV cx 1 (sp_X4_tells hH hL) hM rfl ml_X4_99 im_X4_tells se_X4_tells ini_X4 cd_X4_tells rfl rfl (by decide +kernel) rfl rfl ⟨(Nat.le_of_ble_eq_true rfl), (Nat.le_of_ble_eq_true rfl)⟩ (Nat.le_of_ble_eq_true rfl) dX4_left_15 ⟨(Nat.le_of_ble_eq_true rfl), (Nat.le_of_ble_eq_true rfl)⟩ (fun _ _ _ h => h.elim) (fun v9 ad9 τ9 hP => ?_)
    obtain ⟨rfl, h2, hH⟩ := hP
    replace h2 := h2.symm
    subst h2
    refine a_goto cx (tgt := 26) dX4_left_18 (by decide) ?_
    exact a_iret cx hr dX4_left_26 (Nat.le_of_ble_eq_true rfl) (Nat.le_of_ble_eq_true rfl) ⟨⟨_, rfl, fun _ => rfl⟩, rfl, m_ok (show jProp C p9 = 0 from (by unfold jProp; rw [if_pos (hw2.2 c_5)])) hH⟩

set_option maxHeartbeats 4000000 in
set_option maxRecDepth 100000 in
/-- model: leftAnew -/
theorem sp_X4_leftAnew {l : Launch} {g : GW} {ad : AD} {τ : RH} {Lv : Nat → Bool} {C : ME} {ρ : RH} {p9 : Int32} (hH : HH g ad Lv C ρ τ) (hL : mL Lv) (hI : mI C) : Sp l g yX4_leftAnew (.code yX4_leftAnew cX4_leftAnew 2 (some .int)) (rmv 4 0 0) [.ref (ad 60), .int p9] ad τ 0 0 (fun v ad' τ' => (∃ w, v = some (.int w) ∧ (jProp C p9 = 0 → w = C 75 (tn p9))) ∧ ad' = ad ∧ HH g ad Lv (up2 (if jProp C p9 = 0 then C else C) 60 0 (jProp C p9)) ρ τ') (NoX) := by
  refine Sp.of 0 [some (.ref (ad 60)), some (.int p9)] (by decide +kernel) (Nat.le_of_ble_eq_true rfl) rfl ?_
  intro p e s m args below meth c A cx hout hr hnm
  have hM := M_obj hH hL
  have hR := M_row hH hL
  refine a_aload_n cx dX4_leftAnew_0 rfl rfl ?_
  refine a_iload_n cx dX4_leftAnew_1 rfl rfl ?_
  refine a_callV cx 1 (sp_X4_isProposal (b := p9) hH hL hI) hM rfl ml_X4_116 im_X4_isProposal se_X4_isProposal ini_X4 cd_X4_isProposal rfl rfl (by decide +kernel) rfl rfl ⟨(Nat.le_of_ble_eq_true rfl), (Nat.le_of_ble_eq_true rfl)⟩ (Nat.le_of_ble_eq_true rfl) dX4_leftAnew_2 ⟨(Nat.le_of_ble_eq_true rfl), (Nat.le_of_ble_eq_true rfl)⟩ (fun _ _ _ h => h.elim) (fun v9 ad9 τ9 hP => ?_)
  obtain ⟨⟨w2, rfl, hw2⟩, h2, h3⟩ := hP
  replace h2 := h2.symm
  subst h2
  replace h3 := h3.symm
  subst h3
  replace hw2 := w_if hw2
  refine a_if_eq cx (tgt := 21) dX4_leftAnew_5 (by decide) (fun c_5 => ?_) (fun c_5 => ?_)
  · refine a_aload_n cx dX4_leftAnew_21 rfl rfl ?_
    refine a_iconst cx (v := 1) dX4_leftAnew_22 (by decide) ?_
    refine a_callV cx 1 (sp_X4_fails (k := 1) hH hL) hM rfl ml_X4_95 im_X4_fails se_X4_fails ini_X4 cd_X4_fails rfl rfl (by decide +kernel) rfl rfl ⟨(Nat.le_of_ble_eq_true rfl), (Nat.le_of_ble_eq_true rfl)⟩ (Nat.le_of_ble_eq_true rfl) dX4_leftAnew_23 ⟨(Nat.le_of_ble_eq_true rfl), (Nat.le_of_ble_eq_true rfl)⟩ (fun _ _ _ h => h.elim) (fun v9 ad9 τ9 hP => ?_)
    obtain ⟨rfl, h2, hH⟩ := hP
    replace h2 := h2.symm
    subst h2
    exact a_iret cx hr dX4_leftAnew_26 (Nat.le_of_ble_eq_true rfl) (Nat.le_of_ble_eq_true rfl) ⟨⟨_, rfl, fun q => absurd (((show jProp C p9 = 1 from (by unfold jProp; rw [if_neg (hw2.1 c_5)]))).symm.trans q) (by decide)⟩, rfl, m_no (show jProp C p9 = 1 from (by unfold jProp; rw [if_neg (hw2.1 c_5)])) (by decide) hH⟩
  · refine a_aload_n cx dX4_leftAnew_8 rfl rfl ?_
    refine a_aload_n cx dX4_leftAnew_9 rfl rfl ?_
    refine gf_X4_53 cx hM dX4_leftAnew_10 ?_
    refine a_iload_n cx dX4_leftAnew_13 rfl rfl ?_
    refine a_ild cx (tn p9) (by exact hR _ (by decide) (by decide)) ((okm_ix (hw2.2 c_5) (by have := hI.2.2.2.1; omega)).1) ((by have h9 := (okm_ix (hw2.2 c_5) (by have := hI.2.2.2.1; omega)).2; have := hI.2.2.2.1; omega)) (by decide) dX4_leftAnew_14 ?_
    refine a_callV cx 1 (sp_X4_tells hH hL) hM rfl ml_X4_99 im_X4_tells se_X4_tells ini_X4 cd_X4_tells rfl rfl (by decide +kernel) rfl rfl ⟨(Nat.le_of_ble_eq_true rfl), (Nat.le_of_ble_eq_true rfl)⟩ (Nat.le_of_ble_eq_true rfl) dX4_leftAnew_15 ⟨(Nat.le_of_ble_eq_true rfl), (Nat.le_of_ble_eq_true rfl)⟩ (fun _ _ _ h => h.elim) (fun v9 ad9 τ9 hP => ?_)
    obtain ⟨rfl, h2, hH⟩ := hP
    replace h2 := h2.symm
    subst h2
    refine a_goto cx (tgt := 26) dX4_leftAnew_18 (by decide) ?_
    exact a_iret cx hr dX4_leftAnew_26 (Nat.le_of_ble_eq_true rfl) (Nat.le_of_ble_eq_true rfl) ⟨⟨_, rfl, fun _ => rfl⟩, rfl, m_ok (show jProp C p9 = 0 from (by unfold jProp; rw [if_pos (hw2.2 c_5)])) hH⟩

def jCount (C : ME) (j x : Int32) : Int32 := if okm (mNp C) j then (if x = 100 ∨ x = 109 ∨ x = 108 ∨ x = 111 then 0 else 2) else 1
def mCount (C : ME) (j : Nat) (x : Int32) : Int32 := if x = 100 then C 76 j else if x = 109 then C 77 j else if x = 108 then C 78 j else C 79 j
set_option maxHeartbeats 4000000 in
set_option maxRecDepth 100000 in
/-- model: count -/
theorem sp_X4_count {l : Launch} {g : GW} {ad : AD} {τ : RH} {Lv : Nat → Bool} {C : ME} {ρ : RH} {p9 x : Int32} (hH : HH g ad Lv C ρ τ) (hL : mL Lv) (hI : mI C) : Sp l g yX4_count (.code yX4_count cX4_count 3 (some .int)) (rmv 4 0 0) [.ref (ad 60), .int p9, .int x] ad τ 0 0 (fun v ad' τ' => (∃ w, v = some (.int w) ∧ (jCount C p9 x = 0 → w = mCount C (tn p9) x)) ∧ ad' = ad ∧ HH g ad Lv (up2 (if jCount C p9 x = 0 then C else C) 60 0 (jCount C p9 x)) ρ τ') (NoX) := by
  refine Sp.of 0 [some (.ref (ad 60)), some (.int p9), some (.int x)] (by decide +kernel) (Nat.le_of_ble_eq_true rfl) rfl ?_
  intro p e s m args below meth c A cx hout hr hnm
  have hM := M_obj hH hL
  have hR := M_row hH hL
  refine a_aload_n cx dX4_count_0 rfl rfl ?_
  refine a_iload_n cx dX4_count_1 rfl rfl ?_
  refine a_callV cx 1 (sp_X4_isProposal (b := p9) hH hL hI) hM rfl ml_X4_116 im_X4_isProposal se_X4_isProposal ini_X4 cd_X4_isProposal rfl rfl (by decide +kernel) rfl rfl ⟨(Nat.le_of_ble_eq_true rfl), (Nat.le_of_ble_eq_true rfl)⟩ (Nat.le_of_ble_eq_true rfl) dX4_count_2 ⟨(Nat.le_of_ble_eq_true rfl), (Nat.le_of_ble_eq_true rfl)⟩ (fun _ _ _ h => h.elim) (fun v9 ad9 τ9 hP => ?_)
  obtain ⟨⟨w2, rfl, hw2⟩, h2, h3⟩ := hP
  replace h2 := h2.symm
  subst h2
  replace h3 := h3.symm
  subst h3
  replace hw2 := w_if hw2
  refine a_if_ne cx (tgt := 14) dX4_count_5 (by decide) (fun c_5 => ?_) (fun c_5 => ?_)
  · refine a_iload_n cx dX4_count_14 rfl rfl ?_
    refine a_bipush cx (v := 100) dX4_count_15 (by decide) ?_
    refine a_icmp_ne cx (tgt := 31) dX4_count_17 (by decide) (fun c_17 => ?_) (fun c_17 => ?_)
    · refine a_iload_n cx dX4_count_31 rfl rfl ?_
      refine a_bipush cx (v := 109) dX4_count_32 (by decide) ?_
      refine a_icmp_ne cx (tgt := 48) dX4_count_34 (by decide) (fun c_34 => ?_) (fun c_34 => ?_)
      · refine a_iload_n cx dX4_count_48 rfl rfl ?_
        refine a_bipush cx (v := 108) dX4_count_49 (by decide) ?_
        refine a_icmp_ne cx (tgt := 65) dX4_count_51 (by decide) (fun c_51 => ?_) (fun c_51 => ?_)
        · refine a_iload_n cx dX4_count_65 rfl rfl ?_
          refine a_bipush cx (v := 111) dX4_count_66 (by decide) ?_
          refine a_icmp_ne cx (tgt := 84) dX4_count_68 (by decide) (fun c_68 => ?_) (fun c_68 => ?_)
          · refine a_aload_n cx dX4_count_84 rfl rfl ?_
            refine a_iconst cx (v := 2) dX4_count_85 (by decide) ?_
            refine a_callV cx 1 (sp_X4_fails (k := 2) hH hL) hM rfl ml_X4_95 im_X4_fails se_X4_fails ini_X4 cd_X4_fails rfl rfl (by decide +kernel) rfl rfl ⟨(Nat.le_of_ble_eq_true rfl), (Nat.le_of_ble_eq_true rfl)⟩ (Nat.le_of_ble_eq_true rfl) dX4_count_86 ⟨(Nat.le_of_ble_eq_true rfl), (Nat.le_of_ble_eq_true rfl)⟩ (fun _ _ _ h => h.elim) (fun v9 ad9 τ9 hP => ?_)
            obtain ⟨rfl, h2, hH⟩ := hP
            replace h2 := h2.symm
            subst h2
            exact a_iret cx hr dX4_count_89 (Nat.le_of_ble_eq_true rfl) (Nat.le_of_ble_eq_true rfl) ⟨⟨_, rfl, fun q => absurd (((show jCount C p9 x = 2 from (by unfold jCount; rw [if_pos (hw2.2 c_5), if_neg (fun h => h.elim c_17 (fun h => h.elim c_34 (fun h => h.elim c_51 c_68)))]))).symm.trans q) (by decide)⟩, rfl, m_no (show jCount C p9 x = 2 from (by unfold jCount; rw [if_pos (hw2.2 c_5), if_neg (fun h => h.elim c_17 (fun h => h.elim c_34 (fun h => h.elim c_51 c_68)))])) (by decide) hH⟩
          · refine a_aload_n cx dX4_count_71 rfl rfl ?_
            refine a_aload_n cx dX4_count_72 rfl rfl ?_
            refine gf_X4_65 cx hM dX4_count_73 ?_
            refine a_iload_n cx dX4_count_76 rfl rfl ?_
            refine a_ild cx (tn p9) (by exact hR _ (by decide) (by decide)) ((okm_ix (hw2.2 c_5) (by have := hI.2.2.2.1; omega)).1) ((by have h9 := (okm_ix (hw2.2 c_5) (by have := hI.2.2.2.1; omega)).2; have := hI.2.2.2.1; omega)) (by decide) dX4_count_77 ?_
            refine a_callV cx 1 (sp_X4_tells hH hL) hM rfl ml_X4_99 im_X4_tells se_X4_tells ini_X4 cd_X4_tells rfl rfl (by decide +kernel) rfl rfl ⟨(Nat.le_of_ble_eq_true rfl), (Nat.le_of_ble_eq_true rfl)⟩ (Nat.le_of_ble_eq_true rfl) dX4_count_78 ⟨(Nat.le_of_ble_eq_true rfl), (Nat.le_of_ble_eq_true rfl)⟩ (fun _ _ _ h => h.elim) (fun v9 ad9 τ9 hP => ?_)
            obtain ⟨rfl, h2, hH⟩ := hP
            replace h2 := h2.symm
            subst h2
            refine a_goto cx (tgt := 89) dX4_count_81 (by decide) ?_
            exact a_iret cx hr dX4_count_89 (Nat.le_of_ble_eq_true rfl) (Nat.le_of_ble_eq_true rfl) ⟨⟨_, rfl, fun _ => (by unfold mCount; rw [if_neg c_17, if_neg c_34, if_neg c_51])⟩, rfl, m_ok (show jCount C p9 x = 0 from (by unfold jCount; rw [if_pos (hw2.2 c_5), if_pos (Or.inr (Or.inr (Or.inr c_68)))])) hH⟩
        · refine a_aload_n cx dX4_count_54 rfl rfl ?_
          refine a_aload_n cx dX4_count_55 rfl rfl ?_
          refine gf_X4_62 cx hM dX4_count_56 ?_
          refine a_iload_n cx dX4_count_59 rfl rfl ?_
          refine a_ild cx (tn p9) (by exact hR _ (by decide) (by decide)) ((okm_ix (hw2.2 c_5) (by have := hI.2.2.2.1; omega)).1) ((by have h9 := (okm_ix (hw2.2 c_5) (by have := hI.2.2.2.1; omega)).2; have := hI.2.2.2.1; omega)) (by decide) dX4_count_60 ?_
          refine a_callV cx 1 (sp_X4_tells hH hL) hM rfl ml_X4_99 im_X4_tells se_X4_tells ini_X4 cd_X4_tells rfl rfl (by decide +kernel) rfl rfl ⟨(Nat.le_of_ble_eq_true rfl), (Nat.le_of_ble_eq_true rfl)⟩ (Nat.le_of_ble_eq_true rfl) dX4_count_61 ⟨(Nat.le_of_ble_eq_true rfl), (Nat.le_of_ble_eq_true rfl)⟩ (fun _ _ _ h => h.elim) (fun v9 ad9 τ9 hP => ?_)
          obtain ⟨rfl, h2, hH⟩ := hP
          replace h2 := h2.symm
          subst h2
          exact a_iret cx hr dX4_count_64 (Nat.le_of_ble_eq_true rfl) (Nat.le_of_ble_eq_true rfl) ⟨⟨_, rfl, fun _ => (by unfold mCount; rw [if_neg c_17, if_neg c_34, if_pos c_51])⟩, rfl, m_ok (show jCount C p9 x = 0 from (by unfold jCount; rw [if_pos (hw2.2 c_5), if_pos (Or.inr (Or.inr (Or.inl c_51)))])) hH⟩
      · refine a_aload_n cx dX4_count_37 rfl rfl ?_
        refine a_aload_n cx dX4_count_38 rfl rfl ?_
        refine gf_X4_59 cx hM dX4_count_39 ?_
        refine a_iload_n cx dX4_count_42 rfl rfl ?_
        refine a_ild cx (tn p9) (by exact hR _ (by decide) (by decide)) ((okm_ix (hw2.2 c_5) (by have := hI.2.2.2.1; omega)).1) ((by have h9 := (okm_ix (hw2.2 c_5) (by have := hI.2.2.2.1; omega)).2; have := hI.2.2.2.1; omega)) (by decide) dX4_count_43 ?_
        refine a_callV cx 1 (sp_X4_tells hH hL) hM rfl ml_X4_99 im_X4_tells se_X4_tells ini_X4 cd_X4_tells rfl rfl (by decide +kernel) rfl rfl ⟨(Nat.le_of_ble_eq_true rfl), (Nat.le_of_ble_eq_true rfl)⟩ (Nat.le_of_ble_eq_true rfl) dX4_count_44 ⟨(Nat.le_of_ble_eq_true rfl), (Nat.le_of_ble_eq_true rfl)⟩ (fun _ _ _ h => h.elim) (fun v9 ad9 τ9 hP => ?_)
        obtain ⟨rfl, h2, hH⟩ := hP
        replace h2 := h2.symm
        subst h2
        exact a_iret cx hr dX4_count_47 (Nat.le_of_ble_eq_true rfl) (Nat.le_of_ble_eq_true rfl) ⟨⟨_, rfl, fun _ => (by unfold mCount; rw [if_neg c_17, if_pos c_34])⟩, rfl, m_ok (show jCount C p9 x = 0 from (by unfold jCount; rw [if_pos (hw2.2 c_5), if_pos (Or.inr (Or.inl c_34))])) hH⟩
    · refine a_aload_n cx dX4_count_20 rfl rfl ?_
      refine a_aload_n cx dX4_count_21 rfl rfl ?_
      refine gf_X4_56 cx hM dX4_count_22 ?_
      refine a_iload_n cx dX4_count_25 rfl rfl ?_
      refine a_ild cx (tn p9) (by exact hR _ (by decide) (by decide)) ((okm_ix (hw2.2 c_5) (by have := hI.2.2.2.1; omega)).1) ((by have h9 := (okm_ix (hw2.2 c_5) (by have := hI.2.2.2.1; omega)).2; have := hI.2.2.2.1; omega)) (by decide) dX4_count_26 ?_
      refine a_callV cx 1 (sp_X4_tells hH hL) hM rfl ml_X4_99 im_X4_tells se_X4_tells ini_X4 cd_X4_tells rfl rfl (by decide +kernel) rfl rfl ⟨(Nat.le_of_ble_eq_true rfl), (Nat.le_of_ble_eq_true rfl)⟩ (Nat.le_of_ble_eq_true rfl) dX4_count_27 ⟨(Nat.le_of_ble_eq_true rfl), (Nat.le_of_ble_eq_true rfl)⟩ (fun _ _ _ h => h.elim) (fun v9 ad9 τ9 hP => ?_)
      obtain ⟨rfl, h2, hH⟩ := hP
      replace h2 := h2.symm
      subst h2
      exact a_iret cx hr dX4_count_30 (Nat.le_of_ble_eq_true rfl) (Nat.le_of_ble_eq_true rfl) ⟨⟨_, rfl, fun _ => (by unfold mCount; rw [if_pos c_17])⟩, rfl, m_ok (show jCount C p9 x = 0 from (by unfold jCount; rw [if_pos (hw2.2 c_5), if_pos (Or.inl c_17)])) hH⟩
  · refine a_aload_n cx dX4_count_8 rfl rfl ?_
    refine a_iconst cx (v := 1) dX4_count_9 (by decide) ?_
    refine a_callV cx 1 (sp_X4_fails (k := 1) hH hL) hM rfl ml_X4_95 im_X4_fails se_X4_fails ini_X4 cd_X4_fails rfl rfl (by decide +kernel) rfl rfl ⟨(Nat.le_of_ble_eq_true rfl), (Nat.le_of_ble_eq_true rfl)⟩ (Nat.le_of_ble_eq_true rfl) dX4_count_10 ⟨(Nat.le_of_ble_eq_true rfl), (Nat.le_of_ble_eq_true rfl)⟩ (fun _ _ _ h => h.elim) (fun v9 ad9 τ9 hP => ?_)
    obtain ⟨rfl, h2, hH⟩ := hP
    replace h2 := h2.symm
    subst h2
    exact a_iret cx hr dX4_count_13 (Nat.le_of_ble_eq_true rfl) (Nat.le_of_ble_eq_true rfl) ⟨⟨_, rfl, fun q => absurd (((show jCount C p9 x = 1 from (by unfold jCount; rw [if_neg (hw2.1 c_5)]))).symm.trans q) (by decide)⟩, rfl, m_no (show jCount C p9 x = 1 from (by unfold jCount; rw [if_neg (hw2.1 c_5)])) (by decide) hH⟩

