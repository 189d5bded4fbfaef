def jPut (C : ME) (p x : Int32) : Int32 := if okm (mNp C) p then (if x = 114 ∨ x = 99 ∨ x = 98 then (if ¬ C 81 (tn p) = 110 then (if x = 99 ∧ ¬ C 81 (tn p) = 99 ∧ mCold C = 3 then 4 else 0) else 3) else 2) else 1
theorem up2_com {C : ME} {r k r' k' : Nat} {x x' : Int32} (h : r ≠ r') : up2 (up2 C r k x) r' k' x' = up2 (up2 C r' k' x') r k x := by
  funext a c
  rw [up2_at, up2_at, up2_at, up2_at]
  by_cases h1 : a = r' ∧ c = k'
  · rw [if_pos h1, if_neg (fun q => h (q.1.symm.trans h1.1)), if_pos h1]
  · rw [if_neg h1]
    by_cases h2 : a = r ∧ c = k
    · rw [if_pos h2, if_pos h2]
    · rw [if_neg h2, if_neg h2, if_neg h1]
theorem m_okp {g : GW} {ad : AD} {Lv : Nat → Bool} {C : ME} {ρ τ : RH} {K x : Int32} {p : Nat} (hk : K = 0) (hH : HH g ad Lv (up2 (up2 C 60 0 0) 81 p x) ρ τ) : HH g ad Lv (up2 (if K = 0 then up2 C 81 p x else C) 60 0 K) ρ τ := by rw [hk, if_pos rfl, up2_com (by decide)]; exact hH
theorem ch_nar {x : Int32} (h : x = 114 ∨ x = 99 ∨ x = 98) : vp_nar .char x = x := by rcases h with rfl | rfl | rfl <;> decide +kernel
set_option maxHeartbeats 4000000 in
set_option maxRecDepth 100000 in
/-- model: put -/
theorem sp_X4_put {l : Launch} {g : GW} {ad : AD} {τ : RH} {Lv : Nat → Bool} {C : ME} {ρ : RH} {p9 x : Int32} (hH : HH g ad Lv C ρ τ) (hL : mL Lv) (hI : mI C) (h81 : ∀ p, p < mNp C → narrow .char (.int (C 81 p)) = .int (C 81 p)) : Sp l g yX4_put (.code yX4_put cX4_put 4 (some .char)) (rmv 4 0 0) [.ref (ad 60), .int p9, .int x] ad τ 0 0 (fun v ad' τ' => (∃ w, v = some (.int w) ∧ (jPut C p9 x = 0 → w = C 81 (tn p9))) ∧ ad' = ad ∧ HH g ad Lv (up2 (if jPut C p9 x = 0 then up2 C 81 (tn p9) x else C) 60 0 (jPut C p9 x)) ρ τ') (NoX) := by
  refine Sp.of 1 [some (.ref (ad 60)), some (.int p9), some (.int x), none] (by decide +kernel) (Nat.le_of_ble_eq_true rfl) rfl ?_
  intro p e s m args below meth c A cx hout hr hnm
  have hM := M_obj hH hL
  have hR := M_row hH hL
  refine a_aload_n cx dX4_put_0 rfl rfl ?_
  refine a_iload_n cx dX4_put_1 rfl rfl ?_
  refine a_callV cx 1 (sp_X4_isProposal (b := p9) hH hL hI) hM rfl ml_X4_116 im_X4_isProposal se_X4_isProposal ini_X4 cd_X4_isProposal rfl rfl (by decide +kernel) rfl rfl ⟨(Nat.le_of_ble_eq_true rfl), (Nat.le_of_ble_eq_true rfl)⟩ (Nat.le_of_ble_eq_true rfl) dX4_put_2 ⟨(Nat.le_of_ble_eq_true rfl), (Nat.le_of_ble_eq_true rfl)⟩ (fun _ _ _ h => h.elim) (fun v9 ad9 τ9 hP => ?_)
  obtain ⟨⟨w2, rfl, hw2⟩, h2, h3⟩ := hP
  replace h2 := h2.symm
  subst h2
  replace h3 := h3.symm
  subst h3
  replace hw2 := w_if hw2
  refine a_if_eq cx (tgt := 17) dX4_put_5 (by decide) (fun c_5 => ?_) (fun c_5 => ?_)
  · refine a_bipush cx (v := 110) dX4_put_17 (by decide) ?_
    refine a_istore_n3 cx dX4_put_19 rfl (by decide) (by intro w h; first | (cases h; rfl) | (cases h; assumption) | (cases h; done)) ?_
    refine a_aload_n cx dX4_put_20 rfl rfl ?_
    refine a_aload_n cx dX4_put_21 rfl rfl ?_
    refine a_iload_n cx dX4_put_22 rfl rfl ?_
    refine a_callV cx 1 (sp_X4_isProposal (b := p9) hH hL hI) hM rfl ml_X4_116 im_X4_isProposal se_X4_isProposal ini_X4 cd_X4_isProposal rfl rfl (by decide +kernel) rfl rfl ⟨(Nat.le_of_ble_eq_true rfl), (Nat.le_of_ble_eq_true rfl)⟩ (Nat.le_of_ble_eq_true rfl) dX4_put_23 ⟨(Nat.le_of_ble_eq_true rfl), (Nat.le_of_ble_eq_true rfl)⟩ (fun _ _ _ h => h.elim) (fun v9 ad9 τ9 hP => ?_)
    obtain ⟨⟨w23, rfl, hw23⟩, h2, h3⟩ := hP
    replace h2 := h2.symm
    subst h2
    replace h3 := h3.symm
    subst h3
    replace hw23 := w_if hw23
    refine a_if_ne cx (tgt := 33) dX4_put_26 (by decide) (fun c_26 => absurd (hw23.2 c_26) (hw2.1 c_5)) (fun c_26 => ?_)
    refine a_iconst cx (v := 1) dX4_put_29 (by decide) ?_
    refine a_goto cx (tgt := 90) dX4_put_30 (by decide) ?_
    refine pf_X4_81 cx hM dX4_put_90 ?_
    refine a_HH (hH.put (r := 60) (0) _ (by decide) (hL 60 (by decide) (by decide)) rfl) (fun τ hH => ?_)
    have hR := M_row hH hL
    have hM := M_obj hH hL
    refine a_aload_n cx dX4_put_93 rfl rfl ?_
    refine gf_X4_81 cx hM dX4_put_94 ?_
    refine a_if_le cx (tgt := 103) dX4_put_97 (by decide) (fun c_97 => absurd (show (1 : Int32) ≤ 0 from c_97) (by decide)) (fun c_97 => ?_)
    refine a_bipush cx (v := 97) dX4_put_100 (by decide) ?_
    exact a_zret cx hr dX4_put_102 rfl (Nat.le_of_ble_eq_true rfl) (Nat.le_of_ble_eq_true rfl) ⟨⟨_, rfl, fun q => absurd (((show jPut C p9 x = 1 from (by unfold jPut; rw [if_neg (hw23.1 c_26)]))).symm.trans q) (by decide)⟩, rfl, m_no (show jPut C p9 x = 1 from (by unfold jPut; rw [if_neg (hw23.1 c_26)])) (by decide) hH⟩
  · refine a_aload_n cx dX4_put_8 rfl rfl ?_
    refine gf_X4_71 cx hM dX4_put_9 ?_
    refine a_iload_n cx dX4_put_12 rfl rfl ?_
    refine a_cld cx (tn p9) (by exact hR _ (by decide) (by decide)) ((okm_ix (hw2.2 c_5) (by have := hI.2.2.2.1; omega)).1) ((by have h9 := (okm_ix (hw2.2 c_5) (by have := hI.2.2.2.1; omega)).2; have := hI.2.2.2.1; omega)) (by decide) dX4_put_13 ?_
    refine a_goto cx (tgt := 19) dX4_put_14 (by decide) ?_
    refine a_istore_n3 cx dX4_put_19 rfl (by decide) (by intro w h; first | (cases h; rfl) | (cases h; assumption) | (cases h; done)) ?_
    refine a_aload_n cx dX4_put_20 rfl rfl ?_
    refine a_aload_n cx dX4_put_21 rfl rfl ?_
    refine a_iload_n cx dX4_put_22 rfl rfl ?_
    refine a_callV cx 1 (sp_X4_isProposal (b := p9) hH hL hI) hM rfl ml_X4_116 im_X4_isProposal se_X4_isProposal ini_X4 cd_X4_isProposal rfl rfl (by decide +kernel) rfl rfl ⟨(Nat.le_of_ble_eq_true rfl), (Nat.le_of_ble_eq_true rfl)⟩ (Nat.le_of_ble_eq_true rfl) dX4_put_23 ⟨(Nat.le_of_ble_eq_true rfl), (Nat.le_of_ble_eq_true rfl)⟩ (fun _ _ _ h => h.elim) (fun v9 ad9 τ9 hP => ?_)
    obtain ⟨⟨w23, rfl, hw23⟩, h2, h3⟩ := hP
    replace h2 := h2.symm
    subst h2
    replace h3 := h3.symm
    subst h3
    replace hw23 := w_if hw23
    refine a_if_ne cx (tgt := 33) dX4_put_26 (by decide) (fun c_26 => ?_) (fun c_26 => absurd (hw2.2 c_5) (hw23.1 c_26))
    refine a_iload_n cx dX4_put_33 rfl rfl ?_
    refine a_bipush cx (v := 114) dX4_put_34 (by decide) ?_
    refine a_icmp_eq cx (tgt := 55) dX4_put_36 (by decide) (fun c_36 => ?_) (fun c_36 => ?_)
    · refine a_iload_n cx dX4_put_55 rfl rfl ?_
      refine a_bipush cx (v := 110) dX4_put_56 (by decide) ?_
      refine a_icmp_ne cx (tgt := 65) dX4_put_58 (by decide) (fun c_58 => ?_) (fun c_58 => ?_)
      · refine a_iload_n cx dX4_put_65 rfl rfl ?_
        refine a_bipush cx (v := 99) dX4_put_66 (by decide) ?_
        refine a_icmp_ne cx (tgt := 89) dX4_put_68 (by decide) (fun c_68 => ?_) (fun c_68 => ?_)
        · refine a_iconst cx (v := 0) dX4_put_89 (by decide) ?_
          refine pf_X4_81 cx hM dX4_put_90 ?_
          refine a_HH (hH.put (r := 60) (0) _ (by decide) (hL 60 (by decide) (by decide)) rfl) (fun τ hH => ?_)
          have hR := M_row hH hL
          have hM := M_obj hH hL
          refine a_aload_n cx dX4_put_93 rfl rfl ?_
          refine gf_X4_81 cx hM dX4_put_94 ?_
          refine a_if_le cx (tgt := 103) dX4_put_97 (by decide) (fun c_97 => ?_) (fun c_97 => absurd (show (0 : Int32) ≤ 0 by decide) c_97)
          refine a_aload_n cx dX4_put_103 rfl rfl ?_
          refine gf_X4_71 cx hM dX4_put_104 ?_
          refine a_iload_n cx dX4_put_107 rfl rfl ?_
          refine a_iload_n cx dX4_put_108 rfl rfl ?_
          refine a_cst cx (tn p9) (by exact hR _ (by decide) (by decide)) ((okm_ix (hw2.2 c_5) (by have := hI.2.2.2.1; omega)).1) ((by have h9 := (okm_ix (hw2.2 c_5) (by have := hI.2.2.2.1; omega)).2; have := hI.2.2.2.1; omega)) (by decide) (ch_nar (Or.inl c_36)) dX4_put_109 ?_
          refine a_HH (hH.put (r := 81) (tn p9) _ (by decide) (hL 81 (by decide) (by decide)) rfl) (fun τ hH => ?_)
          have hR := M_row hH hL
          have hM := M_obj hH hL
          refine a_iload_n cx dX4_put_110 rfl rfl ?_
          exact a_zret cx hr dX4_put_111 (h81 _ (okm_ix (hw2.2 c_5) (by have := hI.2.2.2.1; omega)).2) (Nat.le_of_ble_eq_true rfl) (Nat.le_of_ble_eq_true rfl) ⟨⟨_, rfl, fun _ => rfl⟩, rfl, m_okp (show jPut C p9 x = 0 from (by unfold jPut; rw [if_pos (hw2.2 c_5), if_pos (Or.inl c_36), if_pos c_58, if_neg (fun h => c_68 h.1)])) hH⟩
        · refine a_iload_n cx dX4_put_71 rfl rfl ?_
          refine a_bipush cx (v := 99) dX4_put_72 (by decide) ?_
          refine a_icmp_eq cx (tgt := 89) dX4_put_74 (by decide) (fun c_74 => ?_) (fun c_74 => ?_)
          · refine a_iconst cx (v := 0) dX4_put_89 (by decide) ?_
            refine pf_X4_81 cx hM dX4_put_90 ?_
            refine a_HH (hH.put (r := 60) (0) _ (by decide) (hL 60 (by decide) (by decide)) rfl) (fun τ hH => ?_)
            have hR := M_row hH hL
            have hM := M_obj hH hL
            refine a_aload_n cx dX4_put_93 rfl rfl ?_
            refine gf_X4_81 cx hM dX4_put_94 ?_
            refine a_if_le cx (tgt := 103) dX4_put_97 (by decide) (fun c_97 => ?_) (fun c_97 => absurd (show (0 : Int32) ≤ 0 by decide) c_97)
            refine a_aload_n cx dX4_put_103 rfl rfl ?_
            refine gf_X4_71 cx hM dX4_put_104 ?_
            refine a_iload_n cx dX4_put_107 rfl rfl ?_
            refine a_iload_n cx dX4_put_108 rfl rfl ?_
            refine a_cst cx (tn p9) (by exact hR _ (by decide) (by decide)) ((okm_ix (hw2.2 c_5) (by have := hI.2.2.2.1; omega)).1) ((by have h9 := (okm_ix (hw2.2 c_5) (by have := hI.2.2.2.1; omega)).2; have := hI.2.2.2.1; omega)) (by decide) (ch_nar (Or.inl c_36)) dX4_put_109 ?_
            refine a_HH (hH.put (r := 81) (tn p9) _ (by decide) (hL 81 (by decide) (by decide)) rfl) (fun τ hH => ?_)
            have hR := M_row hH hL
            have hM := M_obj hH hL
            refine a_iload_n cx dX4_put_110 rfl rfl ?_
            exact a_zret cx hr dX4_put_111 (h81 _ (okm_ix (hw2.2 c_5) (by have := hI.2.2.2.1; omega)).2) (Nat.le_of_ble_eq_true rfl) (Nat.le_of_ble_eq_true rfl) ⟨⟨_, rfl, fun _ => rfl⟩, rfl, m_okp (show jPut C p9 x = 0 from (by unfold jPut; rw [if_pos (hw2.2 c_5), if_pos (Or.inl c_36), if_pos c_58, if_neg (fun h => h.2.1 c_74)])) hH⟩
          · refine a_aload_n cx dX4_put_77 rfl rfl ?_
            refine a_callV cx 0 (sp_X4_cold hH hL hI) hM rfl ml_X4_119 im_X4_cold se_X4_cold ini_X4 cd_X4_cold rfl rfl (by decide +kernel) rfl rfl ⟨(Nat.le_of_ble_eq_true rfl), (Nat.le_of_ble_eq_true rfl)⟩ (Nat.le_of_ble_eq_true rfl) dX4_put_78 ⟨(Nat.le_of_ble_eq_true rfl), (Nat.le_of_ble_eq_true rfl)⟩ (fun _ _ _ h => h.elim) (fun v9 ad9 τ9 hP => ?_)
            obtain ⟨rfl, h2, h3⟩ := hP
            replace h2 := h2.symm
            subst h2
            replace h3 := h3.symm
            subst h3
            refine a_iconst cx (v := 3) dX4_put_81 (by decide) ?_
            refine a_icmp_ne cx (tgt := 89) dX4_put_82 (by decide) (fun c_82 => ?_) (fun c_82 => ?_)
            · refine a_iconst cx (v := 0) dX4_put_89 (by decide) ?_
              refine pf_X4_81 cx hM dX4_put_90 ?_
              refine a_HH (hH.put (r := 60) (0) _ (by decide) (hL 60 (by decide) (by decide)) rfl) (fun τ hH => ?_)
              have hR := M_row hH hL
              have hM := M_obj hH hL
              refine a_aload_n cx dX4_put_93 rfl rfl ?_
              refine gf_X4_81 cx hM dX4_put_94 ?_
              refine a_if_le cx (tgt := 103) dX4_put_97 (by decide) (fun c_97 => ?_) (fun c_97 => absurd (show (0 : Int32) ≤ 0 by decide) c_97)
              refine a_aload_n cx dX4_put_103 rfl rfl ?_
              refine gf_X4_71 cx hM dX4_put_104 ?_
              refine a_iload_n cx dX4_put_107 rfl rfl ?_
              refine a_iload_n cx dX4_put_108 rfl rfl ?_
              refine a_cst cx (tn p9) (by exact hR _ (by decide) (by decide)) ((okm_ix (hw2.2 c_5) (by have := hI.2.2.2.1; omega)).1) ((by have h9 := (okm_ix (hw2.2 c_5) (by have := hI.2.2.2.1; omega)).2; have := hI.2.2.2.1; omega)) (by decide) (ch_nar (Or.inl c_36)) dX4_put_109 ?_
              refine a_HH (hH.put (r := 81) (tn p9) _ (by decide) (hL 81 (by decide) (by decide)) rfl) (fun τ hH => ?_)
              have hR := M_row hH hL
              have hM := M_obj hH hL
              refine a_iload_n cx dX4_put_110 rfl rfl ?_
              exact a_zret cx hr dX4_put_111 (h81 _ (okm_ix (hw2.2 c_5) (by have := hI.2.2.2.1; omega)).2) (Nat.le_of_ble_eq_true rfl) (Nat.le_of_ble_eq_true rfl) ⟨⟨_, rfl, fun _ => rfl⟩, rfl, m_okp (show jPut C p9 x = 0 from (by unfold jPut; rw [if_pos (hw2.2 c_5), if_pos (Or.inl c_36), if_pos c_58, if_neg (fun h => c_82 h.2.2)])) hH⟩
            · refine a_iconst cx (v := 4) dX4_put_85 (by decide) ?_
              refine a_goto cx (tgt := 90) dX4_put_86 (by decide) ?_
              refine pf_X4_81 cx hM dX4_put_90 ?_
              refine a_HH (hH.put (r := 60) (0) _ (by decide) (hL 60 (by decide) (by decide)) rfl) (fun τ hH => ?_)
              have hR := M_row hH hL
              have hM := M_obj hH hL
              refine a_aload_n cx dX4_put_93 rfl rfl ?_
              refine gf_X4_81 cx hM dX4_put_94 ?_
              refine a_if_le cx (tgt := 103) dX4_put_97 (by decide) (fun c_97 => absurd (show (4 : Int32) ≤ 0 from c_97) (by decide)) (fun c_97 => ?_)
              refine a_bipush cx (v := 97) dX4_put_100 (by decide) ?_
              exact a_zret cx hr dX4_put_102 rfl (Nat.le_of_ble_eq_true rfl) (Nat.le_of_ble_eq_true rfl) ⟨⟨_, rfl, fun q => absurd (((show jPut C p9 x = 4 from (by unfold jPut; rw [if_pos (hw2.2 c_5), if_pos (Or.inl c_36), if_pos c_58, if_pos ⟨c_68, c_74, c_82⟩]))).symm.trans q) (by decide)⟩, rfl, m_no (show jPut C p9 x = 4 from (by unfold jPut; rw [if_pos (hw2.2 c_5), if_pos (Or.inl c_36), if_pos c_58, if_pos ⟨c_68, c_74, c_82⟩])) (by decide) hH⟩
      · refine a_iconst cx (v := 3) dX4_put_61 (by decide) ?_
        refine a_goto cx (tgt := 90) dX4_put_62 (by decide) ?_
        refine pf_X4_81 cx hM dX4_put_90 ?_
        refine a_HH (hH.put (r := 60) (0) _ (by decide) (hL 60 (by decide) (by decide)) rfl) (fun τ hH => ?_)
        have hR := M_row hH hL
        have hM := M_obj hH hL
        refine a_aload_n cx dX4_put_93 rfl rfl ?_
        refine gf_X4_81 cx hM dX4_put_94 ?_
        refine a_if_le cx (tgt := 103) dX4_put_97 (by decide) (fun c_97 => absurd (show (3 : Int32) ≤ 0 from c_97) (by decide)) (fun c_97 => ?_)
        refine a_bipush cx (v := 97) dX4_put_100 (by decide) ?_
        exact a_zret cx hr dX4_put_102 rfl (Nat.le_of_ble_eq_true rfl) (Nat.le_of_ble_eq_true rfl) ⟨⟨_, rfl, fun q => absurd (((show jPut C p9 x = 3 from (by unfold jPut; rw [if_pos (hw2.2 c_5), if_pos (Or.inl c_36), if_neg (fun h => h c_58)]))).symm.trans q) (by decide)⟩, rfl, m_no (show jPut C p9 x = 3 from (by unfold jPut; rw [if_pos (hw2.2 c_5), if_pos (Or.inl c_36), if_neg (fun h => h c_58)])) (by decide) hH⟩
    · refine a_iload_n cx dX4_put_39 rfl rfl ?_
      refine a_bipush cx (v := 99) dX4_put_40 (by decide) ?_
      refine a_icmp_eq cx (tgt := 55) dX4_put_42 (by decide) (fun c_42 => ?_) (fun c_42 => ?_)
      · refine a_iload_n cx dX4_put_55 rfl rfl ?_
        refine a_bipush cx (v := 110) dX4_put_56 (by decide) ?_
        refine a_icmp_ne cx (tgt := 65) dX4_put_58 (by decide) (fun c_58 => ?_) (fun c_58 => ?_)
        · refine a_iload_n cx dX4_put_65 rfl rfl ?_
          refine a_bipush cx (v := 99) dX4_put_66 (by decide) ?_
          refine a_icmp_ne cx (tgt := 89) dX4_put_68 (by decide) (fun c_68 => ?_) (fun c_68 => ?_)
          · refine a_iconst cx (v := 0) dX4_put_89 (by decide) ?_
            refine pf_X4_81 cx hM dX4_put_90 ?_
            refine a_HH (hH.put (r := 60) (0) _ (by decide) (hL 60 (by decide) (by decide)) rfl) (fun τ hH => ?_)
            have hR := M_row hH hL
            have hM := M_obj hH hL
            refine a_aload_n cx dX4_put_93 rfl rfl ?_
            refine gf_X4_81 cx hM dX4_put_94 ?_
            refine a_if_le cx (tgt := 103) dX4_put_97 (by decide) (fun c_97 => ?_) (fun c_97 => absurd (show (0 : Int32) ≤ 0 by decide) c_97)
            refine a_aload_n cx dX4_put_103 rfl rfl ?_
            refine gf_X4_71 cx hM dX4_put_104 ?_
            refine a_iload_n cx dX4_put_107 rfl rfl ?_
            refine a_iload_n cx dX4_put_108 rfl rfl ?_
            refine a_cst cx (tn p9) (by exact hR _ (by decide) (by decide)) ((okm_ix (hw2.2 c_5) (by have := hI.2.2.2.1; omega)).1) ((by have h9 := (okm_ix (hw2.2 c_5) (by have := hI.2.2.2.1; omega)).2; have := hI.2.2.2.1; omega)) (by decide) (ch_nar (Or.inr (Or.inl c_42))) dX4_put_109 ?_
            refine a_HH (hH.put (r := 81) (tn p9) _ (by decide) (hL 81 (by decide) (by decide)) rfl) (fun τ hH => ?_)
            have hR := M_row hH hL
            have hM := M_obj hH hL
            refine a_iload_n cx dX4_put_110 rfl rfl ?_
            exact a_zret cx hr dX4_put_111 (h81 _ (okm_ix (hw2.2 c_5) (by have := hI.2.2.2.1; omega)).2) (Nat.le_of_ble_eq_true rfl) (Nat.le_of_ble_eq_true rfl) ⟨⟨_, rfl, fun _ => rfl⟩, rfl, m_okp (show jPut C p9 x = 0 from (by unfold jPut; rw [if_pos (hw2.2 c_5), if_pos (Or.inr (Or.inl c_42)), if_pos c_58, if_neg (fun h => c_68 h.1)])) hH⟩
          · refine a_iload_n cx dX4_put_71 rfl rfl ?_
            refine a_bipush cx (v := 99) dX4_put_72 (by decide) ?_
            refine a_icmp_eq cx (tgt := 89) dX4_put_74 (by decide) (fun c_74 => ?_) (fun c_74 => ?_)
            · refine a_iconst cx (v := 0) dX4_put_89 (by decide) ?_
              refine pf_X4_81 cx hM dX4_put_90 ?_
              refine a_HH (hH.put (r := 60) (0) _ (by decide) (hL 60 (by decide) (by decide)) rfl) (fun τ hH => ?_)
              have hR := M_row hH hL
              have hM := M_obj hH hL
              refine a_aload_n cx dX4_put_93 rfl rfl ?_
              refine gf_X4_81 cx hM dX4_put_94 ?_
              refine a_if_le cx (tgt := 103) dX4_put_97 (by decide) (fun c_97 => ?_) (fun c_97 => absurd (show (0 : Int32) ≤ 0 by decide) c_97)
              refine a_aload_n cx dX4_put_103 rfl rfl ?_
              refine gf_X4_71 cx hM dX4_put_104 ?_
              refine a_iload_n cx dX4_put_107 rfl rfl ?_
              refine a_iload_n cx dX4_put_108 rfl rfl ?_
              refine a_cst cx (tn p9) (by exact hR _ (by decide) (by decide)) ((okm_ix (hw2.2 c_5) (by have := hI.2.2.2.1; omega)).1) ((by have h9 := (okm_ix (hw2.2 c_5) (by have := hI.2.2.2.1; omega)).2; have := hI.2.2.2.1; omega)) (by decide) (ch_nar (Or.inr (Or.inl c_42))) dX4_put_109 ?_
              refine a_HH (hH.put (r := 81) (tn p9) _ (by decide) (hL 81 (by decide) (by decide)) rfl) (fun τ hH => ?_)
              have hR := M_row hH hL
              have hM := M_obj hH hL
              refine a_iload_n cx dX4_put_110 rfl rfl ?_
              exact a_zret cx hr dX4_put_111 (h81 _ (okm_ix (hw2.2 c_5) (by have := hI.2.2.2.1; omega)).2) (Nat.le_of_ble_eq_true rfl) (Nat.le_of_ble_eq_true rfl) ⟨⟨_, rfl, fun _ => rfl⟩, rfl, m_okp (show jPut C p9 x = 0 from (by unfold jPut; rw [if_pos (hw2.2 c_5), if_pos (Or.inr (Or.inl c_42)), if_pos c_58, if_neg (fun h => h.2.1 c_74)])) hH⟩
            · refine a_aload_n cx dX4_put_77 rfl rfl ?_
              refine a_callV cx 0 (sp_X4_cold hH hL hI) hM rfl ml_X4_119 im_X4_cold se_X4_cold ini_X4 cd_X4_cold rfl rfl (by decide +kernel) rfl rfl ⟨(Nat.le_of_ble_eq_true rfl), (Nat.le_of_ble_eq_true rfl)⟩ (Nat.le_of_ble_eq_true rfl) dX4_put_78 ⟨(Nat.le_of_ble_eq_true rfl), (Nat.le_of_ble_eq_true rfl)⟩ (fun _ _ _ h => h.elim) (fun v9 ad9 τ9 hP => ?_)
              obtain ⟨rfl, h2, h3⟩ := hP
              replace h2 := h2.symm
              subst h2
              replace h3 := h3.symm
              subst h3
              refine a_iconst cx (v := 3) dX4_put_81 (by decide) ?_
              refine a_icmp_ne cx (tgt := 89) dX4_put_82 (by decide) (fun c_82 => ?_) (fun c_82 => ?_)
              · refine a_iconst cx (v := 0) dX4_put_89 (by decide) ?_
                refine pf_X4_81 cx hM dX4_put_90 ?_
                refine a_HH (hH.put (r := 60) (0) _ (by decide) (hL 60 (by decide) (by decide)) rfl) (fun τ hH => ?_)
                have hR := M_row hH hL
                have hM := M_obj hH hL
                refine a_aload_n cx dX4_put_93 rfl rfl ?_
                refine gf_X4_81 cx hM dX4_put_94 ?_
                refine a_if_le cx (tgt := 103) dX4_put_97 (by decide) (fun c_97 => ?_) (fun c_97 => absurd (show (0 : Int32) ≤ 0 by decide) c_97)
                refine a_aload_n cx dX4_put_103 rfl rfl ?_
                refine gf_X4_71 cx hM dX4_put_104 ?_
                refine a_iload_n cx dX4_put_107 rfl rfl ?_
                refine a_iload_n cx dX4_put_108 rfl rfl ?_
                refine a_cst cx (tn p9) (by exact hR _ (by decide) (by decide)) ((okm_ix (hw2.2 c_5) (by have := hI.2.2.2.1; omega)).1) ((by have h9 := (okm_ix (hw2.2 c_5) (by have := hI.2.2.2.1; omega)).2; have := hI.2.2.2.1; omega)) (by decide) (ch_nar (Or.inr (Or.inl c_42))) dX4_put_109 ?_
                refine a_HH (hH.put (r := 81) (tn p9) _ (by decide) (hL 81 (by decide) (by decide)) rfl) (fun τ hH => ?_)
                have hR := M_row hH hL
                have hM := M_obj hH hL
                refine a_iload_n cx dX4_put_110 rfl rfl ?_
                exact a_zret cx hr dX4_put_111 (h81 _ (okm_ix (hw2.2 c_5) (by have := hI.2.2.2.1; omega)).2) (Nat.le_of_ble_eq_true rfl) (Nat.le_of_ble_eq_true rfl) ⟨⟨_, rfl, fun _ => rfl⟩, rfl, m_okp (show jPut C p9 x = 0 from (by unfold jPut; rw [if_pos (hw2.2 c_5), if_pos (Or.inr (Or.inl c_42)), if_pos c_58, if_neg (fun h => c_82 h.2.2)])) hH⟩
              · refine a_iconst cx (v := 4) dX4_put_85 (by decide) ?_
                refine a_goto cx (tgt := 90) dX4_put_86 (by decide) ?_
                refine pf_X4_81 cx hM dX4_put_90 ?_
                refine a_HH (hH.put (r := 60) (0) _ (by decide) (hL 60 (by decide) (by decide)) rfl) (fun τ hH => ?_)
                have hR := M_row hH hL
                have hM := M_obj hH hL
                refine a_aload_n cx dX4_put_93 rfl rfl ?_
                refine gf_X4_81 cx hM dX4_put_94 ?_
                refine a_if_le cx (tgt := 103) dX4_put_97 (by decide) (fun c_97 => absurd (show (4 : Int32) ≤ 0 from c_97) (by decide)) (fun c_97 => ?_)
                refine a_bipush cx (v := 97) dX4_put_100 (by decide) ?_
                exact a_zret cx hr dX4_put_102 rfl (Nat.le_of_ble_eq_true rfl) (Nat.le_of_ble_eq_true rfl) ⟨⟨_, rfl, fun q => absurd (((show jPut C p9 x = 4 from (by unfold jPut; rw [if_pos (hw2.2 c_5), if_pos (Or.inr (Or.inl c_42)), if_pos c_58, if_pos ⟨c_68, c_74, c_82⟩]))).symm.trans q) (by decide)⟩, rfl, m_no (show jPut C p9 x = 4 from (by unfold jPut; rw [if_pos (hw2.2 c_5), if_pos (Or.inr (Or.inl c_42)), if_pos c_58, if_pos ⟨c_68, c_74, c_82⟩])) (by decide) hH⟩
        · refine a_iconst cx (v := 3) dX4_put_61 (by decide) ?_
          refine a_goto cx (tgt := 90) dX4_put_62 (by decide) ?_
          refine pf_X4_81 cx hM dX4_put_90 ?_
          refine a_HH (hH.put (r := 60) (0) _ (by decide) (hL 60 (by decide) (by decide)) rfl) (fun τ hH => ?_)
          have hR := M_row hH hL
          have hM := M_obj hH hL
          refine a_aload_n cx dX4_put_93 rfl rfl ?_
          refine gf_X4_81 cx hM dX4_put_94 ?_
          refine a_if_le cx (tgt := 103) dX4_put_97 (by decide) (fun c_97 => absurd (show (3 : Int32) ≤ 0 from c_97) (by decide)) (fun c_97 => ?_)
          refine a_bipush cx (v := 97) dX4_put_100 (by decide) ?_
          exact a_zret cx hr dX4_put_102 rfl (Nat.le_of_ble_eq_true rfl) (Nat.le_of_ble_eq_true rfl) ⟨⟨_, rfl, fun q => absurd (((show jPut C p9 x = 3 from (by unfold jPut; rw [if_pos (hw2.2 c_5), if_pos (Or.inr (Or.inl c_42)), if_neg (fun h => h c_58)]))).symm.trans q) (by decide)⟩, rfl, m_no (show jPut C p9 x = 3 from (by unfold jPut; rw [if_pos (hw2.2 c_5), if_pos (Or.inr (Or.inl c_42)), if_neg (fun h => h c_58)])) (by decide) hH⟩
      · refine a_iload_n cx dX4_put_45 rfl rfl ?_
        refine a_bipush cx (v := 98) dX4_put_46 (by decide) ?_
        refine a_icmp_eq cx (tgt := 55) dX4_put_48 (by decide) (fun c_48 => ?_) (fun c_48 => ?_)
        · refine a_iload_n cx dX4_put_55 rfl rfl ?_
          refine a_bipush cx (v := 110) dX4_put_56 (by decide) ?_
          refine a_icmp_ne cx (tgt := 65) dX4_put_58 (by decide) (fun c_58 => ?_) (fun c_58 => ?_)
          · refine a_iload_n cx dX4_put_65 rfl rfl ?_
            refine a_bipush cx (v := 99) dX4_put_66 (by decide) ?_
            refine a_icmp_ne cx (tgt := 89) dX4_put_68 (by decide) (fun c_68 => ?_) (fun c_68 => ?_)
            · refine a_iconst cx (v := 0) dX4_put_89 (by decide) ?_
              refine pf_X4_81 cx hM dX4_put_90 ?_
              refine a_HH (hH.put (r := 60) (0) _ (by decide) (hL 60 (by decide) (by decide)) rfl) (fun τ hH => ?_)
              have hR := M_row hH hL
              have hM := M_obj hH hL
              refine a_aload_n cx dX4_put_93 rfl rfl ?_
              refine gf_X4_81 cx hM dX4_put_94 ?_
              refine a_if_le cx (tgt := 103) dX4_put_97 (by decide) (fun c_97 => ?_) (fun c_97 => absurd (show (0 : Int32) ≤ 0 by decide) c_97)
              refine a_aload_n cx dX4_put_103 rfl rfl ?_
              refine gf_X4_71 cx hM dX4_put_104 ?_
              refine a_iload_n cx dX4_put_107 rfl rfl ?_
              refine a_iload_n cx dX4_put_108 rfl rfl ?_
              refine a_cst cx (tn p9) (by exact hR _ (by decide) (by decide)) ((okm_ix (hw2.2 c_5) (by have := hI.2.2.2.1; omega)).1) ((by have h9 := (okm_ix (hw2.2 c_5) (by have := hI.2.2.2.1; omega)).2; have := hI.2.2.2.1; omega)) (by decide) (ch_nar (Or.inr (Or.inr c_48))) dX4_put_109 ?_
              refine a_HH (hH.put (r := 81) (tn p9) _ (by decide) (hL 81 (by decide) (by decide)) rfl) (fun τ hH => ?_)
              have hR := M_row hH hL
              have hM := M_obj hH hL
              refine a_iload_n cx dX4_put_110 rfl rfl ?_
              exact a_zret cx hr dX4_put_111 (h81 _ (okm_ix (hw2.2 c_5) (by have := hI.2.2.2.1; omega)).2) (Nat.le_of_ble_eq_true rfl) (Nat.le_of_ble_eq_true rfl) ⟨⟨_, rfl, fun _ => rfl⟩, rfl, m_okp (show jPut C p9 x = 0 from (by unfold jPut; rw [if_pos (hw2.2 c_5), if_pos (Or.inr (Or.inr c_48)), if_pos c_58, if_neg (fun h => c_68 h.1)])) hH⟩
            · refine a_iload_n cx dX4_put_71 rfl rfl ?_
              refine a_bipush cx (v := 99) dX4_put_72 (by decide) ?_
              refine a_icmp_eq cx (tgt := 89) dX4_put_74 (by decide) (fun c_74 => ?_) (fun c_74 => ?_)
              · refine a_iconst cx (v := 0) dX4_put_89 (by decide) ?_
                refine pf_X4_81 cx hM dX4_put_90 ?_
                refine a_HH (hH.put (r := 60) (0) _ (by decide) (hL 60 (by decide) (by decide)) rfl) (fun τ hH => ?_)
                have hR := M_row hH hL
                have hM := M_obj hH hL
                refine a_aload_n cx dX4_put_93 rfl rfl ?_
                refine gf_X4_81 cx hM dX4_put_94 ?_
                refine a_if_le cx (tgt := 103) dX4_put_97 (by decide) (fun c_97 => ?_) (fun c_97 => absurd (show (0 : Int32) ≤ 0 by decide) c_97)
                refine a_aload_n cx dX4_put_103 rfl rfl ?_
                refine gf_X4_71 cx hM dX4_put_104 ?_
                refine a_iload_n cx dX4_put_107 rfl rfl ?_
                refine a_iload_n cx dX4_put_108 rfl rfl ?_
                refine a_cst cx (tn p9) (by exact hR _ (by decide) (by decide)) ((okm_ix (hw2.2 c_5) (by have := hI.2.2.2.1; omega)).1) ((by have h9 := (okm_ix (hw2.2 c_5) (by have := hI.2.2.2.1; omega)).2; have := hI.2.2.2.1; omega)) (by decide) (ch_nar (Or.inr (Or.inr c_48))) dX4_put_109 ?_
                refine a_HH (hH.put (r := 81) (tn p9) _ (by decide) (hL 81 (by decide) (by decide)) rfl) (fun τ hH => ?_)
                have hR := M_row hH hL
                have hM := M_obj hH hL
                refine a_iload_n cx dX4_put_110 rfl rfl ?_
                exact a_zret cx hr dX4_put_111 (h81 _ (okm_ix (hw2.2 c_5) (by have := hI.2.2.2.1; omega)).2) (Nat.le_of_ble_eq_true rfl) (Nat.le_of_ble_eq_true rfl) ⟨⟨_, rfl, fun _ => rfl⟩, rfl, m_okp (show jPut C p9 x = 0 from (by unfold jPut; rw [if_pos (hw2.2 c_5), if_pos (Or.inr (Or.inr c_48)), if_pos c_58, if_neg (fun h => h.2.1 c_74)])) hH⟩
              · refine a_aload_n cx dX4_put_77 rfl rfl ?_
                refine a_callV cx 0 (sp_X4_cold hH hL hI) hM rfl ml_X4_119 im_X4_cold se_X4_cold ini_X4 cd_X4_cold rfl rfl (by decide +kernel) rfl rfl ⟨(Nat.le_of_ble_eq_true rfl), (Nat.le_of_ble_eq_true rfl)⟩ (Nat.le_of_ble_eq_true rfl) dX4_put_78 ⟨(Nat.le_of_ble_eq_true rfl), (Nat.le_of_ble_eq_true rfl)⟩ (fun _ _ _ h => h.elim) (fun v9 ad9 τ9 hP => ?_)
                obtain ⟨rfl, h2, h3⟩ := hP
                replace h2 := h2.symm
                subst h2
                replace h3 := h3.symm
                subst h3
                refine a_iconst cx (v := 3) dX4_put_81 (by decide) ?_
                refine a_icmp_ne cx (tgt := 89) dX4_put_82 (by decide) (fun c_82 => ?_) (fun c_82 => ?_)
                · refine a_iconst cx (v := 0) dX4_put_89 (by decide) ?_
                  refine pf_X4_81 cx hM dX4_put_90 ?_
                  refine a_HH (hH.put (r := 60) (0) _ (by decide) (hL 60 (by decide) (by decide)) rfl) (fun τ hH => ?_)
                  have hR := M_row hH hL
                  have hM := M_obj hH hL
                  refine a_aload_n cx dX4_put_93 rfl rfl ?_
                  refine gf_X4_81 cx hM dX4_put_94 ?_
                  refine a_if_le cx (tgt := 103) dX4_put_97 (by decide) (fun c_97 => ?_) (fun c_97 => absurd (show (0 : Int32) ≤ 0 by decide) c_97)
                  refine a_aload_n cx dX4_put_103 rfl rfl ?_
                  refine gf_X4_71 cx hM dX4_put_104 ?_
                  refine a_iload_n cx dX4_put_107 rfl rfl ?_
                  refine a_iload_n cx dX4_put_108 rfl rfl ?_
                  refine a_cst cx (tn p9) (by exact hR _ (by decide) (by decide)) ((okm_ix (hw2.2 c_5) (by have := hI.2.2.2.1; omega)).1) ((by have h9 := (okm_ix (hw2.2 c_5) (by have := hI.2.2.2.1; omega)).2; have := hI.2.2.2.1; omega)) (by decide) (ch_nar (Or.inr (Or.inr c_48))) dX4_put_109 ?_
                  refine a_HH (hH.put (r := 81) (tn p9) _ (by decide) (hL 81 (by decide) (by decide)) rfl) (fun τ hH => ?_)
                  have hR := M_row hH hL
                  have hM := M_obj hH hL
                  refine a_iload_n cx dX4_put_110 rfl rfl ?_
                  exact a_zret cx hr dX4_put_111 (h81 _ (okm_ix (hw2.2 c_5) (by have := hI.2.2.2.1; omega)).2) (Nat.le_of_ble_eq_true rfl) (Nat.le_of_ble_eq_true rfl) ⟨⟨_, rfl, fun _ => rfl⟩, rfl, m_okp (show jPut C p9 x = 0 from (by unfold jPut; rw [if_pos (hw2.2 c_5), if_pos (Or.inr (Or.inr c_48)), if_pos c_58, if_neg (fun h => c_82 h.2.2)])) hH⟩
                · refine a_iconst cx (v := 4) dX4_put_85 (by decide) ?_
                  refine a_goto cx (tgt := 90) dX4_put_86 (by decide) ?_
                  refine pf_X4_81 cx hM dX4_put_90 ?_
                  refine a_HH (hH.put (r := 60) (0) _ (by decide) (hL 60 (by decide) (by decide)) rfl) (fun τ hH => ?_)
                  have hR := M_row hH hL
                  have hM := M_obj hH hL
                  refine a_aload_n cx dX4_put_93 rfl rfl ?_
                  refine gf_X4_81 cx hM dX4_put_94 ?_
                  refine a_if_le cx (tgt := 103) dX4_put_97 (by decide) (fun c_97 => absurd (show (4 : Int32) ≤ 0 from c_97) (by decide)) (fun c_97 => ?_)
                  refine a_bipush cx (v := 97) dX4_put_100 (by decide) ?_
                  exact a_zret cx hr dX4_put_102 rfl (Nat.le_of_ble_eq_true rfl) (Nat.le_of_ble_eq_true rfl) ⟨⟨_, rfl, fun q => absurd (((show jPut C p9 x = 4 from (by unfold jPut; rw [if_pos (hw2.2 c_5), if_pos (Or.inr (Or.inr c_48)), if_pos c_58, if_pos ⟨c_68, c_74, c_82⟩]))).symm.trans q) (by decide)⟩, rfl, m_no (show jPut C p9 x = 4 from (by unfold jPut; rw [if_pos (hw2.2 c_5), if_pos (Or.inr (Or.inr c_48)), if_pos c_58, if_pos ⟨c_68, c_74, c_82⟩])) (by decide) hH⟩
          · refine a_iconst cx (v := 3) dX4_put_61 (by decide) ?_
            refine a_goto cx (tgt := 90) dX4_put_62 (by decide) ?_
            refine pf_X4_81 cx hM dX4_put_90 ?_
            refine a_HH (hH.put (r := 60) (0) _ (by decide) (hL 60 (by decide) (by decide)) rfl) (fun τ hH => ?_)
            have hR := M_row hH hL
            have hM := M_obj hH hL
            refine a_aload_n cx dX4_put_93 rfl rfl ?_
            refine gf_X4_81 cx hM dX4_put_94 ?_
            refine a_if_le cx (tgt := 103) dX4_put_97 (by decide) (fun c_97 => absurd (show (3 : Int32) ≤ 0 from c_97) (by decide)) (fun c_97 => ?_)
            refine a_bipush cx (v := 97) dX4_put_100 (by decide) ?_
            exact a_zret cx hr dX4_put_102 rfl (Nat.le_of_ble_eq_true rfl) (Nat.le_of_ble_eq_true rfl) ⟨⟨_, rfl, fun q => absurd (((show jPut C p9 x = 3 from (by unfold jPut; rw [if_pos (hw2.2 c_5), if_pos (Or.inr (Or.inr c_48)), if_neg (fun h => h c_58)]))).symm.trans q) (by decide)⟩, rfl, m_no (show jPut C p9 x = 3 from (by unfold jPut; rw [if_pos (hw2.2 c_5), if_pos (Or.inr (Or.inr c_48)), if_neg (fun h => h c_58)])) (by decide) hH⟩
        · refine a_iconst cx (v := 2) dX4_put_51 (by decide) ?_
          refine a_goto cx (tgt := 90) dX4_put_52 (by decide) ?_
          refine pf_X4_81 cx hM dX4_put_90 ?_
          refine a_HH (hH.put (r := 60) (0) _ (by decide) (hL 60 (by decide) (by decide)) rfl) (fun τ hH => ?_)
          have hR := M_row hH hL
          have hM := M_obj hH hL
          refine a_aload_n cx dX4_put_93 rfl rfl ?_
          refine gf_X4_81 cx hM dX4_put_94 ?_
          refine a_if_le cx (tgt := 103) dX4_put_97 (by decide) (fun c_97 => absurd (show (2 : Int32) ≤ 0 from c_97) (by decide)) (fun c_97 => ?_)
          refine a_bipush cx (v := 97) dX4_put_100 (by decide) ?_
          exact a_zret cx hr dX4_put_102 rfl (Nat.le_of_ble_eq_true rfl) (Nat.le_of_ble_eq_true rfl) ⟨⟨_, rfl, fun q => absurd (((show jPut C p9 x = 2 from (by unfold jPut; rw [if_pos (hw2.2 c_5), if_neg (fun h => h.elim c_36 (fun h => h.elim c_42 c_48))]))).symm.trans q) (by decide)⟩, rfl, m_no (show jPut C p9 x = 2 from (by unfold jPut; rw [if_pos (hw2.2 c_5), if_neg (fun h => h.elim c_36 (fun h => h.elim c_42 c_48))])) (by decide) hH⟩

def mmF (C : ME) : Nat → Nat → Nat → Nat
  | 0, _, b => b
  | f + 1, u, b => mmF C f (u + 1) (if mOwed C (nI b) < mOwed C (nI u) then u else b)
def mBest (C : ME) : Nat := mmF C 9 1 0
def jMost (C : ME) : Int32 := if mOwed C (nI (mBest C)) = 0 then 1 else 0
set_option maxHeartbeats 4000000 in
set_option maxRecDepth 100000 in
/-- model: mostOwed -/
theorem sp_X4_mostOwed {l : Launch} {g : GW} {ad : AD} {τ : RH} {Lv : Nat → Bool} {C : ME} {ρ : RH}  (hH : HH g ad Lv C ρ τ) (hL : mL Lv) (hI : mI C) : Sp l g yX4_mostOwed (.code yX4_mostOwed cX4_mostOwed 3 (some .int)) (rmv 4 0 0) [.ref (ad 60)] ad τ 0 0 (fun v ad' τ' => (∃ w, v = some (.int w) ∧ (jMost C = 0 → w = nI (mBest C))) ∧ ad' = ad ∧ HH g ad Lv (up2 (if jMost C = 0 then C else C) 60 0 (jMost C)) ρ τ') (NoX) := by
  refine Sp.of 2 [some (.ref (ad 60)), none, none] (by decide +kernel) (Nat.le_of_ble_eq_true rfl) rfl ?_
  intro p e s m args below meth c A cx hout hr hnm
  have hM := M_obj hH hL
  have hR := M_row hH hL
  refine a_iconst cx (v := 0) dX4_mostOwed_0 (by decide) ?_
  refine a_istore_n1 cx dX4_mostOwed_1 rfl (by decide) (by intro w h; first | (cases h; rfl) | (cases h; assumption) | (cases h; done)) ?_
  refine a_iconst cx (v := 1) dX4_mostOwed_2 (by decide) ?_
  refine a_istore_n2 cx dX4_mostOwed_3 rfl (by decide) (by intro w h; first | (cases h; rfl) | (cases h; assumption) | (cases h; done)) ?_
  refine a_loop (σ := Nat × Nat) (fun f s => s.1 + f = 10 ∧ mmF C f s.1 s.2 = mBest C) (fun _ => ad) (fun _ => τ) (fun s => [some (.ref (ad 60)), some (.int (nI s.2)), some (.int (nI s.1))]) 9 (1, 0) ⟨rfl, rfl⟩ rfl rfl rfl ?_
  rintro f ⟨i, b⟩ ⟨hi, hx⟩ ih
  dsimp only at hi hx ⊢
  refine a_iload_n cx dX4_mostOwed_4 rfl rfl ?_
  refine a_bipush cx (v := 10) dX4_mostOwed_5 (by decide) ?_
  refine a_icmp_ge cx (tgt := 35) dX4_mostOwed_7 (by decide) (fun c_7 => ?_) (fun c_7 => ?_)
  · have hz : f = 0 := (by have := le_nI (a := 10) (b := i) c_7 (by omega) (by decide); omega)
    subst hz
    replace hx : b = mBest C := hx
    subst hx
    refine a_aload_n cx dX4_mostOwed_35 rfl rfl ?_
    refine a_iload_n cx dX4_mostOwed_36 rfl rfl ?_
    refine a_callV cx 1 (sp_X4_owedTo (u := nI (mBest C)) hH hL hI) hM rfl ml_X4_140 im_X4_owedTo se_X4_owedTo ini_X4 cd_X4_owedTo rfl rfl (by decide +kernel) rfl rfl ⟨(Nat.le_of_ble_eq_true rfl), (Nat.le_of_ble_eq_true rfl)⟩ (Nat.le_of_ble_eq_true rfl) dX4_mostOwed_37 ⟨(Nat.le_of_ble_eq_true rfl), (Nat.le_of_ble_eq_true rfl)⟩ (fun _ _ _ h => h.elim) (fun v9 ad9 τ9 hP => ?_)
    obtain ⟨rfl, h2, h3⟩ := hP
    replace h2 := h2.symm
    subst h2
    replace h3 := h3.symm
    subst h3
    refine a_if_ne cx (tgt := 51) dX4_mostOwed_40 (by decide) (fun c_40 => ?_) (fun c_40 => ?_)
    · refine a_aload_n cx dX4_mostOwed_51 rfl rfl ?_
      refine a_iload_n cx dX4_mostOwed_52 rfl rfl ?_
      refine a_callV cx 1 (sp_X4_tells hH hL) hM rfl ml_X4_99 im_X4_tells se_X4_tells ini_X4 cd_X4_tells rfl rfl (by decide +kernel) rfl rfl ⟨(Nat.le_of_ble_eq_true rfl), (Nat.le_of_ble_eq_true rfl)⟩ (Nat.le_of_ble_eq_true rfl) dX4_mostOwed_53 ⟨(Nat.le_of_ble_eq_true rfl), (Nat.le_of_ble_eq_true rfl)⟩ (fun _ _ _ h => h.elim) (fun v9 ad9 τ9 hP => ?_)
      obtain ⟨rfl, h2, hH⟩ := hP
      replace h2 := h2.symm
      subst h2
      exact a_iret cx hr dX4_mostOwed_56 (Nat.le_of_ble_eq_true rfl) (Nat.le_of_ble_eq_true rfl) ⟨⟨_, rfl, fun _ => rfl⟩, rfl, m_ok (show jMost C = 0 from (by unfold jMost; rw [if_neg c_40])) hH⟩
    · refine a_aload_n cx dX4_mostOwed_43 rfl rfl ?_
      refine a_iconst cx (v := 1) dX4_mostOwed_44 (by decide) ?_
      refine a_callV cx 1 (sp_X4_fails (k := 1) hH hL) hM rfl ml_X4_95 im_X4_fails se_X4_fails ini_X4 cd_X4_fails rfl rfl (by decide +kernel) rfl rfl ⟨(Nat.le_of_ble_eq_true rfl), (Nat.le_of_ble_eq_true rfl)⟩ (Nat.le_of_ble_eq_true rfl) dX4_mostOwed_45 ⟨(Nat.le_of_ble_eq_true rfl), (Nat.le_of_ble_eq_true rfl)⟩ (fun _ _ _ h => h.elim) (fun v9 ad9 τ9 hP => ?_)
      obtain ⟨rfl, h2, hH⟩ := hP
      replace h2 := h2.symm
      subst h2
      refine a_goto cx (tgt := 56) dX4_mostOwed_48 (by decide) ?_
      exact a_iret cx hr dX4_mostOwed_56 (Nat.le_of_ble_eq_true rfl) (Nat.le_of_ble_eq_true rfl) ⟨⟨_, rfl, fun q => absurd (((show jMost C = 1 from (by unfold jMost; rw [if_pos c_40]))).symm.trans q) (by decide)⟩, rfl, m_no (show jMost C = 1 from (by unfold jMost; rw [if_pos c_40])) (by decide) hH⟩
  · have hin : i < 10 := by
      rcases Nat.lt_or_ge i 10 with h9 | h9
      · exact h9
      · exact absurd (nI_le h9 (by omega)) c_7
    obtain ⟨f, rfl⟩ : ∃ f9, f = f9 + 1 := ⟨f - 1, by omega⟩
    unfold mmF at hx
    refine a_aload_n cx dX4_mostOwed_10 rfl rfl ?_
    refine a_iload_n cx dX4_mostOwed_11 rfl rfl ?_
    refine a_callV cx 1 (sp_X4_owedTo (u := nI (i)) hH hL hI) hM rfl ml_X4_140 im_X4_owedTo se_X4_owedTo ini_X4 cd_X4_owedTo rfl rfl (by decide +kernel) rfl rfl ⟨(Nat.le_of_ble_eq_true rfl), (Nat.le_of_ble_eq_true rfl)⟩ (Nat.le_of_ble_eq_true rfl) dX4_mostOwed_12 ⟨(Nat.le_of_ble_eq_true rfl), (Nat.le_of_ble_eq_true rfl)⟩ (fun _ _ _ h => h.elim) (fun v9 ad9 τ9 hP => ?_)
    obtain ⟨rfl, h2, h3⟩ := hP
    replace h2 := h2.symm
    subst h2
    replace h3 := h3.symm
    subst h3
    refine a_aload_n cx dX4_mostOwed_15 rfl rfl ?_
    refine a_iload_n cx dX4_mostOwed_16 rfl rfl ?_
    refine a_callV cx 1 (sp_X4_owedTo (u := nI (b)) hH hL hI) hM rfl ml_X4_140 im_X4_owedTo se_X4_owedTo ini_X4 cd_X4_owedTo rfl rfl (by decide +kernel) rfl rfl ⟨(Nat.le_of_ble_eq_true rfl), (Nat.le_of_ble_eq_true rfl)⟩ (Nat.le_of_ble_eq_true rfl) dX4_mostOwed_17 ⟨(Nat.le_of_ble_eq_true rfl), (Nat.le_of_ble_eq_true rfl)⟩ (fun _ _ _ h => h.elim) (fun v9 ad9 τ9 hP => ?_)
    obtain ⟨rfl, h2, h3⟩ := hP
    replace h2 := h2.symm
    subst h2
    replace h3 := h3.symm
    subst h3
    refine a_icmp_le cx (tgt := 27) dX4_mostOwed_20 (by decide) (fun c_20 => ?_) (fun c_20 => ?_)
    · refine a_iload_n cx dX4_mostOwed_27 rfl rfl ?_
      refine a_istore_n1 cx dX4_mostOwed_28 rfl (by decide) (by intro w h; first | (cases h; rfl) | (cases h; assumption) | (cases h; done)) ?_
      refine a_iinc2 cx (nI (i + 1)) dX4_mostOwed_29 (nI_1 i) (by decide) (by intro w h; first | (cases h; rfl) | (cases h; assumption) | (cases h; done)) ?_
      refine a_goto cx (tgt := 4) dX4_mostOwed_32 (by decide) ?_
      rw [if_neg (fun h => lt_ge h c_20)] at hx
      exact ih f (i + 1, b) (Nat.lt_succ_self f) ⟨by omega, hx⟩
    · refine a_iload_n cx dX4_mostOwed_23 rfl rfl ?_
      refine a_goto cx (tgt := 28) dX4_mostOwed_24 (by decide) ?_
      refine a_istore_n1 cx dX4_mostOwed_28 rfl (by decide) (by intro w h; first | (cases h; rfl) | (cases h; assumption) | (cases h; done)) ?_
      refine a_iinc2 cx (nI (i + 1)) dX4_mostOwed_29 (nI_1 i) (by decide) (by intro w h; first | (cases h; rfl) | (cases h; assumption) | (cases h; done)) ?_
      refine a_goto cx (tgt := 4) dX4_mostOwed_32 (by decide) ?_
      rw [if_pos (le_gt c_20)] at hx
      exact ih f (i + 1, i) (Nat.lt_succ_self f) ⟨by omega, hx⟩

def mGood (C : ME) : Int32 := sumf (fun p => C 76 p) (mNp C) 0 0
def mAllD (C : ME) : Int32 := sumf (fun p => C 76 p + C 77 p + C 78 p) (mNp C) 0 0
def jShare (C : ME) : Int32 := if mAllD C = 0 then 1 else 0
def mShare (C : ME) : UInt32 := FP.fdiv (FP.i2f (mGood C)) (FP.i2f (mAllD C))
set_option maxHeartbeats 4000000 in
set_option maxRecDepth 100000 in
/-- model: doneShare -/
theorem sp_X4_doneShare {l : Launch} {g : GW} {ad : AD} {τ : RH} {Lv : Nat → Bool} {C : ME} {ρ : RH}  (hH : HH g ad Lv C ρ τ) (hL : mL Lv) (hI : mI C) (hn : ¬ mAllD C = 0 → vf_n32 (mShare C)) : Sp l g yX4_doneShare (.code yX4_doneShare cX4_doneShare 4 (some .float)) (rmv 4 0 0) [.ref (ad 60)] ad τ 0 0 (fun v ad' τ' => (∃ w, v = some (.float w) ∧ (jShare C = 0 → w = mShare C)) ∧ ad' = ad ∧ HH g ad Lv (up2 (if jShare C = 0 then C else C) 60 0 (jShare C)) ρ τ') (NoX) := by
  refine Sp.of 3 [some (.ref (ad 60)), none, none, none] (by decide +kernel) (Nat.le_of_ble_eq_true rfl) rfl ?_
  intro p e s m args below meth c A cx hout hr hnm
  have hM := M_obj hH hL
  have hR := M_row hH hL
  refine a_iconst cx (v := 0) dX4_doneShare_0 (by decide) ?_
  refine a_istore_n1 cx dX4_doneShare_1 rfl (by decide) (by intro w h; first | (cases h; rfl) | (cases h; assumption) | (cases h; done)) ?_
  refine a_iconst cx (v := 0) dX4_doneShare_2 (by decide) ?_
  refine a_istore_n2 cx dX4_doneShare_3 rfl (by decide) (by intro w h; first | (cases h; rfl) | (cases h; assumption) | (cases h; done)) ?_
  refine a_iconst cx (v := 0) dX4_doneShare_4 (by decide) ?_
  refine a_istore_n3 cx dX4_doneShare_5 rfl (by decide) (by intro w h; first | (cases h; rfl) | (cases h; assumption) | (cases h; done)) ?_
  refine a_loop (σ := Nat × Int32 × Int32) (fun f s => s.1 + f = mNp C ∧ sumf (fun p => C 76 p) f s.1 s.2.2 = mGood C ∧ sumf (fun p => C 76 p + C 77 p + C 78 p) f s.1 s.2.1 = mAllD C) (fun _ => ad) (fun _ => τ) (fun s => [some (.ref (ad 60)), some (.int s.2.1), some (.int s.2.2), some (.int (nI s.1))]) (mNp C) (0, 0, 0) ⟨Nat.zero_add _, rfl, rfl⟩ rfl rfl rfl ?_
  rintro f ⟨i, y, x⟩ ⟨hi, hx, hy⟩ ih
  dsimp only at hi hx hy ⊢
  refine a_iload_n cx dX4_doneShare_6 rfl rfl ?_
  refine a_aload_n cx dX4_doneShare_7 rfl rfl ?_
  refine gf_X4_92 cx hM dX4_doneShare_8 ?_
  refine a_icmp_ge cx (tgt := 52) dX4_doneShare_11 (by decide) (fun c_11 => ?_) (fun c_11 => ?_)
  · have hz : f = 0 := (by rw [hI.2.2.1] at c_11; have := le_nI c_11 (by have := hI.2.2.2.1; omega) (by have := hI.2.2.2.1; omega); omega); subst hz
    replace hx : x = mGood C := hx
    replace hy : y = mAllD C := hy
    subst hx
    subst hy
    refine a_aload_n cx dX4_doneShare_52 rfl rfl ?_
    refine a_iload_n cx dX4_doneShare_53 rfl rfl ?_
    refine a_if_ne cx (tgt := 61) dX4_doneShare_54 (by decide) (fun c_54 => ?_) (fun c_54 => ?_)
    · refine a_iconst cx (v := 0) dX4_doneShare_61 (by decide) ?_
      refine pf_X4_81 cx hM dX4_doneShare_62 ?_
      refine a_HH (hH.put (r := 60) (0) _ (by decide) (hL 60 (by decide) (by decide)) rfl) (fun τ hH => ?_)
      have hR := M_row hH hL
      have hM := M_obj hH hL
      refine a_iload_n cx dX4_doneShare_65 rfl rfl ?_
      refine a_if_ne cx (tgt := 73) dX4_doneShare_66 (by decide) (fun c_66 => ?_) (fun c_66 => absurd c_66 c_54)
      refine a_iload_n cx dX4_doneShare_73 rfl rfl ?_
      refine a_i2f cx dX4_doneShare_74 ?_
      refine a_iload_n cx dX4_doneShare_75 rfl rfl ?_
      refine a_i2f cx dX4_doneShare_76 ?_
      refine a_fdiv cx dX4_doneShare_77 (hn c_54) ?_
      exact a_fret cx hr dX4_doneShare_78 (Nat.le_of_ble_eq_true rfl) (Nat.le_of_ble_eq_true rfl) ⟨⟨_, rfl, fun _ => rfl⟩, rfl, m_ok (show jShare C = 0 from (by unfold jShare; rw [if_neg c_54])) hH⟩
    · refine a_iconst cx (v := 1) dX4_doneShare_57 (by decide) ?_
      refine a_goto cx (tgt := 62) dX4_doneShare_58 (by decide) ?_
      refine pf_X4_81 cx hM dX4_doneShare_62 ?_
      refine a_HH (hH.put (r := 60) (0) _ (by decide) (hL 60 (by decide) (by decide)) rfl) (fun τ hH => ?_)
      have hR := M_row hH hL
      have hM := M_obj hH hL
      refine a_iload_n cx dX4_doneShare_65 rfl rfl ?_
      refine a_if_ne cx (tgt := 73) dX4_doneShare_66 (by decide) (fun c_66 => absurd c_54 c_66) (fun c_66 => ?_)
      refine a_fconst0 cx dX4_doneShare_69 ?_
      refine a_goto cx (tgt := 78) dX4_doneShare_70 (by decide) ?_
      exact a_fret cx hr dX4_doneShare_78 (Nat.le_of_ble_eq_true rfl) (Nat.le_of_ble_eq_true rfl) ⟨⟨_, rfl, fun q => absurd (((show jShare C = 1 from (by unfold jShare; rw [if_pos c_54]))).symm.trans q) (by decide)⟩, rfl, m_no (show jShare C = 1 from (by unfold jShare; rw [if_pos c_54])) (by decide) hH⟩
  · have hin : i < mNp C := by
      rcases Nat.lt_or_ge i (mNp C) with h9 | h9
      · exact h9
      · exact absurd (by rw [hI.2.2.1]; exact nI_le h9 (by have := hI.2.2.2.1; omega)) c_11
    have hi8 : i < 8 := by have := hI.2.2.2.1; omega
    obtain ⟨f, rfl⟩ : ∃ f9, f = f9 + 1 := ⟨f - 1, by omega⟩
    refine a_iload_n cx dX4_doneShare_14 rfl rfl ?_
    refine a_aload_n cx dX4_doneShare_15 rfl rfl ?_
    refine gf_X4_56 cx hM dX4_doneShare_16 ?_
    refine a_iload_n cx dX4_doneShare_19 rfl rfl ?_
    refine a_ild cx (i) (by exact hR _ (by decide) (by decide)) (rfl) (hi8) (by decide) dX4_doneShare_20 ?_
    refine a_aload_n cx dX4_doneShare_21 rfl rfl ?_
    refine gf_X4_59 cx hM dX4_doneShare_22 ?_
    refine a_iload_n cx dX4_doneShare_25 rfl rfl ?_
    refine a_ild cx (i) (by exact hR _ (by decide) (by decide)) (rfl) (hi8) (by decide) dX4_doneShare_26 ?_
    refine a_iadd cx dX4_doneShare_27 ?_
    refine a_aload_n cx dX4_doneShare_28 rfl rfl ?_
    refine gf_X4_62 cx hM dX4_doneShare_29 ?_
    refine a_iload_n cx dX4_doneShare_32 rfl rfl ?_
    refine a_ild cx (i) (by exact hR _ (by decide) (by decide)) (rfl) (hi8) (by decide) dX4_doneShare_33 ?_
    refine a_iadd cx dX4_doneShare_34 ?_
    refine a_iadd cx dX4_doneShare_35 ?_
    refine a_istore_n1 cx dX4_doneShare_36 rfl (by decide) (by intro w h; first | (cases h; rfl) | (cases h; assumption) | (cases h; done)) ?_
    refine a_iload_n cx dX4_doneShare_37 rfl rfl ?_
    refine a_aload_n cx dX4_doneShare_38 rfl rfl ?_
    refine gf_X4_56 cx hM dX4_doneShare_39 ?_
    refine a_iload_n cx dX4_doneShare_42 rfl rfl ?_
    refine a_ild cx (i) (by exact hR _ (by decide) (by decide)) (rfl) (hi8) (by decide) dX4_doneShare_43 ?_
    refine a_iadd cx dX4_doneShare_44 ?_
    refine a_istore_n2 cx dX4_doneShare_45 rfl (by decide) (by intro w h; first | (cases h; rfl) | (cases h; assumption) | (cases h; done)) ?_
    refine a_iinc3 cx (nI (i + 1)) dX4_doneShare_46 (nI_1 i) (by decide) (by intro w h; first | (cases h; rfl) | (cases h; assumption) | (cases h; done)) ?_
    refine a_goto cx (tgt := 6) dX4_doneShare_49 (by decide) ?_
    exact ih f (i + 1, y + (C 76 i + C 77 i + C 78 i), x + C 76 i) (Nat.lt_succ_self f) ⟨by omega, hx, hy⟩

def mSc (C : ME) (b k : Nat) : Int32 := C 72 (tn (mQ C b k))
def msO (C : ME) : Nat → Nat → Int32 × Int32 → Int32 × Int32
  | 0, _, q => q
  | f + 1, b, q => msO C f (b + 1) (sumf (mSc C b) (mNq C b) 0 q.1, q.2 + C 66 b)
def mMs (C : ME) : Int32 × Int32 := msO C (mNb C) 0 (0, 0)
def jMean (C : ME) : Int32 := if (mMs C).2 = 0 then 1 else 0
def mMean (C : ME) : UInt64 := FP.ddiv (FP.i2d (mMs C).1) (FP.i2d (mMs C).2)
set_option maxHeartbeats 4000000 in
set_option maxRecDepth 100000 in
/-- model: meanScore -/
theorem sp_X4_meanScore {l : Launch} {g : GW} {ad : AD} {τ : RH} {Lv : Nat → Bool} {C : ME} {ρ : RH}  (hH : HH g ad Lv C ρ τ) (hL : mL Lv) (hI : mI C) (hn : ¬ (mMs C).2 = 0 → vf_n64 (mMean C)) : Sp l g yX4_meanScore (.code yX4_meanScore cX4_meanScore 5 (some .double)) (rmv 4 0 0) [.ref (ad 60)] ad τ 0 0 (fun v ad' τ' => (∃ w, v = some (.double w) ∧ (jMean C = 0 → w = mMean C)) ∧ ad' = ad ∧ HH g ad Lv (up2 (if jMean C = 0 then C else C) 60 0 (jMean C)) ρ τ') (NoX) := by
  refine Sp.of 4 [some (.ref (ad 60)), none, none, none, none] (by decide +kernel) (Nat.le_of_ble_eq_true rfl) rfl ?_
  intro p e s m args below meth c A cx hout hr hnm
  have hM := M_obj hH hL
  have hR := M_row hH hL
  refine a_iconst cx (v := 0) dX4_meanScore_0 (by decide) ?_
  refine a_istore_n1 cx dX4_meanScore_1 rfl (by decide) (by intro w h; first | (cases h; rfl) | (cases h; assumption) | (cases h; done)) ?_
  refine a_iconst cx (v := 0) dX4_meanScore_2 (by decide) ?_
  refine a_istore_n2 cx dX4_meanScore_3 rfl (by decide) (by intro w h; first | (cases h; rfl) | (cases h; assumption) | (cases h; done)) ?_
  refine a_iconst cx (v := 0) dX4_meanScore_4 (by decide) ?_
  refine a_istore_n3 cx dX4_meanScore_5 rfl (by decide) (by intro w h; first | (cases h; rfl) | (cases h; assumption) | (cases h; done)) ?_
  refine a_loop (σ := Nat × Int32 × Int32 × Option Value) (fun f s => s.1 + f = mNb C ∧ msO C f s.1 (s.2.1, s.2.2.1) = mMs C) (fun _ => ad) (fun _ => τ) (fun s => [some (.ref (ad 60)), some (.int s.2.1), some (.int s.2.2.1), some (.int (nI s.1)), s.2.2.2]) (mNb C) (0, 0, 0, none) ⟨Nat.zero_add _, rfl⟩ rfl rfl rfl ?_
  rintro f ⟨b, x, y, z⟩ ⟨hi, hx⟩ ih
  dsimp only at hi hx ⊢
  refine a_iload_n cx dX4_meanScore_6 rfl rfl ?_
  refine a_aload_n cx dX4_meanScore_7 rfl rfl ?_
  refine gf_X4_85 cx hM dX4_meanScore_8 ?_
  refine a_icmp_ge cx (tgt := 69) dX4_meanScore_11 (by decide) (fun c_11 => ?_) (fun c_11 => ?_)
  · have hz : f = 0 := (by rw [hI.1] at c_11; have := le_nI c_11 (by have := hI.2.1; omega) (by have := hI.2.1; omega); omega)
    subst hz
    replace hx : (x, y) = mMs C := hx
    refine a_aload_n cx dX4_meanScore_69 rfl rfl ?_
    refine a_iload_n cx dX4_meanScore_70 rfl rfl ?_
    refine a_if_ne cx (tgt := 78) dX4_meanScore_71 (by decide) (fun c_71 => ?_) (fun c_71 => ?_)
    · refine a_iconst cx (v := 0) dX4_meanScore_78 (by decide) ?_
      refine pf_X4_81 cx hM dX4_meanScore_79 ?_
      refine a_HH (hH.put (r := 60) (0) _ (by decide) (hL 60 (by decide) (by decide)) rfl) (fun τ hH => ?_)
      have hR := M_row hH hL
      have hM := M_obj hH hL
      refine a_iload_n cx dX4_meanScore_82 rfl rfl ?_
      refine a_if_ne cx (tgt := 90) dX4_meanScore_83 (by decide) (fun c_83 => ?_) (fun c_83 => absurd c_83 c_71)
      refine a_iload_n cx dX4_meanScore_90 rfl rfl ?_
      refine a_i2d cx dX4_meanScore_91 ?_
      refine a_iload_n cx dX4_meanScore_92 rfl rfl ?_
      refine a_i2d cx dX4_meanScore_93 ?_
      refine a_ddiv cx dX4_meanScore_94 (by have h9 := hn; unfold mMean at h9; rw [← hx] at h9; exact h9 c_71) ?_
      exact a_dret cx hr dX4_meanScore_95 (Nat.le_of_ble_eq_true rfl) (Nat.le_of_ble_eq_true rfl) ⟨⟨_, rfl, fun _ => (by unfold mMean; rw [← hx])⟩, rfl, m_ok (show jMean C = 0 from (by unfold jMean; rw [← hx, if_neg c_71])) hH⟩
    · refine a_iconst cx (v := 1) dX4_meanScore_74 (by decide) ?_
      refine a_goto cx (tgt := 79) dX4_meanScore_75 (by decide) ?_
      refine pf_X4_81 cx hM dX4_meanScore_79 ?_
      refine a_HH (hH.put (r := 60) (0) _ (by decide) (hL 60 (by decide) (by decide)) rfl) (fun τ hH => ?_)
      have hR := M_row hH hL
      have hM := M_obj hH hL
      refine a_iload_n cx dX4_meanScore_82 rfl rfl ?_
      refine a_if_ne cx (tgt := 90) dX4_meanScore_83 (by decide) (fun c_83 => absurd c_71 c_83) (fun c_83 => ?_)
      refine a_dconst0 cx dX4_meanScore_86 ?_
      refine a_goto cx (tgt := 95) dX4_meanScore_87 (by decide) ?_
      exact a_dret cx hr dX4_meanScore_95 (Nat.le_of_ble_eq_true rfl) (Nat.le_of_ble_eq_true rfl) ⟨⟨_, rfl, fun q => absurd (((show jMean C = 1 from (by unfold jMean; rw [← hx, if_pos c_71]))).symm.trans q) (by decide)⟩, rfl, m_no (show jMean C = 1 from (by unfold jMean; rw [← hx, if_pos c_71])) (by decide) hH⟩
  · have hin : b < mNb C := by
      rcases Nat.lt_or_ge b (mNb C) with h9 | h9
      · exact h9
      · exact absurd (by rw [hI.1]; exact nI_le h9 (by have := hI.2.1; omega)) c_11
    have hb : b < 2 := by have := hI.2.1; omega
    obtain ⟨f, rfl⟩ : ∃ f9, f = f9 + 1 := ⟨f - 1, by omega⟩
    have hnq := hI.2.2.2.2.1 b hb
    refine a_iconst cx (v := 0) dX4_meanScore_14 (by decide) ?_
    refine a_istore4 cx dX4_meanScore_15 (by decide) (by intro w h; first | (cases h; rfl) | (cases h; assumption) | (cases h; done)) ?_
    refine a_loop (σ := Nat × Int32) (fun f s => s.1 + f = mNq C b ∧ sumf (mSc C b) f s.1 s.2 = sumf (mSc C b) (mNq C b) 0 x) (fun _ => ad) (fun _ => τ) (fun s => [some (.ref (ad 60)), some (.int s.2), some (.int y), some (.int (nI b)), some (.int (nI s.1))]) (mNq C b) (0, x) ⟨Nat.zero_add _, rfl⟩ rfl rfl rfl ?_
    rintro f2 ⟨k, x2⟩ ⟨hk, hx2⟩ ih2
    dsimp only at hk hx2 ⊢
    refine a_iload cx dX4_meanScore_17 rfl ?_
    refine a_aload_n cx dX4_meanScore_19 rfl rfl ?_
    refine gf_X4_25 cx hM dX4_meanScore_20 ?_
    refine a_iload_n cx dX4_meanScore_23 rfl rfl ?_
    refine a_ild cx (b) (by exact hR _ (by decide) (by decide)) (rfl) (hb) (by decide) dX4_meanScore_24 ?_
    refine a_icmp_ge cx (tgt := 54) dX4_meanScore_25 (by decide) (fun c_25 => ?_) (fun c_25 => ?_)
    · rw [hnq.1] at c_25
      have h9 := le_nI c_25 (by omega) (by omega)
      have hz : f2 = 0 := (by omega)
      subst hz
      replace hx2 : x2 = sumf (mSc C b) (mNq C b) 0 x := hx2
      refine a_iload_n cx dX4_meanScore_54 rfl rfl ?_
      refine a_aload_n cx dX4_meanScore_55 rfl rfl ?_
      refine gf_X4_25 cx hM dX4_meanScore_56 ?_
      refine a_iload_n cx dX4_meanScore_59 rfl rfl ?_
      refine a_ild cx (b) (by exact hR _ (by decide) (by decide)) (rfl) (hb) (by decide) dX4_meanScore_60 ?_
      refine a_iadd cx dX4_meanScore_61 ?_
      refine a_istore_n2 cx dX4_meanScore_62 rfl (by decide) (by intro w h; first | (cases h; rfl) | (cases h; assumption) | (cases h; done)) ?_
      refine a_iinc3 cx (nI (b + 1)) dX4_meanScore_63 (nI_1 b) (by decide) (by intro w h; first | (cases h; rfl) | (cases h; assumption) | (cases h; done)) ?_
      refine a_goto cx (tgt := 6) dX4_meanScore_66 (by decide) ?_
      exact ih f (b + 1, x2, y + C 66 b, _) (Nat.lt_succ_self f) ⟨by omega, by rw [hx2]; exact hx⟩
    · have hkn : k < mNq C b := by
        rcases Nat.lt_or_ge k (mNq C b) with h9 | h9
        · exact h9
        · exact absurd (by rw [hnq.1]; exact nI_le h9 (by omega)) c_25
      obtain ⟨f2, rfl⟩ : ∃ f9, f2 = f9 + 1 := ⟨f2 - 1, by omega⟩
      refine a_iload_n cx dX4_meanScore_28 rfl rfl ?_
      refine a_aload_n cx dX4_meanScore_29 rfl rfl ?_
      refine gf_X4_44 cx hM dX4_meanScore_30 ?_
      refine a_aload_n cx dX4_meanScore_33 rfl rfl ?_
      refine gf_X4_28 cx hM dX4_meanScore_34 ?_
      refine a_bipush cx (v := 8) dX4_meanScore_37 (by decide) ?_
      refine a_iload_n cx dX4_meanScore_39 rfl rfl ?_
      refine a_imul cx dX4_meanScore_40 ?_
      refine a_iload cx dX4_meanScore_41 rfl ?_
      refine a_iadd cx dX4_meanScore_43 ?_
      refine a_ild cx (8 * b + k) (by exact hR _ (by decide) (by decide)) (q8 hb (by omega)) ((show 8 * b + k < 16 by omega)) (by decide) dX4_meanScore_44 ?_
      refine a_ild cx (tn (mQ C b k)) (by exact hR _ (by decide) (by decide)) ((mQ_ix hI hb hkn).1) ((by have := (mQ_ix hI hb hkn).2; have := hI.2.2.2.1; omega)) (by decide) dX4_meanScore_45 ?_
      refine a_iadd cx dX4_meanScore_46 ?_
      refine a_istore_n1 cx dX4_meanScore_47 rfl (by decide) (by intro w h; first | (cases h; rfl) | (cases h; assumption) | (cases h; done)) ?_
      refine a_iinc4 cx (nI (k + 1)) dX4_meanScore_48 (nI_1 k) (by decide) (by intro w h; first | (cases h; rfl) | (cases h; assumption) | (cases h; done)) ?_
      refine a_goto cx (tgt := 17) dX4_meanScore_51 (by decide) ?_
      exact ih2 f2 (k + 1, x2 + mSc C b k) (Nat.lt_succ_self f2) ⟨by omega, hx2⟩

def nxF (C : ME) (b : Nat) (p : Int32) : Nat → Nat → Int32 → Int32
  | 0, _, x => x
  | f + 1, k, x => if mQ C b k = p then x else nxF C b p f (k + 1) (x + mLf C b k)
def mNext (C : ME) (p : Int32) : Int32 := nxF C (tn (C 70 (tn p))) p 8 0 (C 60 3)
def jNext (C : ME) (p9 : Int32) : Int32 := if okm (mNp C) p9 then (if ¬ C 75 (tn p9) = 0 then (0) else 2) else 1
set_option maxHeartbeats 4000000 in
set_option maxRecDepth 100000 in
/-- model: nextAt -/
theorem sp_X4_nextAt {l : Launch} {g : GW} {ad : AD} {τ : RH} {Lv : Nat → Bool} {C : ME} {ρ : RH} {p9 : Int32} (hH : HH g ad Lv C ρ τ) (hL : mL Lv) (hI : mI C) (hq : okm (mNp C) p9 → ¬ C 75 (tn p9) = 0 → ∃ k, k < mNq C (tn (C 70 (tn p9))) ∧ mQ C (tn (C 70 (tn p9))) k = p9) : Sp l g yX4_nextAt (.code yX4_nextAt cX4_nextAt 4 (some .int)) (rmv 4 0 0) [.ref (ad 60), .int p9] ad τ 0 0 (fun v ad' τ' => (∃ w, v = some (.int w) ∧ (jNext C p9 = 0 → w = mNext C p9)) ∧ ad' = ad ∧ HH g ad Lv (up2 (if jNext C p9 = 0 then C else C) 60 0 (jNext C p9)) ρ τ') (NoX) := by
  refine Sp.of 2 [some (.ref (ad 60)), some (.int p9), none, none] (by decide +kernel) (Nat.le_of_ble_eq_true rfl) rfl ?_
  intro p e s m args below meth c A cx hout hr hnm
  have hM := M_obj hH hL
  have hR := M_row hH hL
  refine a_aload_n cx dX4_nextAt_0 rfl rfl ?_
  refine a_iload_n cx dX4_nextAt_1 rfl rfl ?_
  refine a_callV cx 1 (sp_X4_isProposal (b := p9) hH hL hI) hM rfl ml_X4_116 im_X4_isProposal se_X4_isProposal ini_X4 cd_X4_isProposal rfl rfl (by decide +kernel) rfl rfl ⟨(Nat.le_of_ble_eq_true rfl), (Nat.le_of_ble_eq_true rfl)⟩ (Nat.le_of_ble_eq_true rfl) dX4_nextAt_2 ⟨(Nat.le_of_ble_eq_true rfl), (Nat.le_of_ble_eq_true rfl)⟩ (fun _ _ _ h => h.elim) (fun v9 ad9 τ9 hP => ?_)
  obtain ⟨⟨w2, rfl, hw2⟩, h2, h3⟩ := hP
  replace h2 := h2.symm
  subst h2
  replace h3 := h3.symm
  subst h3
  replace hw2 := w_if hw2
  refine a_if_ne cx (tgt := 14) dX4_nextAt_5 (by decide) (fun c_5 => ?_) (fun c_5 => ?_)
  · refine a_aload_n cx dX4_nextAt_14 rfl rfl ?_
    refine gf_X4_53 cx hM dX4_nextAt_15 ?_
    refine a_iload_n cx dX4_nextAt_18 rfl rfl ?_
    refine a_ild cx (tn p9) (by exact hR _ (by decide) (by decide)) ((okm_ix (hw2.2 c_5) (by have := hI.2.2.2.1; omega)).1) ((by have h9 := (okm_ix (hw2.2 c_5) (by have := hI.2.2.2.1; omega)).2; have := hI.2.2.2.1; omega)) (by decide) dX4_nextAt_19 ?_
    refine a_if_ne cx (tgt := 29) dX4_nextAt_20 (by decide) (fun c_20 => ?_) (fun c_20 => ?_)
    · obtain ⟨kk, hk1, hk2⟩ := hq (hw2.2 c_5) c_20
      obtain ⟨ln, hl1, hl2⟩ := (hI.2.2.2.2.2 _ (okm_ix (hw2.2 c_5) (by have := hI.2.2.2.1; omega)).2).1
      have hl3 : tn (C 70 (tn p9)) = ln := by rw [hl2, tn_nI (by have := hI.2.1; omega)]
      rw [hl3] at hk1 hk2
      obtain ⟨b, hln⟩ : ∃ b, b = ln := ⟨ln, rfl⟩
      subst hln
      have hln := hl3
      have hln2 := hl2
      have hb : b < 2 := by have := hI.2.1; omega
      refine a_aload_n cx dX4_nextAt_29 rfl rfl ?_
      refine gf_X4_134 cx hM dX4_nextAt_30 ?_
      refine a_istore_n2 cx dX4_nextAt_33 rfl (by decide) (by intro w h; first | (cases h; rfl) | (cases h; assumption) | (cases h; done)) ?_
      refine a_iconst cx (v := 0) dX4_nextAt_34 (by decide) ?_
      refine a_istore_n3 cx dX4_nextAt_35 rfl (by decide) (by intro w h; first | (cases h; rfl) | (cases h; assumption) | (cases h; done)) ?_
      refine a_loop (σ := Nat × Int32) (fun f s => s.1 + f = 8 ∧ s.1 ≤ kk ∧ nxF C b p9 f s.1 s.2 = mNext C p9) (fun _ => ad) (fun _ => τ) (fun s => [some (.ref (ad 60)), some (.int p9), some (.int s.2), some (.int (nI s.1))]) 8 (0, C 60 3) ⟨rfl, Nat.zero_le _, by unfold mNext; rw [hln]⟩ rfl rfl rfl ?_
      rintro f ⟨k, x⟩ ⟨hk, hkk, hx⟩ ih
      dsimp only at hk hkk hx ⊢
      have hkn : k < mNq C b := Nat.lt_of_le_of_lt hkk hk1
      have hnq := hI.2.2.2.2.1 b hb
      obtain ⟨f, rfl⟩ : ∃ f9, f = f9 + 1 := ⟨f - 1, by omega⟩
      unfold nxF at hx
      refine a_aload_n cx dX4_nextAt_36 rfl rfl ?_
      refine gf_X4_28 cx hM dX4_nextAt_37 ?_
      refine a_bipush cx (v := 8) dX4_nextAt_40 (by decide) ?_
      refine a_aload_n cx dX4_nextAt_42 rfl rfl ?_
      refine gf_X4_38 cx hM dX4_nextAt_43 ?_
      refine a_iload_n cx dX4_nextAt_46 rfl rfl ?_
      refine a_ild cx (tn p9) (by exact hR _ (by decide) (by decide)) ((okm_ix (hw2.2 c_5) (by have := hI.2.2.2.1; omega)).1) ((by have h9 := (okm_ix (hw2.2 c_5) (by have := hI.2.2.2.1; omega)).2; have := hI.2.2.2.1; omega)) (by decide) dX4_nextAt_47 ?_
      refine a_imul cx dX4_nextAt_48 ?_
      refine a_iload_n cx dX4_nextAt_49 rfl rfl ?_
      refine a_iadd cx dX4_nextAt_50 ?_
      refine a_ild cx (8 * b + k) (by exact hR _ (by decide) (by decide)) ((by rw [hln2]; exact q8 hb (by omega))) ((show 8 * b + k < 16 by omega)) (by decide) dX4_nextAt_51 ?_
      refine a_iload_n cx dX4_nextAt_52 rfl rfl ?_
      refine a_icmp_eq cx (tgt := 86) dX4_nextAt_53 (by decide) (fun c_53 => ?_) (fun c_53 => ?_)
      · refine a_aload_n cx dX4_nextAt_86 rfl rfl ?_
        refine a_iload_n cx dX4_nextAt_87 rfl rfl ?_
        refine a_callV cx 1 (sp_X4_tells hH hL) hM rfl ml_X4_99 im_X4_tells se_X4_tells ini_X4 cd_X4_tells rfl rfl (by decide +kernel) rfl rfl ⟨(Nat.le_of_ble_eq_true rfl), (Nat.le_of_ble_eq_true rfl)⟩ (Nat.le_of_ble_eq_true rfl) dX4_nextAt_88 ⟨(Nat.le_of_ble_eq_true rfl), (Nat.le_of_ble_eq_true rfl)⟩ (fun _ _ _ h => h.elim) (fun v9 ad9 τ9 hP => ?_)
        obtain ⟨rfl, h2, hH⟩ := hP
        replace h2 := h2.symm
        subst h2
        exact a_iret cx hr dX4_nextAt_91 (Nat.le_of_ble_eq_true rfl) (Nat.le_of_ble_eq_true rfl) ⟨⟨_, rfl, fun _ => (by rw [if_pos (show mQ C b k = p9 from c_53)] at hx; exact hx)⟩, rfl, m_ok (show jNext C p9 = 0 from (by unfold jNext; rw [if_pos (hw2.2 c_5), if_pos (c_20)])) hH⟩
      · refine a_iload_n cx dX4_nextAt_56 rfl rfl ?_
        refine a_aload_n cx dX4_nextAt_57 rfl rfl ?_
        refine gf_X4_53 cx hM dX4_nextAt_58 ?_
        refine a_aload_n cx dX4_nextAt_61 rfl rfl ?_
        refine gf_X4_28 cx hM dX4_nextAt_62 ?_
        refine a_bipush cx (v := 8) dX4_nextAt_65 (by decide) ?_
        refine a_aload_n cx dX4_nextAt_67 rfl rfl ?_
        refine gf_X4_38 cx hM dX4_nextAt_68 ?_
        refine a_iload_n cx dX4_nextAt_71 rfl rfl ?_
        refine a_ild cx (tn p9) (by exact hR _ (by decide) (by decide)) ((okm_ix (hw2.2 c_5) (by have := hI.2.2.2.1; omega)).1) ((by have h9 := (okm_ix (hw2.2 c_5) (by have := hI.2.2.2.1; omega)).2; have := hI.2.2.2.1; omega)) (by decide) dX4_nextAt_72 ?_
        refine a_imul cx dX4_nextAt_73 ?_
        refine a_iload_n cx dX4_nextAt_74 rfl rfl ?_
        refine a_iadd cx dX4_nextAt_75 ?_
        refine a_ild cx (8 * b + k) (by exact hR _ (by decide) (by decide)) ((by rw [hln2]; exact q8 hb (by omega))) ((show 8 * b + k < 16 by omega)) (by decide) dX4_nextAt_76 ?_
        refine a_ild cx (tn (mQ C b k)) (by exact hR _ (by decide) (by decide)) ((mQ_ix hI hb hkn).1) ((by have := (mQ_ix hI hb hkn).2; have := hI.2.2.2.1; omega)) (by decide) dX4_nextAt_77 ?_
        refine a_iadd cx dX4_nextAt_78 ?_
        refine a_istore_n2 cx dX4_nextAt_79 rfl (by decide) (by intro w h; first | (cases h; rfl) | (cases h; assumption) | (cases h; done)) ?_
        refine a_iinc3 cx (nI (k + 1)) dX4_nextAt_80 (nI_1 k) (by decide) (by intro w h; first | (cases h; rfl) | (cases h; assumption) | (cases h; done)) ?_
        refine a_goto cx (tgt := 36) dX4_nextAt_83 (by decide) ?_
        rw [if_neg (show ¬ mQ C b k = p9 from c_53)] at hx
        have hne : k ≠ kk := fun q => c_53 (by rw [q]; exact hk2)
        exact ih f (k + 1, x + mLf C b k) (Nat.lt_succ_self f) ⟨by omega, by omega, hx⟩
    · refine a_aload_n cx dX4_nextAt_23 rfl rfl ?_
      refine a_iconst cx (v := 2) dX4_nextAt_24 (by decide) ?_
      refine a_callV cx 1 (sp_X4_fails (k := 2) hH hL) hM rfl ml_X4_95 im_X4_fails se_X4_fails ini_X4 cd_X4_fails rfl rfl (by decide +kernel) rfl rfl ⟨(Nat.le_of_ble_eq_true rfl), (Nat.le_of_ble_eq_true rfl)⟩ (Nat.le_of_ble_eq_true rfl) dX4_nextAt_25 ⟨(Nat.le_of_ble_eq_true rfl), (Nat.le_of_ble_eq_true rfl)⟩ (fun _ _ _ h => h.elim) (fun v9 ad9 τ9 hP => ?_)
      obtain ⟨rfl, h2, hH⟩ := hP
      replace h2 := h2.symm
      subst h2
      exact a_iret cx hr dX4_nextAt_28 (Nat.le_of_ble_eq_true rfl) (Nat.le_of_ble_eq_true rfl) ⟨⟨_, rfl, fun q => absurd (((show jNext C p9 = 2 from (by unfold jNext; rw [if_pos (hw2.2 c_5), if_neg (fun h => h c_20)]))).symm.trans q) (by decide)⟩, rfl, m_no (show jNext C p9 = 2 from (by unfold jNext; rw [if_pos (hw2.2 c_5), if_neg (fun h => h c_20)])) (by decide) hH⟩
  · refine a_aload_n cx dX4_nextAt_8 rfl rfl ?_
    refine a_iconst cx (v := 1) dX4_nextAt_9 (by decide) ?_
    refine a_callV cx 1 (sp_X4_fails (k := 1) hH hL) hM rfl ml_X4_95 im_X4_fails se_X4_fails ini_X4 cd_X4_fails rfl rfl (by decide +kernel) rfl rfl ⟨(Nat.le_of_ble_eq_true rfl), (Nat.le_of_ble_eq_true rfl)⟩ (Nat.le_of_ble_eq_true rfl) dX4_nextAt_10 ⟨(Nat.le_of_ble_eq_true rfl), (Nat.le_of_ble_eq_true rfl)⟩ (fun _ _ _ h => h.elim) (fun v9 ad9 τ9 hP => ?_)
    obtain ⟨rfl, h2, hH⟩ := hP
    replace h2 := h2.symm
    subst h2
    exact a_iret cx hr dX4_nextAt_13 (Nat.le_of_ble_eq_true rfl) (Nat.le_of_ble_eq_true rfl) ⟨⟨_, rfl, fun q => absurd (((show jNext C p9 = 1 from (by unfold jNext; rw [if_neg (hw2.1 c_5)]))).symm.trans q) (by decide)⟩, rfl, m_no (show jNext C p9 = 1 from (by unfold jNext; rw [if_neg (hw2.1 c_5)])) (by decide) hH⟩

