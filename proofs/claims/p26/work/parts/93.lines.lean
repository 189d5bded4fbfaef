section LNS
variable {g : GW} {ad : AD} {τ : RH} {Lv : Nat → Bool} {C B W : ME} {n T i b j : Nat}
theorem why_116 (h : mWhyJ B b j = 116) : B 82 (tn (B 71 j)) = 0 := by
  unfold mWhyJ at h
  by_cases c1 : ¬ B 69 b = 0
  · rw [if_pos c1] at h; exact absurd h (by decide)
  rw [if_neg c1] at h
  by_cases c2 : B 82 (tn (B 71 j)) = 0
  · exact c2
  rw [if_neg c2] at h
  revert h
  repeat' split
  all_goals (intro h; exact absurd h (by decide))
theorem why_112 (h : mWhyJ B b j = 112) : ¬ B 82 (tn (B 71 j)) = 0 ∧ B 83 (tn (B 71 j)) = 0 := by
  unfold mWhyJ at h
  by_cases c1 : ¬ B 69 b = 0
  · rw [if_pos c1] at h; exact absurd h (by decide)
  rw [if_neg c1] at h
  by_cases c2 : B 82 (tn (B 71 j)) = 0
  · rw [if_pos c2] at h; exact absurd h (by decide)
  rw [if_neg c2] at h
  by_cases c3 : B 83 (tn (B 71 j)) = 0
  · exact ⟨c2, c3⟩
  rw [if_neg c3] at h
  revert h
  repeat' split
  all_goals (intro h; exact absurd h (by decide))
theorem why_ok (h : mWhyJ B b j = 45 ∨ mWhyJ B b j = 100) : ¬ B 82 (tn (B 71 j)) = 0 ∧ ¬ B 83 (tn (B 71 j)) = 0 ∧ B 81 j = 98 ∧ ¬ B 80 j = 0 := by
  unfold mWhyJ at h
  by_cases c1 : ¬ B 69 b = 0
  · rw [if_pos c1] at h; exact absurd h (by decide)
  rw [if_neg c1] at h
  by_cases c2 : B 82 (tn (B 71 j)) = 0
  · rw [if_pos c2] at h; exact absurd h (by decide)
  rw [if_neg c2] at h
  by_cases c3 : B 83 (tn (B 71 j)) = 0
  · rw [if_pos c3] at h; exact absurd h (by decide)
  rw [if_neg c3] at h
  by_cases c4 : B 81 j = 98 ∧ ¬ B 80 j = 0
  · exact ⟨c2, c3, c4⟩
  · rw [if_pos c4] at h; exact absurd h (by decide)
theorem lwS.user (h : lwS n T W Lv C B) (hj : j < n) : ∃ u, u < 4 ∧ W 87 j = nI u ∧ tn (B 71 j) = u ∧ B 82 u = W 88 u ∧ B 83 u = W 89 u := by
  obtain ⟨-, ⟨u, u1, u2, u3⟩, -⟩ := h.2.2.1 j hj
  exact ⟨u, u1, u2, by rw [u3, tn_nI (by omega)], h.2.2.2.1 u (by omega)⟩
theorem life_ge (h : lwS n T W Lv C B) (hj : j < n) (h81 : B 81 j = 98) (h80 : ¬ B 80 j = 0) : 1 ≤ rr (kLife C (nI j)) (C (40 + tn (nI j)) 7) := by
  rw [v_life h hj, if_neg (by rw [h81]; decide)]
  rcases h.2.2.2.2.1 j hj with ⟨-, z⟩ | ⟨-, -, l, z3, z4⟩
  · rw [h81] at z; exact absurd z (by decide)
  · rw [z4] at h80 ⊢
    have : l ≠ 0 := fun q => h80 (by rw [q]; rfl)
    exact (show (1 : Int32) = nI 1 from rfl) ▸ nI_le (by omega) (by omega)
end LNS
set_option maxHeartbeats 4000000 in
set_option maxRecDepth 100000 in
/-- lines -/
theorem sp_L_lines {l : Launch} {g : GW} {ad : AD} {τ : RH} {Lv : Nat → Bool} {C B W : ME} {n T : Nat} (hH : HH g ad Lv C (laR g n W) τ) (hS : lwS n T W Lv C B) (hT : T ≤ 200) : Sp l g yL_lines (.code yL_lines cL_lines 10 (some .boolean)) (rmv 10 600 6000) [.ref (ad 0), .ref (ad 85), .int (nI n), .ref (ad 87), .ref (ad 88), .ref (ad 89)] ad τ 600 6000 (fun v ad' τ' => v = some (.int 1) ∧ ad' = ad ∧ τ' = τ) (NoX) := by
  refine Sp.of 4 [some (.ref (ad 0)), some (.ref (ad 85)), some (.int (nI n)), some (.ref (ad 87)), some (.ref (ad 88)), some (.ref (ad 89)), none, none, none, none] (by decide +kernel) (Nat.le_of_ble_eq_true rfl) rfl ?_
  intro p e s m args below meth c A cx hout hr hnm
  have hI := hS.I
  have h8 := hS.n8
  have hO := (H_lines hH hI).1
  refine a_iconst cx (v := 0) dL_lines_0 (by decide) ?_
  refine a_istore6 cx dL_lines_1 (by decide) (by intro w h; first | (cases h; rfl) | (cases h; assumption) | (cases h; done)) ?_
  refine a_loopG (σ := Nat × Option Value × Option Value × Option Value) (fun f s => s.1 + f = 2) (fun _ => ad) (fun _ => τ) (fun s => [some (.ref (ad 0)), some (.ref (ad 85)), some (.int (nI n)), some (.ref (ad 87)), some (.ref (ad 88)), some (.ref (ad 89)), some (.int (nI s.1)), s.2.1, s.2.2.1, s.2.2.2]) (fun s => 100 * s.1) (fun s => 1000 * s.1) 2 (0, none, none, none) rfl rfl rfl rfl (Nat.le_refl _) (Nat.le_refl _) ?_
  rintro f0 ⟨b, z7, z8, z9⟩ hb0 ih0
  dsimp only at hb0 ⊢
  refine a_iload cx dL_lines_3 rfl ?_
  refine a_iconst cx (v := 2) dL_lines_5 (by decide) ?_
  refine a_icmp_ge cx (tgt := 242) dL_lines_6 (by decide) (fun c_6 => ?_) (fun c_6 => ?_)
  · refine a_iconst cx (v := 1) dL_lines_242 (by decide) ?_
    exact a_zret cx hr dL_lines_243 (by first | rfl | decide) (by omega) (by omega) ⟨rfl, rfl, rfl⟩
  · have hb : b < 2 := int_lt (b := b) (a := 2) (by omega) (by omega) c_6
    obtain ⟨f0, rfl⟩ : ∃ f9, f0 = f9 + 1 := ⟨f0 - 1, by omega⟩
    rcases hS.cur hT hb with ⟨e1, e2, e3⟩ | ⟨k0, j0, l0, t, e1, e2, hj0, hon, h70, hl1, hl9, h75, hwhy, ht1, ht, hn0, hall⟩
    · refine a_aload_n cx dL_lines_9 rfl rfl ?_
      refine a_iload cx dL_lines_10 rfl ?_
      refine a_callSH cx 2 (sp_L_on (b := nI b) hH hI) ml_L_107 st_L_on ini_L cd_L_on rfl rfl (by decide +kernel) rfl rfl ⟨(Nat.le_of_ble_eq_true rfl), (Nat.le_of_ble_eq_true rfl)⟩ (Nat.le_of_ble_eq_true rfl) dL_lines_12 ⟨show _ ≤ 600 by omega, show _ ≤ 6000 by omega⟩ (fun _ _ _ h => h.elim) (fun v9 ad9 τ9 hP => ?_)
      obtain ⟨rfl, h2, h3⟩ := hP
      replace h2 := h2.symm
      subst h2
      replace h3 := h3.symm
      subst h3
      rw [v_on hS hb, if_pos e2]
      refine a_istore7 cx dL_lines_15 (by decide) (by intro w h; first | (cases h; rfl) | (cases h; assumption) | (cases h; done)) ?_
      refine a_aload_n cx dL_lines_17 rfl rfl ?_
      refine a_iload cx dL_lines_18 rfl ?_
      refine a_callSH cx 2 (sp_L_reason (b := nI b) hH hI) ml_L_109 st_L_reason ini_L cd_L_reason rfl rfl (by decide +kernel) rfl rfl ⟨(Nat.le_of_ble_eq_true rfl), (Nat.le_of_ble_eq_true rfl)⟩ (Nat.le_of_ble_eq_true rfl) dL_lines_20 ⟨show _ ≤ 600 by omega, show _ ≤ 6000 by omega⟩ (fun _ _ _ h => h.elim) (fun v9 ad9 τ9 hP => ?_)
      obtain ⟨rfl, h2, h3⟩ := hP
      replace h2 := h2.symm
      subst h2
      replace h3 := h3.symm
      subst h3
      rw [v_reason hS hb, e3]
      refine a_istore8 cx dL_lines_23 (by decide) (by intro w h; first | (cases h; rfl) | (cases h; assumption) | (cases h; done)) ?_
      refine a_iload cx dL_lines_25 rfl ?_
      refine a_if_ge cx (tgt := 34) dL_lines_27 (by decide) (fun c_27 => absurd c_27 (by decide)) (fun c_27 => ?_)
      refine a_iconst cx (v := 1) dL_lines_30 (by decide) ?_
      refine a_goto cx (tgt := 35) dL_lines_31 (by decide) ?_
      refine a_iload cx dL_lines_35 rfl ?_
      refine a_bipush cx (v := 113) dL_lines_37 (by decide) ?_
      refine a_icmp_ne cx (tgt := 46) dL_lines_39 (by decide) (fun c_39 => absurd rfl c_39) (fun c_39 => ?_)
      refine a_iconst cx (v := 1) dL_lines_42 (by decide) ?_
      refine a_goto cx (tgt := 47) dL_lines_43 (by decide) ?_
      refine a_icmp_eq cx (tgt := 52) dL_lines_47 (by decide) (fun c_47 => ?_) (fun c_47 => absurd rfl c_47)
      refine a_iload cx dL_lines_52 rfl ?_
      refine a_if_ge cx (tgt := 60) dL_lines_54 (by decide) (fun c_54 => absurd c_54 (by decide)) (fun c_54 => ?_)
      refine a_goto cx (tgt := 236) dL_lines_57 (by decide) ?_
      refine a_iinc6 cx (nI (b + 1)) dL_lines_236 (nI_1 b) (by decide) (by intro w h; first | (cases h; rfl) | (cases h; assumption) | (cases h; done)) ?_
      refine a_goto cx (tgt := 3) dL_lines_239 (by decide) ?_
      exact a_wide (by omega) (by omega) (ih0 f0 (b + 1, _, _, _) (Nat.lt_succ_self f0) (by first | omega | (dsimp only; omega)))
    · refine a_aload_n cx dL_lines_9 rfl rfl ?_
      refine a_iload cx dL_lines_10 rfl ?_
      refine a_callSH cx 2 (sp_L_on (b := nI b) hH hI) ml_L_107 st_L_on ini_L cd_L_on rfl rfl (by decide +kernel) rfl rfl ⟨(Nat.le_of_ble_eq_true rfl), (Nat.le_of_ble_eq_true rfl)⟩ (Nat.le_of_ble_eq_true rfl) dL_lines_12 ⟨show _ ≤ 600 by omega, show _ ≤ 6000 by omega⟩ (fun _ _ _ h => h.elim) (fun v9 ad9 τ9 hP => ?_)
      obtain ⟨rfl, h2, h3⟩ := hP
      replace h2 := h2.symm
      subst h2
      replace h3 := h3.symm
      subst h3
      rw [v_on hS hb, hon, if_neg (nI_ne1 (by omega))]
      refine a_istore7 cx dL_lines_15 (by decide) (by intro w h; first | (cases h; rfl) | (cases h; assumption) | (cases h; done)) ?_
      refine a_aload_n cx dL_lines_17 rfl rfl ?_
      refine a_iload cx dL_lines_18 rfl ?_
      refine a_callSH cx 2 (sp_L_reason (b := nI b) hH hI) ml_L_109 st_L_reason ini_L cd_L_reason rfl rfl (by decide +kernel) rfl rfl ⟨(Nat.le_of_ble_eq_true rfl), (Nat.le_of_ble_eq_true rfl)⟩ (Nat.le_of_ble_eq_true rfl) dL_lines_20 ⟨show _ ≤ 600 by omega, show _ ≤ 6000 by omega⟩ (fun _ _ _ h => h.elim) (fun v9 ad9 τ9 hP => ?_)
      obtain ⟨rfl, h2, h3⟩ := hP
      replace h2 := h2.symm
      subst h2
      replace h3 := h3.symm
      subst h3
      rw [v_reason hS hb, hwhy]
      refine a_istore8 cx dL_lines_23 (by decide) (by intro w h; first | (cases h; rfl) | (cases h; assumption) | (cases h; done)) ?_
      refine a_iload cx dL_lines_25 rfl ?_
      refine a_if_ge cx (tgt := 34) dL_lines_27 (by decide) (fun c_27 => ?_) (fun c_27 => absurd (nI_pos' (by omega)) c_27)
      refine a_iconst cx (v := 0) dL_lines_34 (by decide) ?_
      refine a_iload cx dL_lines_35 rfl ?_
      refine a_bipush cx (v := 113) dL_lines_37 (by decide) ?_
      refine a_icmp_ne cx (tgt := 46) dL_lines_39 (by decide) (fun c_39 => ?_) (fun c_39 => absurd c_39 (mWhyJ_q B b j0))
      refine a_iconst cx (v := 0) dL_lines_46 (by decide) ?_
      refine a_icmp_eq cx (tgt := 52) dL_lines_47 (by decide) (fun c_47 => ?_) (fun c_47 => absurd rfl c_47)
      refine a_iload cx dL_lines_52 rfl ?_
      refine a_if_ge cx (tgt := 60) dL_lines_54 (by decide) (fun c_54 => ?_) (fun c_54 => absurd (nI_pos' (by omega)) c_54)
      refine a_aload_n cx dL_lines_60 rfl rfl ?_
      refine a_iload cx dL_lines_61 rfl ?_
      refine a_ild cx (j0) (la_85 hH) (rfl) (hj0) (by omega) dL_lines_63 ?_
      refine a_iload cx dL_lines_64 rfl ?_
      refine a_icmp_ne cx (tgt := 82) dL_lines_66 (by decide) (fun c_66 => absurd ((hS.w85 hj0).symm.trans h70) c_66) (fun c_66 => ?_)
      refine a_aload_n cx dL_lines_69 rfl rfl ?_
      refine a_iload cx dL_lines_70 rfl ?_
      refine a_callSH cx 2 (sp_L_nextAt (j := nI j0) hH hI) ml_L_105 st_L_nextAt ini_L cd_L_nextAt rfl rfl (by decide +kernel) rfl rfl ⟨(Nat.le_of_ble_eq_true rfl), (Nat.le_of_ble_eq_true rfl)⟩ (Nat.le_of_ble_eq_true rfl) dL_lines_72 ⟨show _ ≤ 600 by omega, show _ ≤ 6000 by omega⟩ (fun _ _ _ h => h.elim) (fun v9 ad9 τ9 hP => ?_)
      obtain ⟨rfl, h2, h3⟩ := hP
      replace h2 := h2.symm
      subst h2
      replace h3 := h3.symm
      subst h3
      rw [hn0]
      refine a_aload_n cx dL_lines_75 rfl rfl ?_
      refine a_callV cx 0 (sp_X3_time hH hI) hO rfl ml_L_111 im_X3_time se_X3_time ini_X3 cd_X3_time rfl rfl (by decide +kernel) rfl rfl ⟨(Nat.le_of_ble_eq_true rfl), (Nat.le_of_ble_eq_true rfl)⟩ (Nat.le_of_ble_eq_true rfl) dL_lines_76 ⟨show _ ≤ 600 by omega, show _ ≤ 6000 by omega⟩ (fun _ _ _ h => h.elim) (fun v9 ad9 τ9 hP => ?_)
      obtain ⟨rfl, h2, h3⟩ := hP
      replace h2 := h2.symm
      subst h2
      replace h3 := h3.symm
      subst h3
      rw [ht]
      refine a_icmp_eq cx (tgt := 84) dL_lines_79 (by decide) (fun c_79 => ?_) (fun c_79 => absurd rfl c_79)
      refine a_iconst cx (v := 0) dL_lines_84 (by decide) ?_
      refine a_istore9 cx dL_lines_85 (by decide) (by intro w h; first | (cases h; rfl) | (cases h; assumption) | (cases h; done)) ?_
      refine a_loopG (σ := Nat × Option Value) (fun f s => s.1 + f = n) (fun _ => ad) (fun _ => τ) (fun s => [some (.ref (ad 0)), some (.ref (ad 85)), some (.int (nI n)), some (.ref (ad 87)), some (.ref (ad 88)), some (.ref (ad 89)), some (.int (nI b)), some (.int (nI j0)), some (.int (mWhyJ B b j0)), some (.int (nI s.1))]) (fun s => 100 * b + 6 + 8 * s.1) (fun s => 1000 * b + 36 + 48 * s.1) n (0, none) (Nat.zero_add _) rfl rfl rfl (by dsimp only; omega) (by dsimp only; omega) ?_
      rintro f ⟨i, zz⟩ hi0 ih
      dsimp only at hi0 ⊢
      refine a_iload cx dL_lines_87 rfl ?_
      refine a_iload_n cx dL_lines_89 rfl rfl ?_
      refine a_icmp_ge cx (tgt := 146) dL_lines_90 (by decide) (fun c_90 => ?_) (fun c_90 => ?_)
      · obtain ⟨u, hu4, hu, hu2, hu3, hu5⟩ := hS.user hj0
        refine a_iload cx dL_lines_146 rfl ?_
        refine a_bipush cx (v := 116) dL_lines_148 (by decide) ?_
        refine a_icmp_ne cx (tgt := 163) dL_lines_150 (by decide) (fun c_150 => ?_) (fun c_150 => ?_)
        · refine a_iload cx dL_lines_163 rfl ?_
          refine a_bipush cx (v := 112) dL_lines_165 (by decide) ?_
          refine a_icmp_ne cx (tgt := 190) dL_lines_167 (by decide) (fun c_167 => ?_) (fun c_167 => ?_)
          · refine a_iload cx dL_lines_190 rfl ?_
            refine a_bipush cx (v := 45) dL_lines_192 (by decide) ?_
            refine a_icmp_eq cx (tgt := 204) dL_lines_194 (by decide) (fun c_194 => ?_) (fun c_194 => ?_)
            · refine a_aload cx dL_lines_204 rfl ?_
              refine a_aload_n cx dL_lines_206 rfl rfl ?_
              refine a_iload cx dL_lines_207 rfl ?_
              refine a_ild cx (j0) (la_87 hH) (rfl) (hj0) (by omega) dL_lines_209 ?_
              refine a_zld cx (u) (la_88 hH) (hu) ((by omega)) (by omega) dL_lines_210 ?_
              refine a_if_eq cx (tgt := 234) dL_lines_211 (by decide) (fun c_211 => absurd (hu3.trans c_211) (hu2 ▸ (why_ok (Or.inl c_194)).1)) (fun c_211 => ?_)
              refine a_aload cx dL_lines_214 rfl ?_
              refine a_aload_n cx dL_lines_216 rfl rfl ?_
              refine a_iload cx dL_lines_217 rfl ?_
              refine a_ild cx (j0) (la_87 hH) (rfl) (hj0) (by omega) dL_lines_219 ?_
              refine a_zld cx (u) (la_89 hH) (hu) ((by omega)) (by omega) dL_lines_220 ?_
              refine a_if_eq cx (tgt := 234) dL_lines_221 (by decide) (fun c_221 => absurd (hu5.trans c_221) (hu2 ▸ (why_ok (Or.inl c_194)).2.1)) (fun c_221 => ?_)
              refine a_aload_n cx dL_lines_224 rfl rfl ?_
              refine a_iload cx dL_lines_225 rfl ?_
              refine a_callSH cx 2 (sp_L_life (j := nI j0) hH hI) ml_L_114 st_L_life ini_L cd_L_life rfl rfl (by decide +kernel) rfl rfl ⟨(Nat.le_of_ble_eq_true rfl), (Nat.le_of_ble_eq_true rfl)⟩ (Nat.le_of_ble_eq_true rfl) dL_lines_227 ⟨show _ ≤ 600 by omega, show _ ≤ 6000 by omega⟩ (fun _ _ _ h => h.elim) (fun v9 ad9 τ9 hP => ?_)
              obtain ⟨rfl, h2, h3⟩ := hP
              replace h2 := h2.symm
              subst h2
              replace h3 := h3.symm
              subst h3
              refine a_iconst cx (v := 1) dL_lines_230 (by decide) ?_
              refine a_icmp_ge cx (tgt := 236) dL_lines_231 (by decide) (fun c_231 => ?_) (fun c_231 => absurd (life_ge hS hj0 (why_ok (Or.inl c_194)).2.2.1 (why_ok (Or.inl c_194)).2.2.2) c_231)
              refine a_iinc6 cx (nI (b + 1)) dL_lines_236 (nI_1 b) (by decide) (by intro w h; first | (cases h; rfl) | (cases h; assumption) | (cases h; done)) ?_
              refine a_goto cx (tgt := 3) dL_lines_239 (by decide) ?_
              exact a_wide (by omega) (by omega) (ih0 f0 (b + 1, _, _, _) (Nat.lt_succ_self f0) (by first | omega | (dsimp only; omega)))
            · refine a_iload cx dL_lines_197 rfl ?_
              refine a_bipush cx (v := 100) dL_lines_199 (by decide) ?_
              refine a_icmp_ne cx (tgt := 236) dL_lines_201 (by decide) (fun c_201 => ?_) (fun c_201 => ?_)
              · refine a_iinc6 cx (nI (b + 1)) dL_lines_236 (nI_1 b) (by decide) (by intro w h; first | (cases h; rfl) | (cases h; assumption) | (cases h; done)) ?_
                refine a_goto cx (tgt := 3) dL_lines_239 (by decide) ?_
                exact a_wide (by omega) (by omega) (ih0 f0 (b + 1, _, _, _) (Nat.lt_succ_self f0) (by first | omega | (dsimp only; omega)))
              · refine a_aload cx dL_lines_204 rfl ?_
                refine a_aload_n cx dL_lines_206 rfl rfl ?_
                refine a_iload cx dL_lines_207 rfl ?_
                refine a_ild cx (j0) (la_87 hH) (rfl) (hj0) (by omega) dL_lines_209 ?_
                refine a_zld cx (u) (la_88 hH) (hu) ((by omega)) (by omega) dL_lines_210 ?_
                refine a_if_eq cx (tgt := 234) dL_lines_211 (by decide) (fun c_211 => absurd (hu3.trans c_211) (hu2 ▸ (why_ok (Or.inr c_201)).1)) (fun c_211 => ?_)
                refine a_aload cx dL_lines_214 rfl ?_
                refine a_aload_n cx dL_lines_216 rfl rfl ?_
                refine a_iload cx dL_lines_217 rfl ?_
                refine a_ild cx (j0) (la_87 hH) (rfl) (hj0) (by omega) dL_lines_219 ?_
                refine a_zld cx (u) (la_89 hH) (hu) ((by omega)) (by omega) dL_lines_220 ?_
                refine a_if_eq cx (tgt := 234) dL_lines_221 (by decide) (fun c_221 => absurd (hu5.trans c_221) (hu2 ▸ (why_ok (Or.inr c_201)).2.1)) (fun c_221 => ?_)
                refine a_aload_n cx dL_lines_224 rfl rfl ?_
                refine a_iload cx dL_lines_225 rfl ?_
                refine a_callSH cx 2 (sp_L_life (j := nI j0) hH hI) ml_L_114 st_L_life ini_L cd_L_life rfl rfl (by decide +kernel) rfl rfl ⟨(Nat.le_of_ble_eq_true rfl), (Nat.le_of_ble_eq_true rfl)⟩ (Nat.le_of_ble_eq_true rfl) dL_lines_227 ⟨show _ ≤ 600 by omega, show _ ≤ 6000 by omega⟩ (fun _ _ _ h => h.elim) (fun v9 ad9 τ9 hP => ?_)
                obtain ⟨rfl, h2, h3⟩ := hP
                replace h2 := h2.symm
                subst h2
                replace h3 := h3.symm
                subst h3
                refine a_iconst cx (v := 1) dL_lines_230 (by decide) ?_
                refine a_icmp_ge cx (tgt := 236) dL_lines_231 (by decide) (fun c_231 => ?_) (fun c_231 => absurd (life_ge hS hj0 (why_ok (Or.inr c_201)).2.2.1 (why_ok (Or.inr c_201)).2.2.2) c_231)
                refine a_iinc6 cx (nI (b + 1)) dL_lines_236 (nI_1 b) (by decide) (by intro w h; first | (cases h; rfl) | (cases h; assumption) | (cases h; done)) ?_
                refine a_goto cx (tgt := 3) dL_lines_239 (by decide) ?_
                exact a_wide (by omega) (by omega) (ih0 f0 (b + 1, _, _, _) (Nat.lt_succ_self f0) (by first | omega | (dsimp only; omega)))
          · refine a_aload cx dL_lines_170 rfl ?_
            refine a_aload_n cx dL_lines_172 rfl rfl ?_
            refine a_iload cx dL_lines_173 rfl ?_
            refine a_ild cx (j0) (la_87 hH) (rfl) (hj0) (by omega) dL_lines_175 ?_
            refine a_zld cx (u) (la_88 hH) (hu) ((by omega)) (by omega) dL_lines_176 ?_
            refine a_if_eq cx (tgt := 234) dL_lines_177 (by decide) (fun c_177 => absurd (hu3.trans c_177) (hu2 ▸ (why_112 c_167).1)) (fun c_177 => ?_)
            refine a_aload cx dL_lines_180 rfl ?_
            refine a_aload_n cx dL_lines_182 rfl rfl ?_
            refine a_iload cx dL_lines_183 rfl ?_
            refine a_ild cx (j0) (la_87 hH) (rfl) (hj0) (by omega) dL_lines_185 ?_
            refine a_zld cx (u) (la_89 hH) (hu) ((by omega)) (by omega) dL_lines_186 ?_
            refine a_if_ne cx (tgt := 234) dL_lines_187 (by decide) (fun c_187 => absurd (hu5.symm.trans (hu2 ▸ (why_112 c_167).2)) c_187) (fun c_187 => ?_)
            refine a_iload cx dL_lines_190 rfl ?_
            refine a_bipush cx (v := 45) dL_lines_192 (by decide) ?_
            refine a_icmp_eq cx (tgt := 204) dL_lines_194 (by decide) (fun c_194 => ?_) (fun c_194 => ?_)
            · refine a_aload cx dL_lines_204 rfl ?_
              refine a_aload_n cx dL_lines_206 rfl rfl ?_
              refine a_iload cx dL_lines_207 rfl ?_
              refine a_ild cx (j0) (la_87 hH) (rfl) (hj0) (by omega) dL_lines_209 ?_
              refine a_zld cx (u) (la_88 hH) (hu) ((by omega)) (by omega) dL_lines_210 ?_
              refine a_if_eq cx (tgt := 234) dL_lines_211 (by decide) (fun c_211 => absurd (hu3.trans c_211) (hu2 ▸ (why_ok (Or.inl c_194)).1)) (fun c_211 => ?_)
              refine a_aload cx dL_lines_214 rfl ?_
              refine a_aload_n cx dL_lines_216 rfl rfl ?_
              refine a_iload cx dL_lines_217 rfl ?_
              refine a_ild cx (j0) (la_87 hH) (rfl) (hj0) (by omega) dL_lines_219 ?_
              refine a_zld cx (u) (la_89 hH) (hu) ((by omega)) (by omega) dL_lines_220 ?_
              refine a_if_eq cx (tgt := 234) dL_lines_221 (by decide) (fun c_221 => absurd (hu5.trans c_221) (hu2 ▸ (why_ok (Or.inl c_194)).2.1)) (fun c_221 => ?_)
              refine a_aload_n cx dL_lines_224 rfl rfl ?_
              refine a_iload cx dL_lines_225 rfl ?_
              refine a_callSH cx 2 (sp_L_life (j := nI j0) hH hI) ml_L_114 st_L_life ini_L cd_L_life rfl rfl (by decide +kernel) rfl rfl ⟨(Nat.le_of_ble_eq_true rfl), (Nat.le_of_ble_eq_true rfl)⟩ (Nat.le_of_ble_eq_true rfl) dL_lines_227 ⟨show _ ≤ 600 by omega, show _ ≤ 6000 by omega⟩ (fun _ _ _ h => h.elim) (fun v9 ad9 τ9 hP => ?_)
              obtain ⟨rfl, h2, h3⟩ := hP
              replace h2 := h2.symm
              subst h2
              replace h3 := h3.symm
              subst h3
              refine a_iconst cx (v := 1) dL_lines_230 (by decide) ?_
              refine a_icmp_ge cx (tgt := 236) dL_lines_231 (by decide) (fun c_231 => ?_) (fun c_231 => absurd (life_ge hS hj0 (why_ok (Or.inl c_194)).2.2.1 (why_ok (Or.inl c_194)).2.2.2) c_231)
              refine a_iinc6 cx (nI (b + 1)) dL_lines_236 (nI_1 b) (by decide) (by intro w h; first | (cases h; rfl) | (cases h; assumption) | (cases h; done)) ?_
              refine a_goto cx (tgt := 3) dL_lines_239 (by decide) ?_
              exact a_wide (by omega) (by omega) (ih0 f0 (b + 1, _, _, _) (Nat.lt_succ_self f0) (by first | omega | (dsimp only; omega)))
            · refine a_iload cx dL_lines_197 rfl ?_
              refine a_bipush cx (v := 100) dL_lines_199 (by decide) ?_
              refine a_icmp_ne cx (tgt := 236) dL_lines_201 (by decide) (fun c_201 => ?_) (fun c_201 => ?_)
              · refine a_iinc6 cx (nI (b + 1)) dL_lines_236 (nI_1 b) (by decide) (by intro w h; first | (cases h; rfl) | (cases h; assumption) | (cases h; done)) ?_
                refine a_goto cx (tgt := 3) dL_lines_239 (by decide) ?_
                exact a_wide (by omega) (by omega) (ih0 f0 (b + 1, _, _, _) (Nat.lt_succ_self f0) (by first | omega | (dsimp only; omega)))
              · refine a_aload cx dL_lines_204 rfl ?_
                refine a_aload_n cx dL_lines_206 rfl rfl ?_
                refine a_iload cx dL_lines_207 rfl ?_
                refine a_ild cx (j0) (la_87 hH) (rfl) (hj0) (by omega) dL_lines_209 ?_
                refine a_zld cx (u) (la_88 hH) (hu) ((by omega)) (by omega) dL_lines_210 ?_
                refine a_if_eq cx (tgt := 234) dL_lines_211 (by decide) (fun c_211 => absurd (hu3.trans c_211) (hu2 ▸ (why_ok (Or.inr c_201)).1)) (fun c_211 => ?_)
                refine a_aload cx dL_lines_214 rfl ?_
                refine a_aload_n cx dL_lines_216 rfl rfl ?_
                refine a_iload cx dL_lines_217 rfl ?_
                refine a_ild cx (j0) (la_87 hH) (rfl) (hj0) (by omega) dL_lines_219 ?_
                refine a_zld cx (u) (la_89 hH) (hu) ((by omega)) (by omega) dL_lines_220 ?_
                refine a_if_eq cx (tgt := 234) dL_lines_221 (by decide) (fun c_221 => absurd (hu5.trans c_221) (hu2 ▸ (why_ok (Or.inr c_201)).2.1)) (fun c_221 => ?_)
                refine a_aload_n cx dL_lines_224 rfl rfl ?_
                refine a_iload cx dL_lines_225 rfl ?_
                refine a_callSH cx 2 (sp_L_life (j := nI j0) hH hI) ml_L_114 st_L_life ini_L cd_L_life rfl rfl (by decide +kernel) rfl rfl ⟨(Nat.le_of_ble_eq_true rfl), (Nat.le_of_ble_eq_true rfl)⟩ (Nat.le_of_ble_eq_true rfl) dL_lines_227 ⟨show _ ≤ 600 by omega, show _ ≤ 6000 by omega⟩ (fun _ _ _ h => h.elim) (fun v9 ad9 τ9 hP => ?_)
                obtain ⟨rfl, h2, h3⟩ := hP
                replace h2 := h2.symm
                subst h2
                replace h3 := h3.symm
                subst h3
                refine a_iconst cx (v := 1) dL_lines_230 (by decide) ?_
                refine a_icmp_ge cx (tgt := 236) dL_lines_231 (by decide) (fun c_231 => ?_) (fun c_231 => absurd (life_ge hS hj0 (why_ok (Or.inr c_201)).2.2.1 (why_ok (Or.inr c_201)).2.2.2) c_231)
                refine a_iinc6 cx (nI (b + 1)) dL_lines_236 (nI_1 b) (by decide) (by intro w h; first | (cases h; rfl) | (cases h; assumption) | (cases h; done)) ?_
                refine a_goto cx (tgt := 3) dL_lines_239 (by decide) ?_
                exact a_wide (by omega) (by omega) (ih0 f0 (b + 1, _, _, _) (Nat.lt_succ_self f0) (by first | omega | (dsimp only; omega)))
        · refine a_aload cx dL_lines_153 rfl ?_
          refine a_aload_n cx dL_lines_155 rfl rfl ?_
          refine a_iload cx dL_lines_156 rfl ?_
          refine a_ild cx (j0) (la_87 hH) (rfl) (hj0) (by omega) dL_lines_158 ?_
          refine a_zld cx (u) (la_88 hH) (hu) ((by omega)) (by omega) dL_lines_159 ?_
          refine a_if_ne cx (tgt := 234) dL_lines_160 (by decide) (fun c_160 => absurd (hu3.symm.trans (hu2 ▸ why_116 c_150)) c_160) (fun c_160 => ?_)
          refine a_iload cx dL_lines_163 rfl ?_
          refine a_bipush cx (v := 112) dL_lines_165 (by decide) ?_
          refine a_icmp_ne cx (tgt := 190) dL_lines_167 (by decide) (fun c_167 => ?_) (fun c_167 => ?_)
          · refine a_iload cx dL_lines_190 rfl ?_
            refine a_bipush cx (v := 45) dL_lines_192 (by decide) ?_
            refine a_icmp_eq cx (tgt := 204) dL_lines_194 (by decide) (fun c_194 => ?_) (fun c_194 => ?_)
            · refine a_aload cx dL_lines_204 rfl ?_
              refine a_aload_n cx dL_lines_206 rfl rfl ?_
              refine a_iload cx dL_lines_207 rfl ?_
              refine a_ild cx (j0) (la_87 hH) (rfl) (hj0) (by omega) dL_lines_209 ?_
              refine a_zld cx (u) (la_88 hH) (hu) ((by omega)) (by omega) dL_lines_210 ?_
              refine a_if_eq cx (tgt := 234) dL_lines_211 (by decide) (fun c_211 => absurd (hu3.trans c_211) (hu2 ▸ (why_ok (Or.inl c_194)).1)) (fun c_211 => ?_)
              refine a_aload cx dL_lines_214 rfl ?_
              refine a_aload_n cx dL_lines_216 rfl rfl ?_
              refine a_iload cx dL_lines_217 rfl ?_
              refine a_ild cx (j0) (la_87 hH) (rfl) (hj0) (by omega) dL_lines_219 ?_
              refine a_zld cx (u) (la_89 hH) (hu) ((by omega)) (by omega) dL_lines_220 ?_
              refine a_if_eq cx (tgt := 234) dL_lines_221 (by decide) (fun c_221 => absurd (hu5.trans c_221) (hu2 ▸ (why_ok (Or.inl c_194)).2.1)) (fun c_221 => ?_)
              refine a_aload_n cx dL_lines_224 rfl rfl ?_
              refine a_iload cx dL_lines_225 rfl ?_
              refine a_callSH cx 2 (sp_L_life (j := nI j0) hH hI) ml_L_114 st_L_life ini_L cd_L_life rfl rfl (by decide +kernel) rfl rfl ⟨(Nat.le_of_ble_eq_true rfl), (Nat.le_of_ble_eq_true rfl)⟩ (Nat.le_of_ble_eq_true rfl) dL_lines_227 ⟨show _ ≤ 600 by omega, show _ ≤ 6000 by omega⟩ (fun _ _ _ h => h.elim) (fun v9 ad9 τ9 hP => ?_)
              obtain ⟨rfl, h2, h3⟩ := hP
              replace h2 := h2.symm
              subst h2
              replace h3 := h3.symm
              subst h3
              refine a_iconst cx (v := 1) dL_lines_230 (by decide) ?_
              refine a_icmp_ge cx (tgt := 236) dL_lines_231 (by decide) (fun c_231 => ?_) (fun c_231 => absurd (life_ge hS hj0 (why_ok (Or.inl c_194)).2.2.1 (why_ok (Or.inl c_194)).2.2.2) c_231)
              refine a_iinc6 cx (nI (b + 1)) dL_lines_236 (nI_1 b) (by decide) (by intro w h; first | (cases h; rfl) | (cases h; assumption) | (cases h; done)) ?_
              refine a_goto cx (tgt := 3) dL_lines_239 (by decide) ?_
              exact a_wide (by omega) (by omega) (ih0 f0 (b + 1, _, _, _) (Nat.lt_succ_self f0) (by first | omega | (dsimp only; omega)))
            · refine a_iload cx dL_lines_197 rfl ?_
              refine a_bipush cx (v := 100) dL_lines_199 (by decide) ?_
              refine a_icmp_ne cx (tgt := 236) dL_lines_201 (by decide) (fun c_201 => ?_) (fun c_201 => ?_)
              · refine a_iinc6 cx (nI (b + 1)) dL_lines_236 (nI_1 b) (by decide) (by intro w h; first | (cases h; rfl) | (cases h; assumption) | (cases h; done)) ?_
                refine a_goto cx (tgt := 3) dL_lines_239 (by decide) ?_
                exact a_wide (by omega) (by omega) (ih0 f0 (b + 1, _, _, _) (Nat.lt_succ_self f0) (by first | omega | (dsimp only; omega)))
              · refine a_aload cx dL_lines_204 rfl ?_
                refine a_aload_n cx dL_lines_206 rfl rfl ?_
                refine a_iload cx dL_lines_207 rfl ?_
                refine a_ild cx (j0) (la_87 hH) (rfl) (hj0) (by omega) dL_lines_209 ?_
                refine a_zld cx (u) (la_88 hH) (hu) ((by omega)) (by omega) dL_lines_210 ?_
                refine a_if_eq cx (tgt := 234) dL_lines_211 (by decide) (fun c_211 => absurd (hu3.trans c_211) (hu2 ▸ (why_ok (Or.inr c_201)).1)) (fun c_211 => ?_)
                refine a_aload cx dL_lines_214 rfl ?_
                refine a_aload_n cx dL_lines_216 rfl rfl ?_
                refine a_iload cx dL_lines_217 rfl ?_
                refine a_ild cx (j0) (la_87 hH) (rfl) (hj0) (by omega) dL_lines_219 ?_
                refine a_zld cx (u) (la_89 hH) (hu) ((by omega)) (by omega) dL_lines_220 ?_
                refine a_if_eq cx (tgt := 234) dL_lines_221 (by decide) (fun c_221 => absurd (hu5.trans c_221) (hu2 ▸ (why_ok (Or.inr c_201)).2.1)) (fun c_221 => ?_)
                refine a_aload_n cx dL_lines_224 rfl rfl ?_
                refine a_iload cx dL_lines_225 rfl ?_
                refine a_callSH cx 2 (sp_L_life (j := nI j0) hH hI) ml_L_114 st_L_life ini_L cd_L_life rfl rfl (by decide +kernel) rfl rfl ⟨(Nat.le_of_ble_eq_true rfl), (Nat.le_of_ble_eq_true rfl)⟩ (Nat.le_of_ble_eq_true rfl) dL_lines_227 ⟨show _ ≤ 600 by omega, show _ ≤ 6000 by omega⟩ (fun _ _ _ h => h.elim) (fun v9 ad9 τ9 hP => ?_)
                obtain ⟨rfl, h2, h3⟩ := hP
                replace h2 := h2.symm
                subst h2
                replace h3 := h3.symm
                subst h3
                refine a_iconst cx (v := 1) dL_lines_230 (by decide) ?_
                refine a_icmp_ge cx (tgt := 236) dL_lines_231 (by decide) (fun c_231 => ?_) (fun c_231 => absurd (life_ge hS hj0 (why_ok (Or.inr c_201)).2.2.1 (why_ok (Or.inr c_201)).2.2.2) c_231)
                refine a_iinc6 cx (nI (b + 1)) dL_lines_236 (nI_1 b) (by decide) (by intro w h; first | (cases h; rfl) | (cases h; assumption) | (cases h; done)) ?_
                refine a_goto cx (tgt := 3) dL_lines_239 (by decide) ?_
                exact a_wide (by omega) (by omega) (ih0 f0 (b + 1, _, _, _) (Nat.lt_succ_self f0) (by first | omega | (dsimp only; omega)))
          · refine a_aload cx dL_lines_170 rfl ?_
            refine a_aload_n cx dL_lines_172 rfl rfl ?_
            refine a_iload cx dL_lines_173 rfl ?_
            refine a_ild cx (j0) (la_87 hH) (rfl) (hj0) (by omega) dL_lines_175 ?_
            refine a_zld cx (u) (la_88 hH) (hu) ((by omega)) (by omega) dL_lines_176 ?_
            refine a_if_eq cx (tgt := 234) dL_lines_177 (by decide) (fun c_177 => absurd (hu3.trans c_177) (hu2 ▸ (why_112 c_167).1)) (fun c_177 => ?_)
            refine a_aload cx dL_lines_180 rfl ?_
            refine a_aload_n cx dL_lines_182 rfl rfl ?_
            refine a_iload cx dL_lines_183 rfl ?_
            refine a_ild cx (j0) (la_87 hH) (rfl) (hj0) (by omega) dL_lines_185 ?_
            refine a_zld cx (u) (la_89 hH) (hu) ((by omega)) (by omega) dL_lines_186 ?_
            refine a_if_ne cx (tgt := 234) dL_lines_187 (by decide) (fun c_187 => absurd (hu5.symm.trans (hu2 ▸ (why_112 c_167).2)) c_187) (fun c_187 => ?_)
            refine a_iload cx dL_lines_190 rfl ?_
            refine a_bipush cx (v := 45) dL_lines_192 (by decide) ?_
            refine a_icmp_eq cx (tgt := 204) dL_lines_194 (by decide) (fun c_194 => ?_) (fun c_194 => ?_)
            · refine a_aload cx dL_lines_204 rfl ?_
              refine a_aload_n cx dL_lines_206 rfl rfl ?_
              refine a_iload cx dL_lines_207 rfl ?_
              refine a_ild cx (j0) (la_87 hH) (rfl) (hj0) (by omega) dL_lines_209 ?_
              refine a_zld cx (u) (la_88 hH) (hu) ((by omega)) (by omega) dL_lines_210 ?_
              refine a_if_eq cx (tgt := 234) dL_lines_211 (by decide) (fun c_211 => absurd (hu3.trans c_211) (hu2 ▸ (why_ok (Or.inl c_194)).1)) (fun c_211 => ?_)
              refine a_aload cx dL_lines_214 rfl ?_
              refine a_aload_n cx dL_lines_216 rfl rfl ?_
              refine a_iload cx dL_lines_217 rfl ?_
              refine a_ild cx (j0) (la_87 hH) (rfl) (hj0) (by omega) dL_lines_219 ?_
              refine a_zld cx (u) (la_89 hH) (hu) ((by omega)) (by omega) dL_lines_220 ?_
              refine a_if_eq cx (tgt := 234) dL_lines_221 (by decide) (fun c_221 => absurd (hu5.trans c_221) (hu2 ▸ (why_ok (Or.inl c_194)).2.1)) (fun c_221 => ?_)
              refine a_aload_n cx dL_lines_224 rfl rfl ?_
              refine a_iload cx dL_lines_225 rfl ?_
              refine a_callSH cx 2 (sp_L_life (j := nI j0) hH hI) ml_L_114 st_L_life ini_L cd_L_life rfl rfl (by decide +kernel) rfl rfl ⟨(Nat.le_of_ble_eq_true rfl), (Nat.le_of_ble_eq_true rfl)⟩ (Nat.le_of_ble_eq_true rfl) dL_lines_227 ⟨show _ ≤ 600 by omega, show _ ≤ 6000 by omega⟩ (fun _ _ _ h => h.elim) (fun v9 ad9 τ9 hP => ?_)
              obtain ⟨rfl, h2, h3⟩ := hP
              replace h2 := h2.symm
              subst h2
              replace h3 := h3.symm
              subst h3
              refine a_iconst cx (v := 1) dL_lines_230 (by decide) ?_
              refine a_icmp_ge cx (tgt := 236) dL_lines_231 (by decide) (fun c_231 => ?_) (fun c_231 => absurd (life_ge hS hj0 (why_ok (Or.inl c_194)).2.2.1 (why_ok (Or.inl c_194)).2.2.2) c_231)
              refine a_iinc6 cx (nI (b + 1)) dL_lines_236 (nI_1 b) (by decide) (by intro w h; first | (cases h; rfl) | (cases h; assumption) | (cases h; done)) ?_
              refine a_goto cx (tgt := 3) dL_lines_239 (by decide) ?_
              exact a_wide (by omega) (by omega) (ih0 f0 (b + 1, _, _, _) (Nat.lt_succ_self f0) (by first | omega | (dsimp only; omega)))
            · refine a_iload cx dL_lines_197 rfl ?_
              refine a_bipush cx (v := 100) dL_lines_199 (by decide) ?_
              refine a_icmp_ne cx (tgt := 236) dL_lines_201 (by decide) (fun c_201 => ?_) (fun c_201 => ?_)
              · refine a_iinc6 cx (nI (b + 1)) dL_lines_236 (nI_1 b) (by decide) (by intro w h; first | (cases h; rfl) | (cases h; assumption) | (cases h; done)) ?_
                refine a_goto cx (tgt := 3) dL_lines_239 (by decide) ?_
                exact a_wide (by omega) (by omega) (ih0 f0 (b + 1, _, _, _) (Nat.lt_succ_self f0) (by first | omega | (dsimp only; omega)))
              · refine a_aload cx dL_lines_204 rfl ?_
                refine a_aload_n cx dL_lines_206 rfl rfl ?_
                refine a_iload cx dL_lines_207 rfl ?_
                refine a_ild cx (j0) (la_87 hH) (rfl) (hj0) (by omega) dL_lines_209 ?_
                refine a_zld cx (u) (la_88 hH) (hu) ((by omega)) (by omega) dL_lines_210 ?_
                refine a_if_eq cx (tgt := 234) dL_lines_211 (by decide) (fun c_211 => absurd (hu3.trans c_211) (hu2 ▸ (why_ok (Or.inr c_201)).1)) (fun c_211 => ?_)
                refine a_aload cx dL_lines_214 rfl ?_
                refine a_aload_n cx dL_lines_216 rfl rfl ?_
                refine a_iload cx dL_lines_217 rfl ?_
                refine a_ild cx (j0) (la_87 hH) (rfl) (hj0) (by omega) dL_lines_219 ?_
                refine a_zld cx (u) (la_89 hH) (hu) ((by omega)) (by omega) dL_lines_220 ?_
                refine a_if_eq cx (tgt := 234) dL_lines_221 (by decide) (fun c_221 => absurd (hu5.trans c_221) (hu2 ▸ (why_ok (Or.inr c_201)).2.1)) (fun c_221 => ?_)
                refine a_aload_n cx dL_lines_224 rfl rfl ?_
                refine a_iload cx dL_lines_225 rfl ?_
                refine a_callSH cx 2 (sp_L_life (j := nI j0) hH hI) ml_L_114 st_L_life ini_L cd_L_life rfl rfl (by decide +kernel) rfl rfl ⟨(Nat.le_of_ble_eq_true rfl), (Nat.le_of_ble_eq_true rfl)⟩ (Nat.le_of_ble_eq_true rfl) dL_lines_227 ⟨show _ ≤ 600 by omega, show _ ≤ 6000 by omega⟩ (fun _ _ _ h => h.elim) (fun v9 ad9 τ9 hP => ?_)
                obtain ⟨rfl, h2, h3⟩ := hP
                replace h2 := h2.symm
                subst h2
                replace h3 := h3.symm
                subst h3
                refine a_iconst cx (v := 1) dL_lines_230 (by decide) ?_
                refine a_icmp_ge cx (tgt := 236) dL_lines_231 (by decide) (fun c_231 => ?_) (fun c_231 => absurd (life_ge hS hj0 (why_ok (Or.inr c_201)).2.2.1 (why_ok (Or.inr c_201)).2.2.2) c_231)
                refine a_iinc6 cx (nI (b + 1)) dL_lines_236 (nI_1 b) (by decide) (by intro w h; first | (cases h; rfl) | (cases h; assumption) | (cases h; done)) ?_
                refine a_goto cx (tgt := 3) dL_lines_239 (by decide) ?_
                exact a_wide (by omega) (by omega) (ih0 f0 (b + 1, _, _, _) (Nat.lt_succ_self f0) (by first | omega | (dsimp only; omega)))
      · have hi : i < n := int_lt (by omega) (by omega) c_90
        obtain ⟨f, rfl⟩ : ∃ f9, f = f9 + 1 := ⟨f - 1, by omega⟩
        refine a_iload cx dL_lines_93 rfl ?_
        refine a_iload cx dL_lines_95 rfl ?_
        refine a_icmp_eq cx (tgt := 140) dL_lines_97 (by decide) (fun c_97 => ?_) (fun c_97 => ?_)
        · refine a_iinc9 cx (nI (i + 1)) dL_lines_140 (nI_1 i) (by decide) (by intro w h; first | (cases h; rfl) | (cases h; assumption) | (cases h; done)) ?_
          refine a_goto cx (tgt := 87) dL_lines_143 (by decide) ?_
          exact a_wide (by omega) (by omega) (ih f (i + 1, none) (Nat.lt_succ_self f) (by first | omega | (dsimp only; omega)))
        · refine a_aload_n cx dL_lines_100 rfl rfl ?_
          refine a_iload cx dL_lines_101 rfl ?_
          refine a_ild cx (i) (la_85 hH) (rfl) (hi) (by omega) dL_lines_103 ?_
          refine a_iload cx dL_lines_104 rfl ?_
          refine a_icmp_ne cx (tgt := 140) dL_lines_106 (by decide) (fun c_106 => ?_) (fun c_106 => ?_)
          · refine a_iinc9 cx (nI (i + 1)) dL_lines_140 (nI_1 i) (by decide) (by intro w h; first | (cases h; rfl) | (cases h; assumption) | (cases h; done)) ?_
            refine a_goto cx (tgt := 87) dL_lines_143 (by decide) ?_
            exact a_wide (by omega) (by omega) (ih f (i + 1, none) (Nat.lt_succ_self f) (by first | omega | (dsimp only; omega)))
          · refine a_aload_n cx dL_lines_109 rfl rfl ?_
            refine a_iload cx dL_lines_110 rfl ?_
            refine a_callSH cx 2 (sp_L_left (j := nI i) hH hI) ml_L_98 st_L_left ini_L cd_L_left rfl rfl (by decide +kernel) rfl rfl ⟨(Nat.le_of_ble_eq_true rfl), (Nat.le_of_ble_eq_true rfl)⟩ (Nat.le_of_ble_eq_true rfl) dL_lines_112 ⟨show _ ≤ 600 by omega, show _ ≤ 6000 by omega⟩ (fun _ _ _ h => h.elim) (fun v9 ad9 τ9 hP => ?_)
            obtain ⟨rfl, h2, h3⟩ := hP
            replace h2 := h2.symm
            subst h2
            replace h3 := h3.symm
            subst h3
            rw [v_left hS hi]
            refine a_if_le cx (tgt := 140) dL_lines_115 (by decide) (fun c_115 => ?_) (fun c_115 => ?_)
            · refine a_iinc9 cx (nI (i + 1)) dL_lines_140 (nI_1 i) (by decide) (by intro w h; first | (cases h; rfl) | (cases h; assumption) | (cases h; done)) ?_
              refine a_goto cx (tgt := 87) dL_lines_143 (by decide) ?_
              exact a_wide (by omega) (by omega) (ih f (i + 1, none) (Nat.lt_succ_self f) (by first | omega | (dsimp only; omega)))
            · obtain ⟨v, hv1, hv2, hv3⟩ := hall i hi (fun q => c_97 (by rw [q])) ((hS.w85 hi).trans c_106) (fun q => c_115 (by rw [q]; decide))
              refine a_aload_n cx dL_lines_118 rfl rfl ?_
              refine a_iload cx dL_lines_119 rfl ?_
              refine a_callSH cx 2 (sp_L_nextAt (j := nI i) hH hI) ml_L_105 st_L_nextAt ini_L cd_L_nextAt rfl rfl (by decide +kernel) rfl rfl ⟨(Nat.le_of_ble_eq_true rfl), (Nat.le_of_ble_eq_true rfl)⟩ (Nat.le_of_ble_eq_true rfl) dL_lines_121 ⟨show _ ≤ 600 by omega, show _ ≤ 6000 by omega⟩ (fun _ _ _ h => h.elim) (fun v9 ad9 τ9 hP => ?_)
              obtain ⟨rfl, h2, h3⟩ := hP
              replace h2 := h2.symm
              subst h2
              replace h3 := h3.symm
              subst h3
              rw [hv3]
              refine a_aload_n cx dL_lines_124 rfl rfl ?_
              refine a_callV cx 0 (sp_X3_time hH hI) hO rfl ml_L_111 im_X3_time se_X3_time ini_X3 cd_X3_time rfl rfl (by decide +kernel) rfl rfl ⟨(Nat.le_of_ble_eq_true rfl), (Nat.le_of_ble_eq_true rfl)⟩ (Nat.le_of_ble_eq_true rfl) dL_lines_125 ⟨show _ ≤ 600 by omega, show _ ≤ 6000 by omega⟩ (fun _ _ _ h => h.elim) (fun v9 ad9 τ9 hP => ?_)
              obtain ⟨rfl, h2, h3⟩ := hP
              replace h2 := h2.symm
              subst h2
              replace h3 := h3.symm
              subst h3
              rw [ht]
              refine a_aload_n cx dL_lines_128 rfl rfl ?_
              refine a_iload cx dL_lines_129 rfl ?_
              refine a_callSH cx 2 (sp_L_left (j := nI j0) hH hI) ml_L_98 st_L_left ini_L cd_L_left rfl rfl (by decide +kernel) rfl rfl ⟨(Nat.le_of_ble_eq_true rfl), (Nat.le_of_ble_eq_true rfl)⟩ (Nat.le_of_ble_eq_true rfl) dL_lines_131 ⟨show _ ≤ 600 by omega, show _ ≤ 6000 by omega⟩ (fun _ _ _ h => h.elim) (fun v9 ad9 τ9 hP => ?_)
              obtain ⟨rfl, h2, h3⟩ := hP
              replace h2 := h2.symm
              subst h2
              replace h3 := h3.symm
              subst h3
              rw [v_left hS hj0, h75]
              refine a_iadd cx dL_lines_134 ?_
              refine a_icmp_ge cx (tgt := 140) dL_lines_135 (by decide) (fun c_135 => ?_) (fun c_135 => absurd (show nI t + nI l0 ≤ nI v by rw [nI_add]; exact nI_le hv1 (by omega)) c_135)
              refine a_iinc9 cx (nI (i + 1)) dL_lines_140 (nI_1 i) (by decide) (by intro w h; first | (cases h; rfl) | (cases h; assumption) | (cases h; done)) ?_
              refine a_goto cx (tgt := 87) dL_lines_143 (by decide) ?_
              exact a_wide (by omega) (by omega) (ih f (i + 1, none) (Nat.lt_succ_self f) (by first | omega | (dsimp only; omega)))

