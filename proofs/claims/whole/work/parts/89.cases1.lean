set_option maxHeartbeats 4000000 in
set_option maxRecDepth 100000 in
/-- the law: setThere -/
theorem lw_setThere {l : Launch} {g : GW} {p : Program} {e : Env} {s : State} {m : MethodId} {args : Array Value} {below : List Frame} {meth : Method} {c : Code} {A : Nat → Prop} {Q : State → Prop} {ad : AD} {τ : RH} {cells slots b L i : Nat} {xs : Nat → Int32} {Lv : Nat → Bool} {C : ME} {ρ : RH} (cx : Cx l g p s m args meth c A cL_law 9 RL) (hX : va_X b L xs s s.heap) (hbl : b < s.heap.size) (hbA : ¬ A b) (hL : L ≤ 3072) (hi : i + 6 ≤ L) (hS : lwI g ad Lv C ρ τ) (hc : cells + 1000 ≤ 603072) (hs : slots + 10000 ≤ 7211114) (kk : ∀ ad' τ' Lv' C' ρ', lwI g ad' Lv' C' ρ' τ' → AW l g p e room_1 s m args below meth c A 9 Q ad' τ' (cells + 1000) (slots + 10000) 1558 (lwV b ad' i) []) : AW l g p e room_1 s m args below meth c A 9 Q ad τ cells slots 560 (lwV b ad i) [] := by
  obtain ⟨hH, hP, ⟨f, hf⟩, ⟨f2, hf2⟩⟩ := hS
  have hI := hP.1
  have hO := (H_lines hH hI).1
  unfold lwV
  refine a_aload_n cx dL_law_560 rfl rfl ?_
  refine a_arg cx hX hbl hbA 1 i (by decide) (by omega) (by omega) rfl rfl dL_law_561 dL_law_562 dL_law_564 dL_law_565 dL_law_566 ?_
  refine a_arg cx hX hbl hbA 2 i (by decide) (by omega) (by omega) rfl rfl dL_law_567 dL_law_568 dL_law_570 dL_law_571 dL_law_572 ?_
  refine a_if_eq cx (tgt := 580) dL_law_573 (by decide) (fun c_573 => ?_) (fun c_573 => ?_)
  · refine a_iconst cx (v := 0) dL_law_580 (by decide) ?_
    refine a_aload_n cx dL_law_581 rfl rfl ?_
    refine a_callSH cx 4 (sp_L_setThere hH hI hf (Or.inl rfl) hP.b6) ml_L_128 st_L_setThere ini_L cd_L_setThere rfl rfl (by decide +kernel) rfl rfl ⟨(Nat.le_of_ble_eq_true rfl), (Nat.le_of_ble_eq_true rfl)⟩ (Nat.le_of_ble_eq_true rfl) dL_law_582 ⟨show _ ≤ 603072 by omega, show _ ≤ 7211114 by omega⟩ (fun _ _ _ h => h.elim) (fun v9 ad9 τ9 hQ => ?_)
    obtain ⟨rfl, hQ⟩ := hQ
    rcases hQ with ⟨hk, had, hH⟩ | ⟨hk, h2, hH⟩
    · replace had := had.symm
      subst had
      obtain ⟨hM1, hj, ha, hE⟩ := E_setThere hP (Or.inl rfl) hk
      refine a_istore6 cx dL_law_585 (by decide) (by intro w h; first | (cases h; rfl) | (cases h; assumption) | (cases h; done)) ?_
      refine a_aload_n cx dL_law_587 rfl rfl ?_
      refine a_arg cx hX hbl hbA 1 i (by decide) (by omega) (by omega) rfl rfl dL_law_588 dL_law_589 dL_law_591 dL_law_592 dL_law_593 ?_
      refine a_arg cx hX hbl hbA 2 i (by decide) (by omega) (by omega) rfl rfl dL_law_594 dL_law_595 dL_law_597 dL_law_598 dL_law_599 ?_
      refine a_if_eq cx (tgt := 607) dL_law_600 (by decide) (fun c_600 => ?_) (fun c_600 => (c_600 c_573).elim)
      refine a_iconst cx (v := 0) dL_law_607 (by decide) ?_
      refine a_callV cx 2 (sp_X4_setThere hH (hE 0).mm hM1 (Or.inl rfl)) (M_obj hH (hE 0).mm) rfl ml_L_131 im_X4_setThere se_X4_setThere ini_X4 cd_X4_setThere rfl rfl (by decide +kernel) rfl rfl ⟨(Nat.le_of_ble_eq_true rfl), (Nat.le_of_ble_eq_true rfl)⟩ (Nat.le_of_ble_eq_true rfl) dL_law_608 ⟨show _ ≤ 603072 by omega, show _ ≤ 7211114 by omega⟩ (fun _ _ _ h => h.elim) (fun v8 ad8 τ8 hQ => ?_)
      obtain ⟨⟨w, rfl, hw⟩, h2, hH⟩ := hQ
      replace h2 := h2.symm
      subst h2
      replace hw := hw hj
      rw [if_pos hj, hj] at hH
      have hf9 := (hH.2 90 (by decide)).trans rL_90
      refine a_istore7 cx dL_law_611 (by decide) (by intro w h; first | (cases h; rfl) | (cases h; assumption) | (cases h; done)) ?_
      refine a_aload_n cx dL_law_613 rfl rfl ?_
      refine a_callV cx 0 (sp_X4_thrown hH (hE 0).mm) (M_obj hH (hE 0).mm) rfl ml_L_108 im_X4_thrown se_X4_thrown ini_X4 cd_X4_thrown rfl rfl (by decide +kernel) rfl rfl ⟨(Nat.le_of_ble_eq_true rfl), (Nat.le_of_ble_eq_true rfl)⟩ (Nat.le_of_ble_eq_true rfl) dL_law_614 ⟨show _ ≤ 603072 by omega, show _ ≤ 7211114 by omega⟩ (fun _ _ _ h => h.elim) (fun v8 ad8 τ8 hQ => ?_)
      obtain ⟨rfl, h2, h3⟩ := hQ
      replace h2 := h2.symm
      subst h2
      replace h3 := h3.symm
      subst h3
      refine a_iload cx dL_law_617 rfl ?_
      refine a_icmp_eq cx (tgt := 624) dL_law_619 (by decide) (fun c_619 => ?_) (fun c_619 => (c_619 (up2_eq.trans hk.symm)).elim)
      refine a_iload cx dL_law_624 rfl ?_
      refine a_if_ne cx (tgt := 648) dL_law_626 (by decide) (fun c_626 => (c_626 hk).elim) (fun c_626 => ?_)
      refine a_aload_n cx dL_law_629 rfl rfl ?_
      refine a_iconst cx (v := 0) dL_law_630 (by decide) ?_
      refine a_lld cx (0) hf9 (rfl) ((by decide)) (by decide) dL_law_631 ?_
      refine a_iload cx dL_law_632 rfl ?_
      refine a_if_eq cx (tgt := 641) dL_law_634 (by decide) (fun c_634 => ?_) (fun c_634 => ?_)
      · refine a_lconst cx (v := 0) dL_law_641 (by decide) ?_
        refine a_lcmp cx dL_law_642 ?_
        refine a_if_eq cx (tgt := 648) dL_law_643 (by decide) (fun c_643 => ?_) (fun c_643 => (c_643 (by rw [va_up_self, ha, ← hw, if_pos c_634]; exact lg_self _)).elim)
        refine a_goto cx (tgt := 1558) dL_law_648 (by decide) ?_
        exact a_lv lwV_sub (a_wide (by omega) (by omega) (kk _ _ _ _ _ ⟨hH, hE 0, ⟨_, rL_90⟩, ⟨f2, rL_91.trans hf2⟩⟩))
      · refine a_lconst cx (v := 1) dL_law_637 (by decide) ?_
        refine a_goto cx (tgt := 642) dL_law_638 (by decide) ?_
        refine a_lcmp cx dL_law_642 ?_
        refine a_if_eq cx (tgt := 648) dL_law_643 (by decide) (fun c_643 => ?_) (fun c_643 => (c_643 (by rw [va_up_self, ha, ← hw, if_neg c_634]; exact lg_self _)).elim)
        refine a_goto cx (tgt := 1558) dL_law_648 (by decide) ?_
        exact a_lv lwV_sub (a_wide (by omega) (by omega) (kk _ _ _ _ _ ⟨hH, hE 0, ⟨_, rL_90⟩, ⟨f2, rL_91.trans hf2⟩⟩))
    · replace h2 := h2.symm
      subst h2
      have hj := ((e_setThere hP.R hI (u := (xs (i + 1))) (z := 0) (Or.inl rfl)).1).symm
      have hM1 := hP.2.1
      refine a_istore6 cx dL_law_585 (by decide) (by intro w h; first | (cases h; rfl) | (cases h; assumption) | (cases h; done)) ?_
      refine a_aload_n cx dL_law_587 rfl rfl ?_
      refine a_arg cx hX hbl hbA 1 i (by decide) (by omega) (by omega) rfl rfl dL_law_588 dL_law_589 dL_law_591 dL_law_592 dL_law_593 ?_
      refine a_arg cx hX hbl hbA 2 i (by decide) (by omega) (by omega) rfl rfl dL_law_594 dL_law_595 dL_law_597 dL_law_598 dL_law_599 ?_
      refine a_if_eq cx (tgt := 607) dL_law_600 (by decide) (fun c_600 => ?_) (fun c_600 => (c_600 c_573).elim)
      refine a_iconst cx (v := 0) dL_law_607 (by decide) ?_
      refine a_callV cx 2 (sp_X4_setThere hH hP.mm hM1 (Or.inl rfl)) (M_obj hH hP.mm) rfl ml_L_131 im_X4_setThere se_X4_setThere ini_X4 cd_X4_setThere rfl rfl (by decide +kernel) rfl rfl ⟨(Nat.le_of_ble_eq_true rfl), (Nat.le_of_ble_eq_true rfl)⟩ (Nat.le_of_ble_eq_true rfl) dL_law_608 ⟨show _ ≤ 603072 by omega, show _ ≤ 7211114 by omega⟩ (fun _ _ _ h => h.elim) (fun v8 ad8 τ8 hQ => ?_)
      obtain ⟨⟨w, rfl, hw⟩, h2, hH⟩ := hQ
      replace h2 := h2.symm
      subst h2
      rw [hj, if_neg hk] at hH
      refine a_istore7 cx dL_law_611 (by decide) (by intro w h; first | (cases h; rfl) | (cases h; assumption) | (cases h; done)) ?_
      refine a_aload_n cx dL_law_613 rfl rfl ?_
      refine a_callV cx 0 (sp_X4_thrown hH hP.mm) (M_obj hH hP.mm) rfl ml_L_108 im_X4_thrown se_X4_thrown ini_X4 cd_X4_thrown rfl rfl (by decide +kernel) rfl rfl ⟨(Nat.le_of_ble_eq_true rfl), (Nat.le_of_ble_eq_true rfl)⟩ (Nat.le_of_ble_eq_true rfl) dL_law_614 ⟨show _ ≤ 603072 by omega, show _ ≤ 7211114 by omega⟩ (fun _ _ _ h => h.elim) (fun v8 ad8 τ8 hQ => ?_)
      obtain ⟨rfl, h2, h3⟩ := hQ
      replace h2 := h2.symm
      subst h2
      replace h3 := h3.symm
      subst h3
      refine a_iload cx dL_law_617 rfl ?_
      refine a_icmp_eq cx (tgt := 624) dL_law_619 (by decide) (fun c_619 => ?_) (fun c_619 => (c_619 up2_eq).elim)
      refine a_iload cx dL_law_624 rfl ?_
      refine a_if_ne cx (tgt := 648) dL_law_626 (by decide) (fun c_626 => ?_) (fun c_626 => (hk c_626).elim)
      refine a_goto cx (tgt := 1558) dL_law_648 (by decide) ?_
      exact a_lv lwV_sub (a_wide (by omega) (by omega) (kk _ _ _ _ _ ⟨hH, hP.no _, ⟨f, hf⟩, ⟨f2, hf2⟩⟩))
  · refine a_iconst cx (v := 1) dL_law_576 (by decide) ?_
    refine a_goto cx (tgt := 581) dL_law_577 (by decide) ?_
    refine a_aload_n cx dL_law_581 rfl rfl ?_
    refine a_callSH cx 4 (sp_L_setThere hH hI hf (Or.inr rfl) hP.b6) ml_L_128 st_L_setThere ini_L cd_L_setThere rfl rfl (by decide +kernel) rfl rfl ⟨(Nat.le_of_ble_eq_true rfl), (Nat.le_of_ble_eq_true rfl)⟩ (Nat.le_of_ble_eq_true rfl) dL_law_582 ⟨show _ ≤ 603072 by omega, show _ ≤ 7211114 by omega⟩ (fun _ _ _ h => h.elim) (fun v9 ad9 τ9 hQ => ?_)
    obtain ⟨rfl, hQ⟩ := hQ
    rcases hQ with ⟨hk, had, hH⟩ | ⟨hk, h2, hH⟩
    · replace had := had.symm
      subst had
      obtain ⟨hM1, hj, ha, hE⟩ := E_setThere hP (Or.inr rfl) hk
      refine a_istore6 cx dL_law_585 (by decide) (by intro w h; first | (cases h; rfl) | (cases h; assumption) | (cases h; done)) ?_
      refine a_aload_n cx dL_law_587 rfl rfl ?_
      refine a_arg cx hX hbl hbA 1 i (by decide) (by omega) (by omega) rfl rfl dL_law_588 dL_law_589 dL_law_591 dL_law_592 dL_law_593 ?_
      refine a_arg cx hX hbl hbA 2 i (by decide) (by omega) (by omega) rfl rfl dL_law_594 dL_law_595 dL_law_597 dL_law_598 dL_law_599 ?_
      refine a_if_eq cx (tgt := 607) dL_law_600 (by decide) (fun c_600 => (c_573 c_600).elim) (fun c_600 => ?_)
      refine a_iconst cx (v := 1) dL_law_603 (by decide) ?_
      refine a_goto cx (tgt := 608) dL_law_604 (by decide) ?_
      refine a_callV cx 2 (sp_X4_setThere hH (hE 0).mm hM1 (Or.inr rfl)) (M_obj hH (hE 0).mm) rfl ml_L_131 im_X4_setThere se_X4_setThere ini_X4 cd_X4_setThere rfl rfl (by decide +kernel) rfl rfl ⟨(Nat.le_of_ble_eq_true rfl), (Nat.le_of_ble_eq_true rfl)⟩ (Nat.le_of_ble_eq_true rfl) dL_law_608 ⟨show _ ≤ 603072 by omega, show _ ≤ 7211114 by omega⟩ (fun _ _ _ h => h.elim) (fun v8 ad8 τ8 hQ => ?_)
      obtain ⟨⟨w, rfl, hw⟩, h2, hH⟩ := hQ
      replace h2 := h2.symm
      subst h2
      replace hw := hw hj
      rw [if_pos hj, hj] at hH
      have hf9 := (hH.2 90 (by decide)).trans rL_90
      refine a_istore7 cx dL_law_611 (by decide) (by intro w h; first | (cases h; rfl) | (cases h; assumption) | (cases h; done)) ?_
      refine a_aload_n cx dL_law_613 rfl rfl ?_
      refine a_callV cx 0 (sp_X4_thrown hH (hE 0).mm) (M_obj hH (hE 0).mm) rfl ml_L_108 im_X4_thrown se_X4_thrown ini_X4 cd_X4_thrown rfl rfl (by decide +kernel) rfl rfl ⟨(Nat.le_of_ble_eq_true rfl), (Nat.le_of_ble_eq_true rfl)⟩ (Nat.le_of_ble_eq_true rfl) dL_law_614 ⟨show _ ≤ 603072 by omega, show _ ≤ 7211114 by omega⟩ (fun _ _ _ h => h.elim) (fun v8 ad8 τ8 hQ => ?_)
      obtain ⟨rfl, h2, h3⟩ := hQ
      replace h2 := h2.symm
      subst h2
      replace h3 := h3.symm
      subst h3
      refine a_iload cx dL_law_617 rfl ?_
      refine a_icmp_eq cx (tgt := 624) dL_law_619 (by decide) (fun c_619 => ?_) (fun c_619 => (c_619 (up2_eq.trans hk.symm)).elim)
      refine a_iload cx dL_law_624 rfl ?_
      refine a_if_ne cx (tgt := 648) dL_law_626 (by decide) (fun c_626 => (c_626 hk).elim) (fun c_626 => ?_)
      refine a_aload_n cx dL_law_629 rfl rfl ?_
      refine a_iconst cx (v := 0) dL_law_630 (by decide) ?_
      refine a_lld cx (0) hf9 (rfl) ((by decide)) (by decide) dL_law_631 ?_
      refine a_iload cx dL_law_632 rfl ?_
      refine a_if_eq cx (tgt := 641) dL_law_634 (by decide) (fun c_634 => ?_) (fun c_634 => ?_)
      · refine a_lconst cx (v := 0) dL_law_641 (by decide) ?_
        refine a_lcmp cx dL_law_642 ?_
        refine a_if_eq cx (tgt := 648) dL_law_643 (by decide) (fun c_643 => ?_) (fun c_643 => (c_643 (by rw [va_up_self, ha, ← hw, if_pos c_634]; exact lg_self _)).elim)
        refine a_goto cx (tgt := 1558) dL_law_648 (by decide) ?_
        exact a_lv lwV_sub (a_wide (by omega) (by omega) (kk _ _ _ _ _ ⟨hH, hE 0, ⟨_, rL_90⟩, ⟨f2, rL_91.trans hf2⟩⟩))
      · refine a_lconst cx (v := 1) dL_law_637 (by decide) ?_
        refine a_goto cx (tgt := 642) dL_law_638 (by decide) ?_
        refine a_lcmp cx dL_law_642 ?_
        refine a_if_eq cx (tgt := 648) dL_law_643 (by decide) (fun c_643 => ?_) (fun c_643 => (c_643 (by rw [va_up_self, ha, ← hw, if_neg c_634]; exact lg_self _)).elim)
        refine a_goto cx (tgt := 1558) dL_law_648 (by decide) ?_
        exact a_lv lwV_sub (a_wide (by omega) (by omega) (kk _ _ _ _ _ ⟨hH, hE 0, ⟨_, rL_90⟩, ⟨f2, rL_91.trans hf2⟩⟩))
    · replace h2 := h2.symm
      subst h2
      have hj := ((e_setThere hP.R hI (u := (xs (i + 1))) (z := 0) (Or.inl rfl)).1).symm
      have hM1 := hP.2.1
      refine a_istore6 cx dL_law_585 (by decide) (by intro w h; first | (cases h; rfl) | (cases h; assumption) | (cases h; done)) ?_
      refine a_aload_n cx dL_law_587 rfl rfl ?_
      refine a_arg cx hX hbl hbA 1 i (by decide) (by omega) (by omega) rfl rfl dL_law_588 dL_law_589 dL_law_591 dL_law_592 dL_law_593 ?_
      refine a_arg cx hX hbl hbA 2 i (by decide) (by omega) (by omega) rfl rfl dL_law_594 dL_law_595 dL_law_597 dL_law_598 dL_law_599 ?_
      refine a_if_eq cx (tgt := 607) dL_law_600 (by decide) (fun c_600 => (c_573 c_600).elim) (fun c_600 => ?_)
      refine a_iconst cx (v := 1) dL_law_603 (by decide) ?_
      refine a_goto cx (tgt := 608) dL_law_604 (by decide) ?_
      refine a_callV cx 2 (sp_X4_setThere hH hP.mm hM1 (Or.inr rfl)) (M_obj hH hP.mm) rfl ml_L_131 im_X4_setThere se_X4_setThere ini_X4 cd_X4_setThere rfl rfl (by decide +kernel) rfl rfl ⟨(Nat.le_of_ble_eq_true rfl), (Nat.le_of_ble_eq_true rfl)⟩ (Nat.le_of_ble_eq_true rfl) dL_law_608 ⟨show _ ≤ 603072 by omega, show _ ≤ 7211114 by omega⟩ (fun _ _ _ h => h.elim) (fun v8 ad8 τ8 hQ => ?_)
      obtain ⟨⟨w, rfl, hw⟩, h2, hH⟩ := hQ
      replace h2 := h2.symm
      subst h2
      rw [hj, if_neg hk] at hH
      refine a_istore7 cx dL_law_611 (by decide) (by intro w h; first | (cases h; rfl) | (cases h; assumption) | (cases h; done)) ?_
      refine a_aload_n cx dL_law_613 rfl rfl ?_
      refine a_callV cx 0 (sp_X4_thrown hH hP.mm) (M_obj hH hP.mm) rfl ml_L_108 im_X4_thrown se_X4_thrown ini_X4 cd_X4_thrown rfl rfl (by decide +kernel) rfl rfl ⟨(Nat.le_of_ble_eq_true rfl), (Nat.le_of_ble_eq_true rfl)⟩ (Nat.le_of_ble_eq_true rfl) dL_law_614 ⟨show _ ≤ 603072 by omega, show _ ≤ 7211114 by omega⟩ (fun _ _ _ h => h.elim) (fun v8 ad8 τ8 hQ => ?_)
      obtain ⟨rfl, h2, h3⟩ := hQ
      replace h2 := h2.symm
      subst h2
      replace h3 := h3.symm
      subst h3
      refine a_iload cx dL_law_617 rfl ?_
      refine a_icmp_eq cx (tgt := 624) dL_law_619 (by decide) (fun c_619 => ?_) (fun c_619 => (c_619 up2_eq).elim)
      refine a_iload cx dL_law_624 rfl ?_
      refine a_if_ne cx (tgt := 648) dL_law_626 (by decide) (fun c_626 => ?_) (fun c_626 => (hk c_626).elim)
      refine a_goto cx (tgt := 1558) dL_law_648 (by decide) ?_
      exact a_lv lwV_sub (a_wide (by omega) (by omega) (kk _ _ _ _ _ ⟨hH, hP.no _, ⟨f, hf⟩, ⟨f2, hf2⟩⟩))

set_option maxHeartbeats 4000000 in
set_option maxRecDepth 100000 in
/-- the law: bring -/
theorem lw_bring {l : Launch} {g : GW} {p : Program} {e : Env} {s : State} {m : MethodId} {args : Array Value} {below : List Frame} {meth : Method} {c : Code} {A : Nat → Prop} {Q : State → Prop} {ad : AD} {τ : RH} {cells slots b L i : Nat} {xs : Nat → Int32} {Lv : Nat → Bool} {C : ME} {ρ : RH} (cx : Cx l g p s m args meth c A cL_law 9 RL) (hX : va_X b L xs s s.heap) (hbl : b < s.heap.size) (hbA : ¬ A b) (hL : L ≤ 3072) (hi : i + 6 ≤ L) (hS : lwI g ad Lv C ρ τ) (hc : cells + 1000 ≤ 603072) (hs : slots + 10000 ≤ 7211114) (kk : ∀ ad' τ' Lv' C' ρ', lwI g ad' Lv' C' ρ' τ' → AW l g p e room_1 s m args below meth c A 9 Q ad' τ' (cells + 1000) (slots + 10000) 1558 (lwV b ad' i) []) : AW l g p e room_1 s m args below meth c A 9 Q ad τ cells slots 651 (lwV b ad i) [] := by
  obtain ⟨hH, hP, ⟨f, hf⟩, ⟨f2, hf2⟩⟩ := hS
  have hI := hP.1
  have hO := (H_lines hH hI).1
  unfold lwV
  refine a_aload_n cx dL_law_651 rfl rfl ?_
  refine a_arg cx hX hbl hbA 1 i (by decide) (by omega) (by omega) rfl rfl dL_law_652 dL_law_653 dL_law_655 dL_law_656 dL_law_657 ?_
  refine a_arg cx hX hbl hbA 2 i (by decide) (by omega) (by omega) rfl rfl dL_law_658 dL_law_659 dL_law_661 dL_law_662 dL_law_663 ?_
  refine a_aload_n cx dL_law_664 rfl rfl ?_
  refine a_callSH cx 4 (sp_L_bring hH hI hf) ml_L_132 st_L_bring ini_L cd_L_bring rfl rfl (by decide +kernel) rfl rfl ⟨(Nat.le_of_ble_eq_true rfl), (Nat.le_of_ble_eq_true rfl)⟩ (Nat.le_of_ble_eq_true rfl) dL_law_665 ⟨show _ ≤ 603072 by omega, show _ ≤ 7211114 by omega⟩ (fun _ _ _ h => h.elim) (fun v9 ad9 τ9 hQ => ?_)
  obtain ⟨rfl, hQ⟩ := hQ
  rcases hQ with ⟨hk, had, hH⟩ | ⟨hk, h2, hH⟩
  · replace had := had.symm
    subst had
    obtain ⟨hM1, hj, ha, hE⟩ := E_bring hP hk
    refine a_istore6 cx dL_law_668 (by decide) (by intro w h; first | (cases h; rfl) | (cases h; assumption) | (cases h; done)) ?_
    refine a_aload_n cx dL_law_670 rfl rfl ?_
    refine a_arg cx hX hbl hbA 1 i (by decide) (by omega) (by omega) rfl rfl dL_law_671 dL_law_672 dL_law_674 dL_law_675 dL_law_676 ?_
    refine a_arg cx hX hbl hbA 2 i (by decide) (by omega) (by omega) rfl rfl dL_law_677 dL_law_678 dL_law_680 dL_law_681 dL_law_682 ?_
    refine a_callV cx 2 (sp_X4_bring hH (hE 0).mm hM1) (M_obj hH (hE 0).mm) rfl ml_L_134 im_X4_bring se_X4_bring ini_X4 cd_X4_bring rfl rfl (by decide +kernel) rfl rfl ⟨(Nat.le_of_ble_eq_true rfl), (Nat.le_of_ble_eq_true rfl)⟩ (Nat.le_of_ble_eq_true rfl) dL_law_683 ⟨show _ ≤ 603072 by omega, show _ ≤ 7211114 by omega⟩ (fun _ _ _ h => h.elim) (fun v8 ad8 τ8 hQ => ?_)
    obtain ⟨⟨w, rfl, hw⟩, h2, hH⟩ := hQ
    replace h2 := h2.symm
    subst h2
    replace hw := hw hj
    rw [if_pos hj, hj] at hH
    have hf9 := (hH.2 90 (by decide)).trans rL_90
    refine a_istore7 cx dL_law_686 (by decide) (by intro w h; first | (cases h; rfl) | (cases h; assumption) | (cases h; done)) ?_
    refine a_aload_n cx dL_law_688 rfl rfl ?_
    refine a_callV cx 0 (sp_X4_thrown hH (hE 0).mm) (M_obj hH (hE 0).mm) rfl ml_L_108 im_X4_thrown se_X4_thrown ini_X4 cd_X4_thrown rfl rfl (by decide +kernel) rfl rfl ⟨(Nat.le_of_ble_eq_true rfl), (Nat.le_of_ble_eq_true rfl)⟩ (Nat.le_of_ble_eq_true rfl) dL_law_689 ⟨show _ ≤ 603072 by omega, show _ ≤ 7211114 by omega⟩ (fun _ _ _ h => h.elim) (fun v8 ad8 τ8 hQ => ?_)
    obtain ⟨rfl, h2, h3⟩ := hQ
    replace h2 := h2.symm
    subst h2
    replace h3 := h3.symm
    subst h3
    refine a_iload cx dL_law_692 rfl ?_
    refine a_icmp_eq cx (tgt := 699) dL_law_694 (by decide) (fun c_694 => ?_) (fun c_694 => (c_694 (up2_eq.trans hk.symm)).elim)
    refine a_iload cx dL_law_699 rfl ?_
    refine a_if_ne cx (tgt := 716) dL_law_701 (by decide) (fun c_701 => (c_701 hk).elim) (fun c_701 => ?_)
    refine a_aload_n cx dL_law_704 rfl rfl ?_
    refine a_iconst cx (v := 0) dL_law_705 (by decide) ?_
    refine a_lld cx (0) hf9 (rfl) ((by decide)) (by decide) dL_law_706 ?_
    refine a_iload cx dL_law_707 rfl ?_
    refine a_i2l cx dL_law_709 ?_
    refine a_lcmp cx dL_law_710 ?_
    refine a_if_eq cx (tgt := 716) dL_law_711 (by decide) (fun c_711 => ?_) (fun c_711 => (c_711 (lg_of (ha.trans hw.symm))).elim)
    refine a_goto cx (tgt := 1558) dL_law_716 (by decide) ?_
    exact a_lv lwV_sub (a_wide (by omega) (by omega) (kk _ _ _ _ _ ⟨hH, hE 0, ⟨_, rL_90⟩, ⟨f2, rL_91.trans hf2⟩⟩))
  · replace h2 := h2.symm
    subst h2
    have hj := ((e_bring hP.R hI hP.cC (j := (xs (i + 1))) (x := (xs (i + 2)))).1).symm
    have hM1 := hP.2.1
    refine a_istore6 cx dL_law_668 (by decide) (by intro w h; first | (cases h; rfl) | (cases h; assumption) | (cases h; done)) ?_
    refine a_aload_n cx dL_law_670 rfl rfl ?_
    refine a_arg cx hX hbl hbA 1 i (by decide) (by omega) (by omega) rfl rfl dL_law_671 dL_law_672 dL_law_674 dL_law_675 dL_law_676 ?_
    refine a_arg cx hX hbl hbA 2 i (by decide) (by omega) (by omega) rfl rfl dL_law_677 dL_law_678 dL_law_680 dL_law_681 dL_law_682 ?_
    refine a_callV cx 2 (sp_X4_bring hH hP.mm hM1) (M_obj hH hP.mm) rfl ml_L_134 im_X4_bring se_X4_bring ini_X4 cd_X4_bring rfl rfl (by decide +kernel) rfl rfl ⟨(Nat.le_of_ble_eq_true rfl), (Nat.le_of_ble_eq_true rfl)⟩ (Nat.le_of_ble_eq_true rfl) dL_law_683 ⟨show _ ≤ 603072 by omega, show _ ≤ 7211114 by omega⟩ (fun _ _ _ h => h.elim) (fun v8 ad8 τ8 hQ => ?_)
    obtain ⟨⟨w, rfl, hw⟩, h2, hH⟩ := hQ
    replace h2 := h2.symm
    subst h2
    rw [hj, if_neg hk] at hH
    refine a_istore7 cx dL_law_686 (by decide) (by intro w h; first | (cases h; rfl) | (cases h; assumption) | (cases h; done)) ?_
    refine a_aload_n cx dL_law_688 rfl rfl ?_
    refine a_callV cx 0 (sp_X4_thrown hH hP.mm) (M_obj hH hP.mm) rfl ml_L_108 im_X4_thrown se_X4_thrown ini_X4 cd_X4_thrown rfl rfl (by decide +kernel) rfl rfl ⟨(Nat.le_of_ble_eq_true rfl), (Nat.le_of_ble_eq_true rfl)⟩ (Nat.le_of_ble_eq_true rfl) dL_law_689 ⟨show _ ≤ 603072 by omega, show _ ≤ 7211114 by omega⟩ (fun _ _ _ h => h.elim) (fun v8 ad8 τ8 hQ => ?_)
    obtain ⟨rfl, h2, h3⟩ := hQ
    replace h2 := h2.symm
    subst h2
    replace h3 := h3.symm
    subst h3
    refine a_iload cx dL_law_692 rfl ?_
    refine a_icmp_eq cx (tgt := 699) dL_law_694 (by decide) (fun c_694 => ?_) (fun c_694 => (c_694 up2_eq).elim)
    refine a_iload cx dL_law_699 rfl ?_
    refine a_if_ne cx (tgt := 716) dL_law_701 (by decide) (fun c_701 => ?_) (fun c_701 => (hk c_701).elim)
    refine a_goto cx (tgt := 1558) dL_law_716 (by decide) ?_
    exact a_lv lwV_sub (a_wide (by omega) (by omega) (kk _ _ _ _ _ ⟨hH, hP.no _, ⟨f, hf⟩, ⟨f2, hf2⟩⟩))

set_option maxHeartbeats 4000000 in
set_option maxRecDepth 100000 in
/-- the law: put -/
theorem lw_put {l : Launch} {g : GW} {p : Program} {e : Env} {s : State} {m : MethodId} {args : Array Value} {below : List Frame} {meth : Method} {c : Code} {A : Nat → Prop} {Q : State → Prop} {ad : AD} {τ : RH} {cells slots b L i : Nat} {xs : Nat → Int32} {Lv : Nat → Bool} {C : ME} {ρ : RH} (cx : Cx l g p s m args meth c A cL_law 9 RL) (hX : va_X b L xs s s.heap) (hbl : b < s.heap.size) (hbA : ¬ A b) (hL : L ≤ 3072) (hi : i + 6 ≤ L) (hS : lwI g ad Lv C ρ τ) (hc : cells + 1000 ≤ 603072) (hs : slots + 10000 ≤ 7211114) (kk : ∀ ad' τ' Lv' C' ρ', lwI g ad' Lv' C' ρ' τ' → AW l g p e room_1 s m args below meth c A 9 Q ad' τ' (cells + 1000) (slots + 10000) 1558 (lwV b ad' i) []) : AW l g p e room_1 s m args below meth c A 9 Q ad τ cells slots 719 (lwV b ad i) [] := by
  obtain ⟨hH, hP, ⟨f, hf⟩, ⟨f2, hf2⟩⟩ := hS
  have hI := hP.1
  have hO := (H_lines hH hI).1
  unfold lwV
  obtain ⟨x2, hx2⟩ : ∃ x2, x2 = ((xs (i + 2)).toUInt32 % 65536).toInt32 := ⟨_, rfl⟩
  have hx3 : vp_nar .char x2 = x2 := by rw [hx2]; exact ch_ok _
  refine a_aload_n cx dL_law_719 rfl rfl ?_
  refine a_arg cx hX hbl hbA 1 i (by decide) (by omega) (by omega) rfl rfl dL_law_720 dL_law_721 dL_law_723 dL_law_724 dL_law_725 ?_
  refine a_arg cx hX hbl hbA 2 i (by decide) (by omega) (by omega) rfl rfl dL_law_726 dL_law_727 dL_law_729 dL_law_730 dL_law_731 ?_
  refine a_i2c cx dL_law_732 hx2.symm ?_
  refine a_aload_n cx dL_law_733 rfl rfl ?_
  refine a_callSH cx 4 (sp_L_put hH hI hf hx3 hP.c8) ml_L_135 st_L_put ini_L cd_L_put rfl rfl (by decide +kernel) rfl rfl ⟨(Nat.le_of_ble_eq_true rfl), (Nat.le_of_ble_eq_true rfl)⟩ (Nat.le_of_ble_eq_true rfl) dL_law_734 ⟨show _ ≤ 603072 by omega, show _ ≤ 7211114 by omega⟩ (fun _ _ _ h => h.elim) (fun v9 ad9 τ9 hQ => ?_)
  obtain ⟨rfl, hQ⟩ := hQ
  rcases hQ with ⟨hk, had, hH⟩ | ⟨hk, h2, hH⟩
  · replace had := had.symm
    subst had
    obtain ⟨hM1, hj, ha, hE⟩ := E_put hP hk
    refine a_istore6 cx dL_law_737 (by decide) (by intro w h; first | (cases h; rfl) | (cases h; assumption) | (cases h; done)) ?_
    refine a_aload_n cx dL_law_739 rfl rfl ?_
    refine a_arg cx hX hbl hbA 1 i (by decide) (by omega) (by omega) rfl rfl dL_law_740 dL_law_741 dL_law_743 dL_law_744 dL_law_745 ?_
    refine a_arg cx hX hbl hbA 2 i (by decide) (by omega) (by omega) rfl rfl dL_law_746 dL_law_747 dL_law_749 dL_law_750 dL_law_751 ?_
    refine a_i2c cx dL_law_752 hx2.symm ?_
    refine a_callV cx 2 (sp_X4_put hH (hE 0).mm hM1 (hP.c81p hk)) (M_obj hH (hE 0).mm) rfl ml_L_138 im_X4_put se_X4_put ini_X4 cd_X4_put rfl rfl (by decide +kernel) rfl rfl ⟨(Nat.le_of_ble_eq_true rfl), (Nat.le_of_ble_eq_true rfl)⟩ (Nat.le_of_ble_eq_true rfl) dL_law_753 ⟨show _ ≤ 603072 by omega, show _ ≤ 7211114 by omega⟩ (fun _ _ _ h => h.elim) (fun v8 ad8 τ8 hQ => ?_)
    obtain ⟨⟨w, rfl, hw⟩, h2, hH⟩ := hQ
    replace h2 := h2.symm
    subst h2
    replace hw := hw hj
    rw [if_pos hj, hj] at hH
    have hf9 := (hH.2 90 (by decide)).trans rL_90
    refine a_istore7 cx dL_law_756 (by decide) (by intro w h; first | (cases h; rfl) | (cases h; assumption) | (cases h; done)) ?_
    refine a_aload_n cx dL_law_758 rfl rfl ?_
    refine a_callV cx 0 (sp_X4_thrown hH (hE 0).mm) (M_obj hH (hE 0).mm) rfl ml_L_108 im_X4_thrown se_X4_thrown ini_X4 cd_X4_thrown rfl rfl (by decide +kernel) rfl rfl ⟨(Nat.le_of_ble_eq_true rfl), (Nat.le_of_ble_eq_true rfl)⟩ (Nat.le_of_ble_eq_true rfl) dL_law_759 ⟨show _ ≤ 603072 by omega, show _ ≤ 7211114 by omega⟩ (fun _ _ _ h => h.elim) (fun v8 ad8 τ8 hQ => ?_)
    obtain ⟨rfl, h2, h3⟩ := hQ
    replace h2 := h2.symm
    subst h2
    replace h3 := h3.symm
    subst h3
    refine a_iload cx dL_law_762 rfl ?_
    refine a_icmp_eq cx (tgt := 769) dL_law_764 (by decide) (fun c_764 => ?_) (fun c_764 => (c_764 (up2_eq.trans hk.symm)).elim)
    refine a_iload cx dL_law_769 rfl ?_
    refine a_if_ne cx (tgt := 786) dL_law_771 (by decide) (fun c_771 => (c_771 hk).elim) (fun c_771 => ?_)
    refine a_aload_n cx dL_law_774 rfl rfl ?_
    refine a_iconst cx (v := 0) dL_law_775 (by decide) ?_
    refine a_lld cx (0) hf9 (rfl) ((by decide)) (by decide) dL_law_776 ?_
    refine a_iload cx dL_law_777 rfl ?_
    refine a_i2l cx dL_law_779 ?_
    refine a_lcmp cx dL_law_780 ?_
    refine a_if_eq cx (tgt := 786) dL_law_781 (by decide) (fun c_781 => ?_) (fun c_781 => (c_781 (lg_of (ha.trans hw.symm))).elim)
    refine a_goto cx (tgt := 1558) dL_law_786 (by decide) ?_
    exact a_lv lwV_sub (a_wide (by omega) (by omega) (kk _ _ _ _ _ ⟨hH, hE 0, ⟨_, rL_90⟩, ⟨f2, rL_91.trans hf2⟩⟩))
  · replace h2 := h2.symm
    subst h2
    have hj := ((e_put hP.R hI hP.cC (j := (xs (i + 1))) (x := x2)).1).symm
    have hM1 := hP.2.1
    refine a_istore6 cx dL_law_737 (by decide) (by intro w h; first | (cases h; rfl) | (cases h; assumption) | (cases h; done)) ?_
    refine a_aload_n cx dL_law_739 rfl rfl ?_
    refine a_arg cx hX hbl hbA 1 i (by decide) (by omega) (by omega) rfl rfl dL_law_740 dL_law_741 dL_law_743 dL_law_744 dL_law_745 ?_
    refine a_arg cx hX hbl hbA 2 i (by decide) (by omega) (by omega) rfl rfl dL_law_746 dL_law_747 dL_law_749 dL_law_750 dL_law_751 ?_
    refine a_i2c cx dL_law_752 hx2.symm ?_
    refine a_callV cx 2 (sp_X4_put hH hP.mm hM1 hP.c81) (M_obj hH hP.mm) rfl ml_L_138 im_X4_put se_X4_put ini_X4 cd_X4_put rfl rfl (by decide +kernel) rfl rfl ⟨(Nat.le_of_ble_eq_true rfl), (Nat.le_of_ble_eq_true rfl)⟩ (Nat.le_of_ble_eq_true rfl) dL_law_753 ⟨show _ ≤ 603072 by omega, show _ ≤ 7211114 by omega⟩ (fun _ _ _ h => h.elim) (fun v8 ad8 τ8 hQ => ?_)
    obtain ⟨⟨w, rfl, hw⟩, h2, hH⟩ := hQ
    replace h2 := h2.symm
    subst h2
    rw [hj, if_neg hk] at hH
    refine a_istore7 cx dL_law_756 (by decide) (by intro w h; first | (cases h; rfl) | (cases h; assumption) | (cases h; done)) ?_
    refine a_aload_n cx dL_law_758 rfl rfl ?_
    refine a_callV cx 0 (sp_X4_thrown hH hP.mm) (M_obj hH hP.mm) rfl ml_L_108 im_X4_thrown se_X4_thrown ini_X4 cd_X4_thrown rfl rfl (by decide +kernel) rfl rfl ⟨(Nat.le_of_ble_eq_true rfl), (Nat.le_of_ble_eq_true rfl)⟩ (Nat.le_of_ble_eq_true rfl) dL_law_759 ⟨show _ ≤ 603072 by omega, show _ ≤ 7211114 by omega⟩ (fun _ _ _ h => h.elim) (fun v8 ad8 τ8 hQ => ?_)
    obtain ⟨rfl, h2, h3⟩ := hQ
    replace h2 := h2.symm
    subst h2
    replace h3 := h3.symm
    subst h3
    refine a_iload cx dL_law_762 rfl ?_
    refine a_icmp_eq cx (tgt := 769) dL_law_764 (by decide) (fun c_764 => ?_) (fun c_764 => (c_764 up2_eq).elim)
    refine a_iload cx dL_law_769 rfl ?_
    refine a_if_ne cx (tgt := 786) dL_law_771 (by decide) (fun c_771 => ?_) (fun c_771 => (hk c_771).elim)
    refine a_goto cx (tgt := 1558) dL_law_786 (by decide) ?_
    exact a_lv lwV_sub (a_wide (by omega) (by omega) (kk _ _ _ _ _ ⟨hH, hP.no _, ⟨f, hf⟩, ⟨f2, hf2⟩⟩))

set_option maxHeartbeats 4000000 in
set_option maxRecDepth 100000 in
/-- the law: life -/
theorem lw_life {l : Launch} {g : GW} {p : Program} {e : Env} {s : State} {m : MethodId} {args : Array Value} {below : List Frame} {meth : Method} {c : Code} {A : Nat → Prop} {Q : State → Prop} {ad : AD} {τ : RH} {cells slots b L i : Nat} {xs : Nat → Int32} {Lv : Nat → Bool} {C : ME} {ρ : RH} (cx : Cx l g p s m args meth c A cL_law 9 RL) (hX : va_X b L xs s s.heap) (hbl : b < s.heap.size) (hbA : ¬ A b) (hL : L ≤ 3072) (hi : i + 6 ≤ L) (hS : lwI g ad Lv C ρ τ) (hc : cells + 1000 ≤ 603072) (hs : slots + 10000 ≤ 7211114) (kk : ∀ ad' τ' Lv' C' ρ', lwI g ad' Lv' C' ρ' τ' → AW l g p e room_1 s m args below meth c A 9 Q ad' τ' (cells + 1000) (slots + 10000) 1558 (lwV b ad' i) []) : AW l g p e room_1 s m args below meth c A 9 Q ad τ cells slots 789 (lwV b ad i) [] := by
  obtain ⟨hH, hP, ⟨f, hf⟩, ⟨f2, hf2⟩⟩ := hS
  have hI := hP.1
  have hO := (H_lines hH hI).1
  unfold lwV
  refine a_aload_n cx dL_law_789 rfl rfl ?_
  refine a_arg cx hX hbl hbA 1 i (by decide) (by omega) (by omega) rfl rfl dL_law_790 dL_law_791 dL_law_793 dL_law_794 dL_law_795 ?_
  refine a_aload_n cx dL_law_796 rfl rfl ?_
  refine a_callSH cx 3 (sp_L_life hH hI hf) ml_L_139 st_L_life ini_L cd_L_life rfl rfl (by decide +kernel) rfl rfl ⟨(Nat.le_of_ble_eq_true rfl), (Nat.le_of_ble_eq_true rfl)⟩ (Nat.le_of_ble_eq_true rfl) dL_law_797 ⟨show _ ≤ 603072 by omega, show _ ≤ 7211114 by omega⟩ (fun _ _ _ h => h.elim) (fun v9 ad9 τ9 hQ => ?_)
  obtain ⟨rfl, hQ⟩ := hQ
  rcases hQ with ⟨hk, had, hH⟩ | ⟨hk, h2, hH⟩
  · replace had := had.symm
    subst had
    have hj := (e_life hP.R hI (j := (xs (i + 1)))).1.symm.trans hk
    have ha := (e_life hP.R hI (j := (xs (i + 1)))).2 hk
    have hM1 := hP.2.1
    have hE := fun x : Int32 => hP.no x
    refine a_istore6 cx dL_law_800 (by decide) (by intro w h; first | (cases h; rfl) | (cases h; assumption) | (cases h; done)) ?_
    refine a_aload_n cx dL_law_802 rfl rfl ?_
    refine a_arg cx hX hbl hbA 1 i (by decide) (by omega) (by omega) rfl rfl dL_law_803 dL_law_804 dL_law_806 dL_law_807 dL_law_808 ?_
    refine a_callV cx 1 (sp_X4_life hH (hE 0).mm hM1) (M_obj hH hP.mm) rfl ml_L_141 im_X4_life se_X4_life ini_X4 cd_X4_life rfl rfl (by decide +kernel) rfl rfl ⟨(Nat.le_of_ble_eq_true rfl), (Nat.le_of_ble_eq_true rfl)⟩ (Nat.le_of_ble_eq_true rfl) dL_law_809 ⟨show _ ≤ 603072 by omega, show _ ≤ 7211114 by omega⟩ (fun _ _ _ h => h.elim) (fun v8 ad8 τ8 hQ => ?_)
    obtain ⟨⟨w, rfl, hw⟩, h2, hH⟩ := hQ
    replace h2 := h2.symm
    subst h2
    replace hw := hw hj
    rw [if_pos hj, hj] at hH
    have hf9 := (hH.2 90 (by decide)).trans rL_90
    refine a_istore7 cx dL_law_812 (by decide) (by intro w h; first | (cases h; rfl) | (cases h; assumption) | (cases h; done)) ?_
    refine a_aload_n cx dL_law_814 rfl rfl ?_
    refine a_callV cx 0 (sp_X4_thrown hH hP.mm) (M_obj hH hP.mm) rfl ml_L_108 im_X4_thrown se_X4_thrown ini_X4 cd_X4_thrown rfl rfl (by decide +kernel) rfl rfl ⟨(Nat.le_of_ble_eq_true rfl), (Nat.le_of_ble_eq_true rfl)⟩ (Nat.le_of_ble_eq_true rfl) dL_law_815 ⟨show _ ≤ 603072 by omega, show _ ≤ 7211114 by omega⟩ (fun _ _ _ h => h.elim) (fun v8 ad8 τ8 hQ => ?_)
    obtain ⟨rfl, h2, h3⟩ := hQ
    replace h2 := h2.symm
    subst h2
    replace h3 := h3.symm
    subst h3
    refine a_iload cx dL_law_818 rfl ?_
    refine a_icmp_eq cx (tgt := 825) dL_law_820 (by decide) (fun c_820 => ?_) (fun c_820 => (c_820 (up2_eq.trans hk.symm)).elim)
    refine a_iload cx dL_law_825 rfl ?_
    refine a_if_ne cx (tgt := 842) dL_law_827 (by decide) (fun c_827 => (c_827 hk).elim) (fun c_827 => ?_)
    refine a_aload_n cx dL_law_830 rfl rfl ?_
    refine a_iconst cx (v := 0) dL_law_831 (by decide) ?_
    refine a_lld cx (0) hf9 (rfl) ((by decide)) (by decide) dL_law_832 ?_
    refine a_iload cx dL_law_833 rfl ?_
    refine a_i2l cx dL_law_835 ?_
    refine a_lcmp cx dL_law_836 ?_
    refine a_if_eq cx (tgt := 842) dL_law_837 (by decide) (fun c_837 => ?_) (fun c_837 => (c_837 (lg_of (ha.trans hw.symm))).elim)
    refine a_goto cx (tgt := 1558) dL_law_842 (by decide) ?_
    exact a_lv lwV_sub (a_wide (by omega) (by omega) (kk _ _ _ _ _ ⟨hH, hE 0, ⟨_, rL_90⟩, ⟨f2, rL_91.trans hf2⟩⟩))
  · replace h2 := h2.symm
    subst h2
    have hj := ((e_life hP.R hI (j := (xs (i + 1)))).1).symm
    have hM1 := hP.2.1
    refine a_istore6 cx dL_law_800 (by decide) (by intro w h; first | (cases h; rfl) | (cases h; assumption) | (cases h; done)) ?_
    refine a_aload_n cx dL_law_802 rfl rfl ?_
    refine a_arg cx hX hbl hbA 1 i (by decide) (by omega) (by omega) rfl rfl dL_law_803 dL_law_804 dL_law_806 dL_law_807 dL_law_808 ?_
    refine a_callV cx 1 (sp_X4_life hH hP.mm hM1) (M_obj hH hP.mm) rfl ml_L_141 im_X4_life se_X4_life ini_X4 cd_X4_life rfl rfl (by decide +kernel) rfl rfl ⟨(Nat.le_of_ble_eq_true rfl), (Nat.le_of_ble_eq_true rfl)⟩ (Nat.le_of_ble_eq_true rfl) dL_law_809 ⟨show _ ≤ 603072 by omega, show _ ≤ 7211114 by omega⟩ (fun _ _ _ h => h.elim) (fun v8 ad8 τ8 hQ => ?_)
    obtain ⟨⟨w, rfl, hw⟩, h2, hH⟩ := hQ
    replace h2 := h2.symm
    subst h2
    rw [hj, if_neg hk] at hH
    refine a_istore7 cx dL_law_812 (by decide) (by intro w h; first | (cases h; rfl) | (cases h; assumption) | (cases h; done)) ?_
    refine a_aload_n cx dL_law_814 rfl rfl ?_
    refine a_callV cx 0 (sp_X4_thrown hH hP.mm) (M_obj hH hP.mm) rfl ml_L_108 im_X4_thrown se_X4_thrown ini_X4 cd_X4_thrown rfl rfl (by decide +kernel) rfl rfl ⟨(Nat.le_of_ble_eq_true rfl), (Nat.le_of_ble_eq_true rfl)⟩ (Nat.le_of_ble_eq_true rfl) dL_law_815 ⟨show _ ≤ 603072 by omega, show _ ≤ 7211114 by omega⟩ (fun _ _ _ h => h.elim) (fun v8 ad8 τ8 hQ => ?_)
    obtain ⟨rfl, h2, h3⟩ := hQ
    replace h2 := h2.symm
    subst h2
    replace h3 := h3.symm
    subst h3
    refine a_iload cx dL_law_818 rfl ?_
    refine a_icmp_eq cx (tgt := 825) dL_law_820 (by decide) (fun c_820 => ?_) (fun c_820 => (c_820 up2_eq).elim)
    refine a_iload cx dL_law_825 rfl ?_
    refine a_if_ne cx (tgt := 842) dL_law_827 (by decide) (fun c_827 => ?_) (fun c_827 => (hk c_827).elim)
    refine a_goto cx (tgt := 1558) dL_law_842 (by decide) ?_
    exact a_lv lwV_sub (a_wide (by omega) (by omega) (kk _ _ _ _ _ ⟨hH, hP.no _, ⟨f, hf⟩, ⟨f2, hf2⟩⟩))

set_option maxHeartbeats 4000000 in
set_option maxRecDepth 100000 in
/-- the law: on -/
theorem lw_on {l : Launch} {g : GW} {p : Program} {e : Env} {s : State} {m : MethodId} {args : Array Value} {below : List Frame} {meth : Method} {c : Code} {A : Nat → Prop} {Q : State → Prop} {ad : AD} {τ : RH} {cells slots b L i : Nat} {xs : Nat → Int32} {Lv : Nat → Bool} {C : ME} {ρ : RH} (cx : Cx l g p s m args meth c A cL_law 9 RL) (hX : va_X b L xs s s.heap) (hbl : b < s.heap.size) (hbA : ¬ A b) (hL : L ≤ 3072) (hi : i + 6 ≤ L) (hS : lwI g ad Lv C ρ τ) (hc : cells + 1000 ≤ 603072) (hs : slots + 10000 ≤ 7211114) (kk : ∀ ad' τ' Lv' C' ρ', lwI g ad' Lv' C' ρ' τ' → AW l g p e room_1 s m args below meth c A 9 Q ad' τ' (cells + 1000) (slots + 10000) 1558 (lwV b ad' i) []) : AW l g p e room_1 s m args below meth c A 9 Q ad τ cells slots 845 (lwV b ad i) [] := by
  obtain ⟨hH, hP, ⟨f, hf⟩, ⟨f2, hf2⟩⟩ := hS
  have hI := hP.1
  have hO := (H_lines hH hI).1
  unfold lwV
  refine a_aload_n cx dL_law_845 rfl rfl ?_
  refine a_arg cx hX hbl hbA 1 i (by decide) (by omega) (by omega) rfl rfl dL_law_846 dL_law_847 dL_law_849 dL_law_850 dL_law_851 ?_
  refine a_aload_n cx dL_law_852 rfl rfl ?_
  refine a_callSH cx 3 (sp_L_on hH hI hf) ml_L_142 st_L_on ini_L cd_L_on rfl rfl (by decide +kernel) rfl rfl ⟨(Nat.le_of_ble_eq_true rfl), (Nat.le_of_ble_eq_true rfl)⟩ (Nat.le_of_ble_eq_true rfl) dL_law_853 ⟨show _ ≤ 603072 by omega, show _ ≤ 7211114 by omega⟩ (fun _ _ _ h => h.elim) (fun v9 ad9 τ9 hQ => ?_)
  obtain ⟨rfl, hQ⟩ := hQ
  rcases hQ with ⟨hk, had, hH⟩ | ⟨hk, h2, hH⟩
  · replace had := had.symm
    subst had
    have hj := (e_on hP.R hI (b := (xs (i + 1)))).1.symm.trans hk
    have ha := (e_on hP.R hI (b := (xs (i + 1)))).2 hk
    have hM1 := hP.2.1
    have hE := fun x : Int32 => hP.no x
    refine a_istore6 cx dL_law_856 (by decide) (by intro w h; first | (cases h; rfl) | (cases h; assumption) | (cases h; done)) ?_
    refine a_aload_n cx dL_law_858 rfl rfl ?_
    refine a_arg cx hX hbl hbA 1 i (by decide) (by omega) (by omega) rfl rfl dL_law_859 dL_law_860 dL_law_862 dL_law_863 dL_law_864 ?_
    refine a_callV cx 1 (sp_X4_on hH (hE 0).mm hM1) (M_obj hH hP.mm) rfl ml_L_144 im_X4_on se_X4_on ini_X4 cd_X4_on rfl rfl (by decide +kernel) rfl rfl ⟨(Nat.le_of_ble_eq_true rfl), (Nat.le_of_ble_eq_true rfl)⟩ (Nat.le_of_ble_eq_true rfl) dL_law_865 ⟨show _ ≤ 603072 by omega, show _ ≤ 7211114 by omega⟩ (fun _ _ _ h => h.elim) (fun v8 ad8 τ8 hQ => ?_)
    obtain ⟨⟨w, rfl, hw⟩, h2, hH⟩ := hQ
    replace h2 := h2.symm
    subst h2
    replace hw := hw hj
    rw [if_pos hj, hj] at hH
    have hf9 := (hH.2 90 (by decide)).trans rL_90
    refine a_istore7 cx dL_law_868 (by decide) (by intro w h; first | (cases h; rfl) | (cases h; assumption) | (cases h; done)) ?_
    refine a_aload_n cx dL_law_870 rfl rfl ?_
    refine a_callV cx 0 (sp_X4_thrown hH hP.mm) (M_obj hH hP.mm) rfl ml_L_108 im_X4_thrown se_X4_thrown ini_X4 cd_X4_thrown rfl rfl (by decide +kernel) rfl rfl ⟨(Nat.le_of_ble_eq_true rfl), (Nat.le_of_ble_eq_true rfl)⟩ (Nat.le_of_ble_eq_true rfl) dL_law_871 ⟨show _ ≤ 603072 by omega, show _ ≤ 7211114 by omega⟩ (fun _ _ _ h => h.elim) (fun v8 ad8 τ8 hQ => ?_)
    obtain ⟨rfl, h2, h3⟩ := hQ
    replace h2 := h2.symm
    subst h2
    replace h3 := h3.symm
    subst h3
    refine a_iload cx dL_law_874 rfl ?_
    refine a_icmp_eq cx (tgt := 881) dL_law_876 (by decide) (fun c_876 => ?_) (fun c_876 => (c_876 (up2_eq.trans hk.symm)).elim)
    refine a_iload cx dL_law_881 rfl ?_
    refine a_if_ne cx (tgt := 898) dL_law_883 (by decide) (fun c_883 => (c_883 hk).elim) (fun c_883 => ?_)
    refine a_aload_n cx dL_law_886 rfl rfl ?_
    refine a_iconst cx (v := 0) dL_law_887 (by decide) ?_
    refine a_lld cx (0) hf9 (rfl) ((by decide)) (by decide) dL_law_888 ?_
    refine a_iload cx dL_law_889 rfl ?_
    refine a_i2l cx dL_law_891 ?_
    refine a_lcmp cx dL_law_892 ?_
    refine a_if_eq cx (tgt := 898) dL_law_893 (by decide) (fun c_893 => ?_) (fun c_893 => (c_893 (lg_of (ha.trans hw.symm))).elim)
    refine a_goto cx (tgt := 1558) dL_law_898 (by decide) ?_
    exact a_lv lwV_sub (a_wide (by omega) (by omega) (kk _ _ _ _ _ ⟨hH, hE 0, ⟨_, rL_90⟩, ⟨f2, rL_91.trans hf2⟩⟩))
  · replace h2 := h2.symm
    subst h2
    have hj := ((e_on hP.R hI (b := (xs (i + 1)))).1).symm
    have hM1 := hP.2.1
    refine a_istore6 cx dL_law_856 (by decide) (by intro w h; first | (cases h; rfl) | (cases h; assumption) | (cases h; done)) ?_
    refine a_aload_n cx dL_law_858 rfl rfl ?_
    refine a_arg cx hX hbl hbA 1 i (by decide) (by omega) (by omega) rfl rfl dL_law_859 dL_law_860 dL_law_862 dL_law_863 dL_law_864 ?_
    refine a_callV cx 1 (sp_X4_on hH hP.mm hM1) (M_obj hH hP.mm) rfl ml_L_144 im_X4_on se_X4_on ini_X4 cd_X4_on rfl rfl (by decide +kernel) rfl rfl ⟨(Nat.le_of_ble_eq_true rfl), (Nat.le_of_ble_eq_true rfl)⟩ (Nat.le_of_ble_eq_true rfl) dL_law_865 ⟨show _ ≤ 603072 by omega, show _ ≤ 7211114 by omega⟩ (fun _ _ _ h => h.elim) (fun v8 ad8 τ8 hQ => ?_)
    obtain ⟨⟨w, rfl, hw⟩, h2, hH⟩ := hQ
    replace h2 := h2.symm
    subst h2
    rw [hj, if_neg hk] at hH
    refine a_istore7 cx dL_law_868 (by decide) (by intro w h; first | (cases h; rfl) | (cases h; assumption) | (cases h; done)) ?_
    refine a_aload_n cx dL_law_870 rfl rfl ?_
    refine a_callV cx 0 (sp_X4_thrown hH hP.mm) (M_obj hH hP.mm) rfl ml_L_108 im_X4_thrown se_X4_thrown ini_X4 cd_X4_thrown rfl rfl (by decide +kernel) rfl rfl ⟨(Nat.le_of_ble_eq_true rfl), (Nat.le_of_ble_eq_true rfl)⟩ (Nat.le_of_ble_eq_true rfl) dL_law_871 ⟨show _ ≤ 603072 by omega, show _ ≤ 7211114 by omega⟩ (fun _ _ _ h => h.elim) (fun v8 ad8 τ8 hQ => ?_)
    obtain ⟨rfl, h2, h3⟩ := hQ
    replace h2 := h2.symm
    subst h2
    replace h3 := h3.symm
    subst h3
    refine a_iload cx dL_law_874 rfl ?_
    refine a_icmp_eq cx (tgt := 881) dL_law_876 (by decide) (fun c_876 => ?_) (fun c_876 => (c_876 up2_eq).elim)
    refine a_iload cx dL_law_881 rfl ?_
    refine a_if_ne cx (tgt := 898) dL_law_883 (by decide) (fun c_883 => ?_) (fun c_883 => (hk c_883).elim)
    refine a_goto cx (tgt := 1558) dL_law_898 (by decide) ?_
    exact a_lv lwV_sub (a_wide (by omega) (by omega) (kk _ _ _ _ _ ⟨hH, hP.no _, ⟨f, hf⟩, ⟨f2, hf2⟩⟩))

set_option maxHeartbeats 4000000 in
set_option maxRecDepth 100000 in
/-- the law: reason -/
theorem lw_reason {l : Launch} {g : GW} {p : Program} {e : Env} {s : State} {m : MethodId} {args : Array Value} {below : List Frame} {meth : Method} {c : Code} {A : Nat → Prop} {Q : State → Prop} {ad : AD} {τ : RH} {cells slots b L i : Nat} {xs : Nat → Int32} {Lv : Nat → Bool} {C : ME} {ρ : RH} (cx : Cx l g p s m args meth c A cL_law 9 RL) (hX : va_X b L xs s s.heap) (hbl : b < s.heap.size) (hbA : ¬ A b) (hL : L ≤ 3072) (hi : i + 6 ≤ L) (hS : lwI g ad Lv C ρ τ) (hc : cells + 1000 ≤ 603072) (hs : slots + 10000 ≤ 7211114) (kk : ∀ ad' τ' Lv' C' ρ', lwI g ad' Lv' C' ρ' τ' → AW l g p e room_1 s m args below meth c A 9 Q ad' τ' (cells + 1000) (slots + 10000) 1558 (lwV b ad' i) []) : AW l g p e room_1 s m args below meth c A 9 Q ad τ cells slots 901 (lwV b ad i) [] := by
  obtain ⟨hH, hP, ⟨f, hf⟩, ⟨f2, hf2⟩⟩ := hS
  have hI := hP.1
  have hO := (H_lines hH hI).1
  unfold lwV
  refine a_aload_n cx dL_law_901 rfl rfl ?_
  refine a_arg cx hX hbl hbA 1 i (by decide) (by omega) (by omega) rfl rfl dL_law_902 dL_law_903 dL_law_905 dL_law_906 dL_law_907 ?_
  refine a_aload_n cx dL_law_908 rfl rfl ?_
  refine a_callSH cx 3 (sp_L_reason hH hI hf) ml_L_145 st_L_reason ini_L cd_L_reason rfl rfl (by decide +kernel) rfl rfl ⟨(Nat.le_of_ble_eq_true rfl), (Nat.le_of_ble_eq_true rfl)⟩ (Nat.le_of_ble_eq_true rfl) dL_law_909 ⟨show _ ≤ 603072 by omega, show _ ≤ 7211114 by omega⟩ (fun _ _ _ h => h.elim) (fun v9 ad9 τ9 hQ => ?_)
  obtain ⟨rfl, hQ⟩ := hQ
  rcases hQ with ⟨hk, had, hH⟩ | ⟨hk, h2, hH⟩
  · replace had := had.symm
    subst had
    have hj := (e_reason hP.R hI (b := (xs (i + 1)))).1.symm.trans hk
    have ha := (e_reason hP.R hI (b := (xs (i + 1)))).2 hk
    have hM1 := hP.2.1
    have hE := fun x : Int32 => hP.no x
    refine a_istore6 cx dL_law_912 (by decide) (by intro w h; first | (cases h; rfl) | (cases h; assumption) | (cases h; done)) ?_
    refine a_aload_n cx dL_law_914 rfl rfl ?_
    refine a_arg cx hX hbl hbA 1 i (by decide) (by omega) (by omega) rfl rfl dL_law_915 dL_law_916 dL_law_918 dL_law_919 dL_law_920 ?_
    refine a_callV cx 1 (sp_X4_reason hH (hE 0).mm hM1) (M_obj hH hP.mm) rfl ml_L_147 im_X4_reason se_X4_reason ini_X4 cd_X4_reason rfl rfl (by decide +kernel) rfl rfl ⟨(Nat.le_of_ble_eq_true rfl), (Nat.le_of_ble_eq_true rfl)⟩ (Nat.le_of_ble_eq_true rfl) dL_law_921 ⟨show _ ≤ 603072 by omega, show _ ≤ 7211114 by omega⟩ (fun _ _ _ h => h.elim) (fun v8 ad8 τ8 hQ => ?_)
    obtain ⟨⟨w, rfl, hw⟩, h2, hH⟩ := hQ
    replace h2 := h2.symm
    subst h2
    replace hw := hw hj
    rw [if_pos hj, hj] at hH
    have hf9 := (hH.2 90 (by decide)).trans rL_90
    refine a_istore7 cx dL_law_924 (by decide) (by intro w h; first | (cases h; rfl) | (cases h; assumption) | (cases h; done)) ?_
    refine a_aload_n cx dL_law_926 rfl rfl ?_
    refine a_callV cx 0 (sp_X4_thrown hH hP.mm) (M_obj hH hP.mm) rfl ml_L_108 im_X4_thrown se_X4_thrown ini_X4 cd_X4_thrown rfl rfl (by decide +kernel) rfl rfl ⟨(Nat.le_of_ble_eq_true rfl), (Nat.le_of_ble_eq_true rfl)⟩ (Nat.le_of_ble_eq_true rfl) dL_law_927 ⟨show _ ≤ 603072 by omega, show _ ≤ 7211114 by omega⟩ (fun _ _ _ h => h.elim) (fun v8 ad8 τ8 hQ => ?_)
    obtain ⟨rfl, h2, h3⟩ := hQ
    replace h2 := h2.symm
    subst h2
    replace h3 := h3.symm
    subst h3
    refine a_iload cx dL_law_930 rfl ?_
    refine a_icmp_eq cx (tgt := 937) dL_law_932 (by decide) (fun c_932 => ?_) (fun c_932 => (c_932 (up2_eq.trans hk.symm)).elim)
    refine a_iload cx dL_law_937 rfl ?_
    refine a_if_ne cx (tgt := 954) dL_law_939 (by decide) (fun c_939 => (c_939 hk).elim) (fun c_939 => ?_)
    refine a_aload_n cx dL_law_942 rfl rfl ?_
    refine a_iconst cx (v := 0) dL_law_943 (by decide) ?_
    refine a_lld cx (0) hf9 (rfl) ((by decide)) (by decide) dL_law_944 ?_
    refine a_iload cx dL_law_945 rfl ?_
    refine a_i2l cx dL_law_947 ?_
    refine a_lcmp cx dL_law_948 ?_
    refine a_if_eq cx (tgt := 954) dL_law_949 (by decide) (fun c_949 => ?_) (fun c_949 => (c_949 (lg_of (ha.trans hw.symm))).elim)
    refine a_goto cx (tgt := 1558) dL_law_954 (by decide) ?_
    exact a_lv lwV_sub (a_wide (by omega) (by omega) (kk _ _ _ _ _ ⟨hH, hE 0, ⟨_, rL_90⟩, ⟨f2, rL_91.trans hf2⟩⟩))
  · replace h2 := h2.symm
    subst h2
    have hj := ((e_reason hP.R hI (b := (xs (i + 1)))).1).symm
    have hM1 := hP.2.1
    refine a_istore6 cx dL_law_912 (by decide) (by intro w h; first | (cases h; rfl) | (cases h; assumption) | (cases h; done)) ?_
    refine a_aload_n cx dL_law_914 rfl rfl ?_
    refine a_arg cx hX hbl hbA 1 i (by decide) (by omega) (by omega) rfl rfl dL_law_915 dL_law_916 dL_law_918 dL_law_919 dL_law_920 ?_
    refine a_callV cx 1 (sp_X4_reason hH hP.mm hM1) (M_obj hH hP.mm) rfl ml_L_147 im_X4_reason se_X4_reason ini_X4 cd_X4_reason rfl rfl (by decide +kernel) rfl rfl ⟨(Nat.le_of_ble_eq_true rfl), (Nat.le_of_ble_eq_true rfl)⟩ (Nat.le_of_ble_eq_true rfl) dL_law_921 ⟨show _ ≤ 603072 by omega, show _ ≤ 7211114 by omega⟩ (fun _ _ _ h => h.elim) (fun v8 ad8 τ8 hQ => ?_)
    obtain ⟨⟨w, rfl, hw⟩, h2, hH⟩ := hQ
    replace h2 := h2.symm
    subst h2
    rw [hj, if_neg hk] at hH
    refine a_istore7 cx dL_law_924 (by decide) (by intro w h; first | (cases h; rfl) | (cases h; assumption) | (cases h; done)) ?_
    refine a_aload_n cx dL_law_926 rfl rfl ?_
    refine a_callV cx 0 (sp_X4_thrown hH hP.mm) (M_obj hH hP.mm) rfl ml_L_108 im_X4_thrown se_X4_thrown ini_X4 cd_X4_thrown rfl rfl (by decide +kernel) rfl rfl ⟨(Nat.le_of_ble_eq_true rfl), (Nat.le_of_ble_eq_true rfl)⟩ (Nat.le_of_ble_eq_true rfl) dL_law_927 ⟨show _ ≤ 603072 by omega, show _ ≤ 7211114 by omega⟩ (fun _ _ _ h => h.elim) (fun v8 ad8 τ8 hQ => ?_)
    obtain ⟨rfl, h2, h3⟩ := hQ
    replace h2 := h2.symm
    subst h2
    replace h3 := h3.symm
    subst h3
    refine a_iload cx dL_law_930 rfl ?_
    refine a_icmp_eq cx (tgt := 937) dL_law_932 (by decide) (fun c_932 => ?_) (fun c_932 => (c_932 up2_eq).elim)
    refine a_iload cx dL_law_937 rfl ?_
    refine a_if_ne cx (tgt := 954) dL_law_939 (by decide) (fun c_939 => ?_) (fun c_939 => (hk c_939).elim)
    refine a_goto cx (tgt := 1558) dL_law_954 (by decide) ?_
    exact a_lv lwV_sub (a_wide (by omega) (by omega) (kk _ _ _ _ _ ⟨hH, hP.no _, ⟨f, hf⟩, ⟨f2, hf2⟩⟩))

