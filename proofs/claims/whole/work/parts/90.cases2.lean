set_option maxHeartbeats 4000000 in
set_option maxRecDepth 100000 in
/-- the law: fail -/
theorem lw_fail {l : Launch} {g : GW} {p : Program} {e : Env} {s : State} {m : MethodId} {args : Array Value} {below : List Frame} {meth : Method} {c : Code} {A : Nat → Prop} {Q : State → Prop} {ad : AD} {τ : RH} {cells slots b L i : Nat} {xs : Nat → Int32} {Lv : Nat → Bool} {C : ME} {ρ : RH} (cx : Cx l g p s m args meth c A cL_law 9 RL) (hX : va_X b L xs s s.heap) (hbl : b < s.heap.size) (hbA : ¬ A b) (hL : L ≤ 3072) (hi : i + 6 ≤ L) (hS : lwI g ad Lv C ρ τ) (hc : cells + 1000 ≤ 603072) (hs : slots + 10000 ≤ 7211114) (kk : ∀ ad' τ' Lv' C' ρ', lwI g ad' Lv' C' ρ' τ' → AW l g p e room_1 s m args below meth c A 9 Q ad' τ' (cells + 1000) (slots + 10000) 1558 (lwV b ad' i) []) : AW l g p e room_1 s m args below meth c A 9 Q ad τ cells slots 957 (lwV b ad i) [] := by
  obtain ⟨hH, hP, ⟨f, hf⟩, ⟨f2, hf2⟩⟩ := hS
  have hI := hP.1
  have hO := (H_lines hH hI).1
  unfold lwV
  refine a_aload_n cx dL_law_957 rfl rfl ?_
  refine a_arg cx hX hbl hbA 1 i (by decide) (by omega) (by omega) rfl rfl dL_law_958 dL_law_959 dL_law_961 dL_law_962 dL_law_963 ?_
  refine a_aload_n cx dL_law_964 rfl rfl ?_
  refine a_callSH cx 3 (sp_L_fail hH hI hf) ml_L_148 st_L_fail ini_L cd_L_fail rfl rfl (by decide +kernel) rfl rfl ⟨(Nat.le_of_ble_eq_true rfl), (Nat.le_of_ble_eq_true rfl)⟩ (Nat.le_of_ble_eq_true rfl) dL_law_965 ⟨show _ ≤ 603072 by omega, show _ ≤ 7211114 by omega⟩ (fun _ _ _ h => h.elim) (fun v9 ad9 τ9 hQ => ?_)
  obtain ⟨rfl, hQ⟩ := hQ
  rcases hQ with ⟨hk, had, hH⟩ | ⟨hk, h2, hH⟩
  · replace had := had.symm
    subst had
    obtain ⟨hM1, hj, ha, hE⟩ := E_fail hP hk
    refine a_istore6 cx dL_law_968 (by decide) (by intro w h; first | (cases h; rfl) | (cases h; assumption) | (cases h; done)) ?_
    refine a_aload_n cx dL_law_970 rfl rfl ?_
    refine a_arg cx hX hbl hbA 1 i (by decide) (by omega) (by omega) rfl rfl dL_law_971 dL_law_972 dL_law_974 dL_law_975 dL_law_976 ?_
    refine a_callV cx 1 (sp_X4_fail hH (hE 0).mm hM1) (M_obj hH (hE 0).mm) rfl ml_L_150 im_X4_fail se_X4_fail ini_X4 cd_X4_fail rfl rfl (by decide +kernel) rfl rfl ⟨(Nat.le_of_ble_eq_true rfl), (Nat.le_of_ble_eq_true rfl)⟩ (Nat.le_of_ble_eq_true rfl) dL_law_977 ⟨show _ ≤ 603072 by omega, show _ ≤ 7211114 by omega⟩ (fun _ _ _ h => h.elim) (fun v8 ad8 τ8 hQ => ?_)
    obtain ⟨⟨w, rfl, hw⟩, h2, hH⟩ := hQ
    replace h2 := h2.symm
    subst h2
    replace hw := hw hj
    rw [if_pos hj, hj] at hH
    have hf9 := (hH.2 90 (by decide)).trans rL_90
    refine a_istore7 cx dL_law_980 (by decide) (by intro w h; first | (cases h; rfl) | (cases h; assumption) | (cases h; done)) ?_
    refine a_aload_n cx dL_law_982 rfl rfl ?_
    refine a_callV cx 0 (sp_X4_thrown hH (hE 0).mm) (M_obj hH (hE 0).mm) rfl ml_L_108 im_X4_thrown se_X4_thrown ini_X4 cd_X4_thrown rfl rfl (by decide +kernel) rfl rfl ⟨(Nat.le_of_ble_eq_true rfl), (Nat.le_of_ble_eq_true rfl)⟩ (Nat.le_of_ble_eq_true rfl) dL_law_983 ⟨show _ ≤ 603072 by omega, show _ ≤ 7211114 by omega⟩ (fun _ _ _ h => h.elim) (fun v8 ad8 τ8 hQ => ?_)
    obtain ⟨rfl, h2, h3⟩ := hQ
    replace h2 := h2.symm
    subst h2
    replace h3 := h3.symm
    subst h3
    refine a_iload cx dL_law_986 rfl ?_
    refine a_icmp_eq cx (tgt := 993) dL_law_988 (by decide) (fun c_988 => ?_) (fun c_988 => (c_988 (up2_eq.trans hk.symm)).elim)
    refine a_iload cx dL_law_993 rfl ?_
    refine a_if_ne cx (tgt := 1017) dL_law_995 (by decide) (fun c_995 => (c_995 hk).elim) (fun c_995 => ?_)
    refine a_aload_n cx dL_law_998 rfl rfl ?_
    refine a_iconst cx (v := 0) dL_law_999 (by decide) ?_
    refine a_lld cx (0) hf9 (rfl) ((by decide)) (by decide) dL_law_1000 ?_
    refine a_iload cx dL_law_1001 rfl ?_
    refine a_if_eq cx (tgt := 1010) dL_law_1003 (by decide) (fun c_1003 => ?_) (fun c_1003 => ?_)
    · refine a_lconst cx (v := 0) dL_law_1010 (by decide) ?_
      refine a_lcmp cx dL_law_1011 ?_
      refine a_if_eq cx (tgt := 1017) dL_law_1012 (by decide) (fun c_1012 => ?_) (fun c_1012 => (c_1012 (by rw [va_up_self, ha, ← hw, if_pos c_1003]; exact lg_self _)).elim)
      refine a_goto cx (tgt := 1558) dL_law_1017 (by decide) ?_
      exact a_lv lwV_sub (a_wide (by omega) (by omega) (kk _ _ _ _ _ ⟨hH, hE 0, ⟨_, rL_90⟩, ⟨f2, rL_91.trans hf2⟩⟩))
    · refine a_lconst cx (v := 1) dL_law_1006 (by decide) ?_
      refine a_goto cx (tgt := 1011) dL_law_1007 (by decide) ?_
      refine a_lcmp cx dL_law_1011 ?_
      refine a_if_eq cx (tgt := 1017) dL_law_1012 (by decide) (fun c_1012 => ?_) (fun c_1012 => (c_1012 (by rw [va_up_self, ha, ← hw, if_neg c_1003]; exact lg_self _)).elim)
      refine a_goto cx (tgt := 1558) dL_law_1017 (by decide) ?_
      exact a_lv lwV_sub (a_wide (by omega) (by omega) (kk _ _ _ _ _ ⟨hH, hE 0, ⟨_, rL_90⟩, ⟨f2, rL_91.trans hf2⟩⟩))
  · replace h2 := h2.symm
    subst h2
    have hj := ((e_fail hP.R hI (b := (xs (i + 1)))).1).symm
    have hM1 := hP.2.1
    refine a_istore6 cx dL_law_968 (by decide) (by intro w h; first | (cases h; rfl) | (cases h; assumption) | (cases h; done)) ?_
    refine a_aload_n cx dL_law_970 rfl rfl ?_
    refine a_arg cx hX hbl hbA 1 i (by decide) (by omega) (by omega) rfl rfl dL_law_971 dL_law_972 dL_law_974 dL_law_975 dL_law_976 ?_
    refine a_callV cx 1 (sp_X4_fail hH hP.mm hM1) (M_obj hH hP.mm) rfl ml_L_150 im_X4_fail se_X4_fail ini_X4 cd_X4_fail rfl rfl (by decide +kernel) rfl rfl ⟨(Nat.le_of_ble_eq_true rfl), (Nat.le_of_ble_eq_true rfl)⟩ (Nat.le_of_ble_eq_true rfl) dL_law_977 ⟨show _ ≤ 603072 by omega, show _ ≤ 7211114 by omega⟩ (fun _ _ _ h => h.elim) (fun v8 ad8 τ8 hQ => ?_)
    obtain ⟨⟨w, rfl, hw⟩, h2, hH⟩ := hQ
    replace h2 := h2.symm
    subst h2
    rw [hj, if_neg hk] at hH
    refine a_istore7 cx dL_law_980 (by decide) (by intro w h; first | (cases h; rfl) | (cases h; assumption) | (cases h; done)) ?_
    refine a_aload_n cx dL_law_982 rfl rfl ?_
    refine a_callV cx 0 (sp_X4_thrown hH hP.mm) (M_obj hH hP.mm) rfl ml_L_108 im_X4_thrown se_X4_thrown ini_X4 cd_X4_thrown rfl rfl (by decide +kernel) rfl rfl ⟨(Nat.le_of_ble_eq_true rfl), (Nat.le_of_ble_eq_true rfl)⟩ (Nat.le_of_ble_eq_true rfl) dL_law_983 ⟨show _ ≤ 603072 by omega, show _ ≤ 7211114 by omega⟩ (fun _ _ _ h => h.elim) (fun v8 ad8 τ8 hQ => ?_)
    obtain ⟨rfl, h2, h3⟩ := hQ
    replace h2 := h2.symm
    subst h2
    replace h3 := h3.symm
    subst h3
    refine a_iload cx dL_law_986 rfl ?_
    refine a_icmp_eq cx (tgt := 993) dL_law_988 (by decide) (fun c_988 => ?_) (fun c_988 => (c_988 up2_eq).elim)
    refine a_iload cx dL_law_993 rfl ?_
    refine a_if_ne cx (tgt := 1017) dL_law_995 (by decide) (fun c_995 => ?_) (fun c_995 => (hk c_995).elim)
    refine a_goto cx (tgt := 1558) dL_law_1017 (by decide) ?_
    exact a_lv lwV_sub (a_wide (by omega) (by omega) (kk _ _ _ _ _ ⟨hH, hP.no _, ⟨f, hf⟩, ⟨f2, hf2⟩⟩))

set_option maxHeartbeats 4000000 in
set_option maxRecDepth 100000 in
/-- the law: pass -/
theorem lw_pass {l : Launch} {g : GW} {p : Program} {e : Env} {s : State} {m : MethodId} {args : Array Value} {below : List Frame} {meth : Method} {c : Code} {A : Nat → Prop} {Q : State → Prop} {ad : AD} {τ : RH} {cells slots b L i : Nat} {xs : Nat → Int32} {Lv : Nat → Bool} {C : ME} {ρ : RH} (cx : Cx l g p s m args meth c A cL_law 9 RL) (hX : va_X b L xs s s.heap) (hbl : b < s.heap.size) (hbA : ¬ A b) (hL : L ≤ 3072) (hi : i + 6 ≤ L) (hS : lwI g ad Lv C ρ τ) (hc : cells + 1000 ≤ 603072) (hs : slots + 10000 ≤ 7211114) (kk : ∀ ad' τ' Lv' C' ρ', lwI g ad' Lv' C' ρ' τ' → AW l g p e room_1 s m args below meth c A 9 Q ad' τ' (cells + 1000) (slots + 10000) 1558 (lwV b ad' i) []) : AW l g p e room_1 s m args below meth c A 9 Q ad τ cells slots 1020 (lwV b ad i) [] := by
  obtain ⟨hH, hP, ⟨f, hf⟩, ⟨f2, hf2⟩⟩ := hS
  have hI := hP.1
  have hO := (H_lines hH hI).1
  unfold lwV
  refine a_aload_n cx dL_law_1020 rfl rfl ?_
  refine a_arg cx hX hbl hbA 1 i (by decide) (by omega) (by omega) rfl rfl dL_law_1021 dL_law_1022 dL_law_1024 dL_law_1025 dL_law_1026 ?_
  refine a_aload_n cx dL_law_1027 rfl rfl ?_
  refine a_callSH cx 3 (sp_L_pass hH hI hf) ml_L_151 st_L_pass ini_L cd_L_pass rfl rfl (by decide +kernel) rfl rfl ⟨(Nat.le_of_ble_eq_true rfl), (Nat.le_of_ble_eq_true rfl)⟩ (Nat.le_of_ble_eq_true rfl) dL_law_1028 ⟨show _ ≤ 603072 by omega, show _ ≤ 7211114 by omega⟩ (fun _ _ _ h => h.elim) (fun v9 ad9 τ9 hQ => ?_)
  obtain ⟨rfl, hQ⟩ := hQ
  rcases hQ with ⟨hk, had, hH⟩ | ⟨hk, h2, hH⟩
  · replace had := had.symm
    subst had
    obtain ⟨hM1, hj, ha, hE⟩ := E_pass hP hk
    refine a_istore6 cx dL_law_1031 (by decide) (by intro w h; first | (cases h; rfl) | (cases h; assumption) | (cases h; done)) ?_
    refine a_aload_n cx dL_law_1033 rfl rfl ?_
    refine a_arg cx hX hbl hbA 1 i (by decide) (by omega) (by omega) rfl rfl dL_law_1034 dL_law_1035 dL_law_1037 dL_law_1038 dL_law_1039 ?_
    refine a_callV cx 1 (sp_X4_pass hH (hE 0).mm hM1) (M_obj hH (hE 0).mm) rfl ml_L_153 im_X4_pass se_X4_pass ini_X4 cd_X4_pass rfl rfl (by decide +kernel) rfl rfl ⟨(Nat.le_of_ble_eq_true rfl), (Nat.le_of_ble_eq_true rfl)⟩ (Nat.le_of_ble_eq_true rfl) dL_law_1040 ⟨show _ ≤ 603072 by omega, show _ ≤ 7211114 by omega⟩ (fun _ _ _ h => h.elim) (fun v8 ad8 τ8 hQ => ?_)
    obtain ⟨⟨w, rfl, hw⟩, h2, hH⟩ := hQ
    replace h2 := h2.symm
    subst h2
    replace hw := hw hj
    rw [if_pos hj, hj] at hH
    have hf9 := (hH.2 90 (by decide)).trans rL_90
    refine a_istore7 cx dL_law_1043 (by decide) (by intro w h; first | (cases h; rfl) | (cases h; assumption) | (cases h; done)) ?_
    refine a_aload_n cx dL_law_1045 rfl rfl ?_
    refine a_callV cx 0 (sp_X4_thrown hH (hE 0).mm) (M_obj hH (hE 0).mm) rfl ml_L_108 im_X4_thrown se_X4_thrown ini_X4 cd_X4_thrown rfl rfl (by decide +kernel) rfl rfl ⟨(Nat.le_of_ble_eq_true rfl), (Nat.le_of_ble_eq_true rfl)⟩ (Nat.le_of_ble_eq_true rfl) dL_law_1046 ⟨show _ ≤ 603072 by omega, show _ ≤ 7211114 by omega⟩ (fun _ _ _ h => h.elim) (fun v8 ad8 τ8 hQ => ?_)
    obtain ⟨rfl, h2, h3⟩ := hQ
    replace h2 := h2.symm
    subst h2
    replace h3 := h3.symm
    subst h3
    refine a_iload cx dL_law_1049 rfl ?_
    refine a_icmp_eq cx (tgt := 1056) dL_law_1051 (by decide) (fun c_1051 => ?_) (fun c_1051 => (c_1051 (up2_eq.trans hk.symm)).elim)
    refine a_iload cx dL_law_1056 rfl ?_
    refine a_if_ne cx (tgt := 1073) dL_law_1058 (by decide) (fun c_1058 => (c_1058 hk).elim) (fun c_1058 => ?_)
    refine a_aload_n cx dL_law_1061 rfl rfl ?_
    refine a_iconst cx (v := 0) dL_law_1062 (by decide) ?_
    refine a_lld cx (0) hf9 (rfl) ((by decide)) (by decide) dL_law_1063 ?_
    refine a_iload cx dL_law_1064 rfl ?_
    refine a_i2l cx dL_law_1066 ?_
    refine a_lcmp cx dL_law_1067 ?_
    refine a_if_eq cx (tgt := 1073) dL_law_1068 (by decide) (fun c_1068 => ?_) (fun c_1068 => (c_1068 (lg_of (ha.trans hw.symm))).elim)
    refine a_goto cx (tgt := 1558) dL_law_1073 (by decide) ?_
    exact a_lv lwV_sub (a_wide (by omega) (by omega) (kk _ _ _ _ _ ⟨hH, hE 0, ⟨_, rL_90⟩, ⟨f2, rL_91.trans hf2⟩⟩))
  · replace h2 := h2.symm
    subst h2
    have hj := ((e_pass hP.R hI hP.2.1 hP.cC (n := (xs (i + 1)))).1).symm
    have hM1 := hP.2.1
    refine a_istore6 cx dL_law_1031 (by decide) (by intro w h; first | (cases h; rfl) | (cases h; assumption) | (cases h; done)) ?_
    refine a_aload_n cx dL_law_1033 rfl rfl ?_
    refine a_arg cx hX hbl hbA 1 i (by decide) (by omega) (by omega) rfl rfl dL_law_1034 dL_law_1035 dL_law_1037 dL_law_1038 dL_law_1039 ?_
    refine a_callV cx 1 (sp_X4_pass hH hP.mm hM1) (M_obj hH hP.mm) rfl ml_L_153 im_X4_pass se_X4_pass ini_X4 cd_X4_pass rfl rfl (by decide +kernel) rfl rfl ⟨(Nat.le_of_ble_eq_true rfl), (Nat.le_of_ble_eq_true rfl)⟩ (Nat.le_of_ble_eq_true rfl) dL_law_1040 ⟨show _ ≤ 603072 by omega, show _ ≤ 7211114 by omega⟩ (fun _ _ _ h => h.elim) (fun v8 ad8 τ8 hQ => ?_)
    obtain ⟨⟨w, rfl, hw⟩, h2, hH⟩ := hQ
    replace h2 := h2.symm
    subst h2
    rw [hj, if_neg hk] at hH
    refine a_istore7 cx dL_law_1043 (by decide) (by intro w h; first | (cases h; rfl) | (cases h; assumption) | (cases h; done)) ?_
    refine a_aload_n cx dL_law_1045 rfl rfl ?_
    refine a_callV cx 0 (sp_X4_thrown hH hP.mm) (M_obj hH hP.mm) rfl ml_L_108 im_X4_thrown se_X4_thrown ini_X4 cd_X4_thrown rfl rfl (by decide +kernel) rfl rfl ⟨(Nat.le_of_ble_eq_true rfl), (Nat.le_of_ble_eq_true rfl)⟩ (Nat.le_of_ble_eq_true rfl) dL_law_1046 ⟨show _ ≤ 603072 by omega, show _ ≤ 7211114 by omega⟩ (fun _ _ _ h => h.elim) (fun v8 ad8 τ8 hQ => ?_)
    obtain ⟨rfl, h2, h3⟩ := hQ
    replace h2 := h2.symm
    subst h2
    replace h3 := h3.symm
    subst h3
    refine a_iload cx dL_law_1049 rfl ?_
    refine a_icmp_eq cx (tgt := 1056) dL_law_1051 (by decide) (fun c_1051 => ?_) (fun c_1051 => (c_1051 up2_eq).elim)
    refine a_iload cx dL_law_1056 rfl ?_
    refine a_if_ne cx (tgt := 1073) dL_law_1058 (by decide) (fun c_1058 => ?_) (fun c_1058 => (hk c_1058).elim)
    refine a_goto cx (tgt := 1558) dL_law_1073 (by decide) ?_
    exact a_lv lwV_sub (a_wide (by omega) (by omega) (kk _ _ _ _ _ ⟨hH, hP.no _, ⟨f, hf⟩, ⟨f2, hf2⟩⟩))

set_option maxHeartbeats 4000000 in
set_option maxRecDepth 100000 in
/-- the law: time -/
theorem lw_time {l : Launch} {g : GW} {p : Program} {e : Env} {s : State} {m : MethodId} {args : Array Value} {below : List Frame} {meth : Method} {c : Code} {A : Nat → Prop} {Q : State → Prop} {ad : AD} {τ : RH} {cells slots b L i : Nat} {xs : Nat → Int32} {Lv : Nat → Bool} {C : ME} {ρ : RH} (cx : Cx l g p s m args meth c A cL_law 9 RL) (hX : va_X b L xs s s.heap) (hbl : b < s.heap.size) (hbA : ¬ A b) (hL : L ≤ 3072) (hi : i + 6 ≤ L) (hS : lwI g ad Lv C ρ τ) (hc : cells + 1000 ≤ 603072) (hs : slots + 10000 ≤ 7211114) (kk : ∀ ad' τ' Lv' C' ρ', lwI g ad' Lv' C' ρ' τ' → AW l g p e room_1 s m args below meth c A 9 Q ad' τ' (cells + 1000) (slots + 10000) 1558 (lwV b ad' i) []) : AW l g p e room_1 s m args below meth c A 9 Q ad τ cells slots 1076 (lwV b ad i) [] := by
  obtain ⟨hH, hP, ⟨f, hf⟩, ⟨f2, hf2⟩⟩ := hS
  have hI := hP.1
  have hO := (H_lines hH hI).1
  unfold lwV
  refine a_aload_n cx dL_law_1076 rfl rfl ?_
  refine a_callV cx 0 (sp_time0 hH hI) hO rfl ml_L_154 im_X3_time se_X3_time ini_X3 cd_X3_time rfl rfl (by decide +kernel) rfl rfl ⟨(Nat.le_of_ble_eq_true rfl), (Nat.le_of_ble_eq_true rfl)⟩ (Nat.le_of_ble_eq_true rfl) dL_law_1077 ⟨show _ ≤ 603072 by omega, show _ ≤ 7211114 by omega⟩ (fun _ _ _ h => h.elim) (fun v9 ad9 τ9 hQ => ?_)
  obtain ⟨rfl, h2, h3⟩ := hQ
  replace h2 := h2.symm
  subst h2
  replace h3 := h3.symm
  subst h3
  refine a_aload_n cx dL_law_1080 rfl rfl ?_
  refine a_callV cx 0 (sp_X4_time hH hP.mm) (M_obj hH hP.mm) rfl ml_L_157 im_X4_time se_X4_time ini_X4 cd_X4_time rfl rfl (by decide +kernel) rfl rfl ⟨(Nat.le_of_ble_eq_true rfl), (Nat.le_of_ble_eq_true rfl)⟩ (Nat.le_of_ble_eq_true rfl) dL_law_1081 ⟨show _ ≤ 603072 by omega, show _ ≤ 7211114 by omega⟩ (fun _ _ _ h => h.elim) (fun v8 ad8 τ8 hQ => ?_)
  obtain ⟨rfl, h2, hH⟩ := hQ
  replace h2 := h2.symm
  subst h2
  refine a_icmp_eq cx (tgt := 1558) dL_law_1084 (by decide) (fun c_1084 => ?_) (fun c_1084 => (c_1084 (e_time hP.R)).elim)
  exact a_lv lwV_sub (a_wide (by omega) (by omega) (kk _ _ _ _ _ ⟨hH, hP.no 0, ⟨f, hf⟩, ⟨f2, hf2⟩⟩))

set_option maxHeartbeats 4000000 in
set_option maxRecDepth 100000 in
/-- the law: used -/
theorem lw_used {l : Launch} {g : GW} {p : Program} {e : Env} {s : State} {m : MethodId} {args : Array Value} {below : List Frame} {meth : Method} {c : Code} {A : Nat → Prop} {Q : State → Prop} {ad : AD} {τ : RH} {cells slots b L i : Nat} {xs : Nat → Int32} {Lv : Nat → Bool} {C : ME} {ρ : RH} (cx : Cx l g p s m args meth c A cL_law 9 RL) (hX : va_X b L xs s s.heap) (hbl : b < s.heap.size) (hbA : ¬ A b) (hL : L ≤ 3072) (hi : i + 6 ≤ L) (hS : lwI g ad Lv C ρ τ) (hc : cells + 1000 ≤ 603072) (hs : slots + 10000 ≤ 7211114) (kk : ∀ ad' τ' Lv' C' ρ', lwI g ad' Lv' C' ρ' τ' → AW l g p e room_1 s m args below meth c A 9 Q ad' τ' (cells + 1000) (slots + 10000) 1558 (lwV b ad' i) []) : AW l g p e room_1 s m args below meth c A 9 Q ad τ cells slots 1089 (lwV b ad i) [] := by
  obtain ⟨hH, hP, ⟨f, hf⟩, ⟨f2, hf2⟩⟩ := hS
  have hI := hP.1
  have hO := (H_lines hH hI).1
  unfold lwV
  refine a_aload_n cx dL_law_1089 rfl rfl ?_
  refine a_arg cx hX hbl hbA 1 i (by decide) (by omega) (by omega) rfl rfl dL_law_1090 dL_law_1091 dL_law_1093 dL_law_1094 dL_law_1095 ?_
  refine a_aload_n cx dL_law_1096 rfl rfl ?_
  refine a_callSH cx 3 (sp_L_used hH hI hf) ml_L_158 st_L_used ini_L cd_L_used rfl rfl (by decide +kernel) rfl rfl ⟨(Nat.le_of_ble_eq_true rfl), (Nat.le_of_ble_eq_true rfl)⟩ (Nat.le_of_ble_eq_true rfl) dL_law_1097 ⟨show _ ≤ 603072 by omega, show _ ≤ 7211114 by omega⟩ (fun _ _ _ h => h.elim) (fun v9 ad9 τ9 hQ => ?_)
  obtain ⟨rfl, hQ⟩ := hQ
  rcases hQ with ⟨hk, had, hH⟩ | ⟨hk, h2, hH⟩
  · replace had := had.symm
    subst had
    have hj := (e_used hP.R hI (b := (xs (i + 1)))).1.symm.trans hk
    have ha := (e_used hP.R hI (b := (xs (i + 1)))).2 hk
    have hM1 := hP.2.1
    have hE := fun x : Int32 => hP.no x
    refine a_istore6 cx dL_law_1100 (by decide) (by intro w h; first | (cases h; rfl) | (cases h; assumption) | (cases h; done)) ?_
    refine a_aload_n cx dL_law_1102 rfl rfl ?_
    refine a_arg cx hX hbl hbA 1 i (by decide) (by omega) (by omega) rfl rfl dL_law_1103 dL_law_1104 dL_law_1106 dL_law_1107 dL_law_1108 ?_
    refine a_callV cx 1 (sp_X4_used hH (hE 0).mm hM1) (M_obj hH hP.mm) rfl ml_L_160 im_X4_used se_X4_used ini_X4 cd_X4_used rfl rfl (by decide +kernel) rfl rfl ⟨(Nat.le_of_ble_eq_true rfl), (Nat.le_of_ble_eq_true rfl)⟩ (Nat.le_of_ble_eq_true rfl) dL_law_1109 ⟨show _ ≤ 603072 by omega, show _ ≤ 7211114 by omega⟩ (fun _ _ _ h => h.elim) (fun v8 ad8 τ8 hQ => ?_)
    obtain ⟨⟨w, rfl, hw⟩, h2, hH⟩ := hQ
    replace h2 := h2.symm
    subst h2
    replace hw := hw hj
    rw [if_pos hj, hj] at hH
    have hf9 := (hH.2 90 (by decide)).trans rL_90
    refine a_istore7 cx dL_law_1112 (by decide) (by intro w h; first | (cases h; rfl) | (cases h; assumption) | (cases h; done)) ?_
    refine a_aload_n cx dL_law_1114 rfl rfl ?_
    refine a_callV cx 0 (sp_X4_thrown hH hP.mm) (M_obj hH hP.mm) rfl ml_L_108 im_X4_thrown se_X4_thrown ini_X4 cd_X4_thrown rfl rfl (by decide +kernel) rfl rfl ⟨(Nat.le_of_ble_eq_true rfl), (Nat.le_of_ble_eq_true rfl)⟩ (Nat.le_of_ble_eq_true rfl) dL_law_1115 ⟨show _ ≤ 603072 by omega, show _ ≤ 7211114 by omega⟩ (fun _ _ _ h => h.elim) (fun v8 ad8 τ8 hQ => ?_)
    obtain ⟨rfl, h2, h3⟩ := hQ
    replace h2 := h2.symm
    subst h2
    replace h3 := h3.symm
    subst h3
    refine a_iload cx dL_law_1118 rfl ?_
    refine a_icmp_eq cx (tgt := 1125) dL_law_1120 (by decide) (fun c_1120 => ?_) (fun c_1120 => (c_1120 (up2_eq.trans hk.symm)).elim)
    refine a_iload cx dL_law_1125 rfl ?_
    refine a_if_ne cx (tgt := 1142) dL_law_1127 (by decide) (fun c_1127 => (c_1127 hk).elim) (fun c_1127 => ?_)
    refine a_aload_n cx dL_law_1130 rfl rfl ?_
    refine a_iconst cx (v := 0) dL_law_1131 (by decide) ?_
    refine a_lld cx (0) hf9 (rfl) ((by decide)) (by decide) dL_law_1132 ?_
    refine a_iload cx dL_law_1133 rfl ?_
    refine a_i2l cx dL_law_1135 ?_
    refine a_lcmp cx dL_law_1136 ?_
    refine a_if_eq cx (tgt := 1142) dL_law_1137 (by decide) (fun c_1137 => ?_) (fun c_1137 => (c_1137 (lg_of (ha.trans hw.symm))).elim)
    refine a_goto cx (tgt := 1558) dL_law_1142 (by decide) ?_
    exact a_lv lwV_sub (a_wide (by omega) (by omega) (kk _ _ _ _ _ ⟨hH, hE 0, ⟨_, rL_90⟩, ⟨f2, rL_91.trans hf2⟩⟩))
  · replace h2 := h2.symm
    subst h2
    have hj := ((e_used hP.R hI (b := (xs (i + 1)))).1).symm
    have hM1 := hP.2.1
    refine a_istore6 cx dL_law_1100 (by decide) (by intro w h; first | (cases h; rfl) | (cases h; assumption) | (cases h; done)) ?_
    refine a_aload_n cx dL_law_1102 rfl rfl ?_
    refine a_arg cx hX hbl hbA 1 i (by decide) (by omega) (by omega) rfl rfl dL_law_1103 dL_law_1104 dL_law_1106 dL_law_1107 dL_law_1108 ?_
    refine a_callV cx 1 (sp_X4_used hH hP.mm hM1) (M_obj hH hP.mm) rfl ml_L_160 im_X4_used se_X4_used ini_X4 cd_X4_used rfl rfl (by decide +kernel) rfl rfl ⟨(Nat.le_of_ble_eq_true rfl), (Nat.le_of_ble_eq_true rfl)⟩ (Nat.le_of_ble_eq_true rfl) dL_law_1109 ⟨show _ ≤ 603072 by omega, show _ ≤ 7211114 by omega⟩ (fun _ _ _ h => h.elim) (fun v8 ad8 τ8 hQ => ?_)
    obtain ⟨⟨w, rfl, hw⟩, h2, hH⟩ := hQ
    replace h2 := h2.symm
    subst h2
    rw [hj, if_neg hk] at hH
    refine a_istore7 cx dL_law_1112 (by decide) (by intro w h; first | (cases h; rfl) | (cases h; assumption) | (cases h; done)) ?_
    refine a_aload_n cx dL_law_1114 rfl rfl ?_
    refine a_callV cx 0 (sp_X4_thrown hH hP.mm) (M_obj hH hP.mm) rfl ml_L_108 im_X4_thrown se_X4_thrown ini_X4 cd_X4_thrown rfl rfl (by decide +kernel) rfl rfl ⟨(Nat.le_of_ble_eq_true rfl), (Nat.le_of_ble_eq_true rfl)⟩ (Nat.le_of_ble_eq_true rfl) dL_law_1115 ⟨show _ ≤ 603072 by omega, show _ ≤ 7211114 by omega⟩ (fun _ _ _ h => h.elim) (fun v8 ad8 τ8 hQ => ?_)
    obtain ⟨rfl, h2, h3⟩ := hQ
    replace h2 := h2.symm
    subst h2
    replace h3 := h3.symm
    subst h3
    refine a_iload cx dL_law_1118 rfl ?_
    refine a_icmp_eq cx (tgt := 1125) dL_law_1120 (by decide) (fun c_1120 => ?_) (fun c_1120 => (c_1120 up2_eq).elim)
    refine a_iload cx dL_law_1125 rfl ?_
    refine a_if_ne cx (tgt := 1142) dL_law_1127 (by decide) (fun c_1127 => ?_) (fun c_1127 => (hk c_1127).elim)
    refine a_goto cx (tgt := 1558) dL_law_1142 (by decide) ?_
    exact a_lv lwV_sub (a_wide (by omega) (by omega) (kk _ _ _ _ _ ⟨hH, hP.no _, ⟨f, hf⟩, ⟨f2, hf2⟩⟩))

set_option maxHeartbeats 4000000 in
set_option maxRecDepth 100000 in
/-- the law: left -/
theorem lw_left {l : Launch} {g : GW} {p : Program} {e : Env} {s : State} {m : MethodId} {args : Array Value} {below : List Frame} {meth : Method} {c : Code} {A : Nat → Prop} {Q : State → Prop} {ad : AD} {τ : RH} {cells slots b L i : Nat} {xs : Nat → Int32} {Lv : Nat → Bool} {C : ME} {ρ : RH} (cx : Cx l g p s m args meth c A cL_law 9 RL) (hX : va_X b L xs s s.heap) (hbl : b < s.heap.size) (hbA : ¬ A b) (hL : L ≤ 3072) (hi : i + 6 ≤ L) (hS : lwI g ad Lv C ρ τ) (hc : cells + 1000 ≤ 603072) (hs : slots + 10000 ≤ 7211114) (kk : ∀ ad' τ' Lv' C' ρ', lwI g ad' Lv' C' ρ' τ' → AW l g p e room_1 s m args below meth c A 9 Q ad' τ' (cells + 1000) (slots + 10000) 1558 (lwV b ad' i) []) : AW l g p e room_1 s m args below meth c A 9 Q ad τ cells slots 1145 (lwV b ad i) [] := by
  obtain ⟨hH, hP, ⟨f, hf⟩, ⟨f2, hf2⟩⟩ := hS
  have hI := hP.1
  have hO := (H_lines hH hI).1
  unfold lwV
  refine a_aload_n cx dL_law_1145 rfl rfl ?_
  refine a_arg cx hX hbl hbA 1 i (by decide) (by omega) (by omega) rfl rfl dL_law_1146 dL_law_1147 dL_law_1149 dL_law_1150 dL_law_1151 ?_
  refine a_aload_n cx dL_law_1152 rfl rfl ?_
  refine a_callSH cx 3 (sp_L_left hH hI hf) ml_L_161 st_L_left ini_L cd_L_left rfl rfl (by decide +kernel) rfl rfl ⟨(Nat.le_of_ble_eq_true rfl), (Nat.le_of_ble_eq_true rfl)⟩ (Nat.le_of_ble_eq_true rfl) dL_law_1153 ⟨show _ ≤ 603072 by omega, show _ ≤ 7211114 by omega⟩ (fun _ _ _ h => h.elim) (fun v9 ad9 τ9 hQ => ?_)
  obtain ⟨rfl, hQ⟩ := hQ
  rcases hQ with ⟨hk, had, hH⟩ | ⟨hk, h2, hH⟩
  · replace had := had.symm
    subst had
    have hj := (e_left hP.R hI (j := (xs (i + 1)))).1.symm.trans hk
    have ha := (e_left hP.R hI (j := (xs (i + 1)))).2 hk
    have hM1 := hP.2.1
    have hE := fun x : Int32 => hP.no x
    refine a_istore6 cx dL_law_1156 (by decide) (by intro w h; first | (cases h; rfl) | (cases h; assumption) | (cases h; done)) ?_
    refine a_aload_n cx dL_law_1158 rfl rfl ?_
    refine a_arg cx hX hbl hbA 1 i (by decide) (by omega) (by omega) rfl rfl dL_law_1159 dL_law_1160 dL_law_1162 dL_law_1163 dL_law_1164 ?_
    refine a_callV cx 1 (sp_X4_left hH (hE 0).mm hM1) (M_obj hH hP.mm) rfl ml_L_163 im_X4_left se_X4_left ini_X4 cd_X4_left rfl rfl (by decide +kernel) rfl rfl ⟨(Nat.le_of_ble_eq_true rfl), (Nat.le_of_ble_eq_true rfl)⟩ (Nat.le_of_ble_eq_true rfl) dL_law_1165 ⟨show _ ≤ 603072 by omega, show _ ≤ 7211114 by omega⟩ (fun _ _ _ h => h.elim) (fun v8 ad8 τ8 hQ => ?_)
    obtain ⟨⟨w, rfl, hw⟩, h2, hH⟩ := hQ
    replace h2 := h2.symm
    subst h2
    replace hw := hw hj
    rw [if_pos hj, hj] at hH
    have hf9 := (hH.2 90 (by decide)).trans rL_90
    refine a_istore7 cx dL_law_1168 (by decide) (by intro w h; first | (cases h; rfl) | (cases h; assumption) | (cases h; done)) ?_
    refine a_aload_n cx dL_law_1170 rfl rfl ?_
    refine a_callV cx 0 (sp_X4_thrown hH hP.mm) (M_obj hH hP.mm) rfl ml_L_108 im_X4_thrown se_X4_thrown ini_X4 cd_X4_thrown rfl rfl (by decide +kernel) rfl rfl ⟨(Nat.le_of_ble_eq_true rfl), (Nat.le_of_ble_eq_true rfl)⟩ (Nat.le_of_ble_eq_true rfl) dL_law_1171 ⟨show _ ≤ 603072 by omega, show _ ≤ 7211114 by omega⟩ (fun _ _ _ h => h.elim) (fun v8 ad8 τ8 hQ => ?_)
    obtain ⟨rfl, h2, h3⟩ := hQ
    replace h2 := h2.symm
    subst h2
    replace h3 := h3.symm
    subst h3
    refine a_iload cx dL_law_1174 rfl ?_
    refine a_icmp_eq cx (tgt := 1181) dL_law_1176 (by decide) (fun c_1176 => ?_) (fun c_1176 => (c_1176 (up2_eq.trans hk.symm)).elim)
    refine a_iload cx dL_law_1181 rfl ?_
    refine a_if_ne cx (tgt := 1198) dL_law_1183 (by decide) (fun c_1183 => (c_1183 hk).elim) (fun c_1183 => ?_)
    refine a_aload_n cx dL_law_1186 rfl rfl ?_
    refine a_iconst cx (v := 0) dL_law_1187 (by decide) ?_
    refine a_lld cx (0) hf9 (rfl) ((by decide)) (by decide) dL_law_1188 ?_
    refine a_iload cx dL_law_1189 rfl ?_
    refine a_i2l cx dL_law_1191 ?_
    refine a_lcmp cx dL_law_1192 ?_
    refine a_if_eq cx (tgt := 1198) dL_law_1193 (by decide) (fun c_1193 => ?_) (fun c_1193 => (c_1193 (lg_of (ha.trans hw.symm))).elim)
    refine a_goto cx (tgt := 1558) dL_law_1198 (by decide) ?_
    exact a_lv lwV_sub (a_wide (by omega) (by omega) (kk _ _ _ _ _ ⟨hH, hE 0, ⟨_, rL_90⟩, ⟨f2, rL_91.trans hf2⟩⟩))
  · replace h2 := h2.symm
    subst h2
    have hj := ((e_left hP.R hI (j := (xs (i + 1)))).1).symm
    have hM1 := hP.2.1
    refine a_istore6 cx dL_law_1156 (by decide) (by intro w h; first | (cases h; rfl) | (cases h; assumption) | (cases h; done)) ?_
    refine a_aload_n cx dL_law_1158 rfl rfl ?_
    refine a_arg cx hX hbl hbA 1 i (by decide) (by omega) (by omega) rfl rfl dL_law_1159 dL_law_1160 dL_law_1162 dL_law_1163 dL_law_1164 ?_
    refine a_callV cx 1 (sp_X4_left hH hP.mm hM1) (M_obj hH hP.mm) rfl ml_L_163 im_X4_left se_X4_left ini_X4 cd_X4_left rfl rfl (by decide +kernel) rfl rfl ⟨(Nat.le_of_ble_eq_true rfl), (Nat.le_of_ble_eq_true rfl)⟩ (Nat.le_of_ble_eq_true rfl) dL_law_1165 ⟨show _ ≤ 603072 by omega, show _ ≤ 7211114 by omega⟩ (fun _ _ _ h => h.elim) (fun v8 ad8 τ8 hQ => ?_)
    obtain ⟨⟨w, rfl, hw⟩, h2, hH⟩ := hQ
    replace h2 := h2.symm
    subst h2
    rw [hj, if_neg hk] at hH
    refine a_istore7 cx dL_law_1168 (by decide) (by intro w h; first | (cases h; rfl) | (cases h; assumption) | (cases h; done)) ?_
    refine a_aload_n cx dL_law_1170 rfl rfl ?_
    refine a_callV cx 0 (sp_X4_thrown hH hP.mm) (M_obj hH hP.mm) rfl ml_L_108 im_X4_thrown se_X4_thrown ini_X4 cd_X4_thrown rfl rfl (by decide +kernel) rfl rfl ⟨(Nat.le_of_ble_eq_true rfl), (Nat.le_of_ble_eq_true rfl)⟩ (Nat.le_of_ble_eq_true rfl) dL_law_1171 ⟨show _ ≤ 603072 by omega, show _ ≤ 7211114 by omega⟩ (fun _ _ _ h => h.elim) (fun v8 ad8 τ8 hQ => ?_)
    obtain ⟨rfl, h2, h3⟩ := hQ
    replace h2 := h2.symm
    subst h2
    replace h3 := h3.symm
    subst h3
    refine a_iload cx dL_law_1174 rfl ?_
    refine a_icmp_eq cx (tgt := 1181) dL_law_1176 (by decide) (fun c_1176 => ?_) (fun c_1176 => (c_1176 up2_eq).elim)
    refine a_iload cx dL_law_1181 rfl ?_
    refine a_if_ne cx (tgt := 1198) dL_law_1183 (by decide) (fun c_1183 => ?_) (fun c_1183 => (hk c_1183).elim)
    refine a_goto cx (tgt := 1558) dL_law_1198 (by decide) ?_
    exact a_lv lwV_sub (a_wide (by omega) (by omega) (kk _ _ _ _ _ ⟨hH, hP.no _, ⟨f, hf⟩, ⟨f2, hf2⟩⟩))

set_option maxHeartbeats 4000000 in
set_option maxRecDepth 100000 in
/-- the law: leftAnew -/
theorem lw_leftAnew {l : Launch} {g : GW} {p : Program} {e : Env} {s : State} {m : MethodId} {args : Array Value} {below : List Frame} {meth : Method} {c : Code} {A : Nat → Prop} {Q : State → Prop} {ad : AD} {τ : RH} {cells slots b L i : Nat} {xs : Nat → Int32} {Lv : Nat → Bool} {C : ME} {ρ : RH} (cx : Cx l g p s m args meth c A cL_law 9 RL) (hX : va_X b L xs s s.heap) (hbl : b < s.heap.size) (hbA : ¬ A b) (hL : L ≤ 3072) (hi : i + 6 ≤ L) (hS : lwI g ad Lv C ρ τ) (hc : cells + 1000 ≤ 603072) (hs : slots + 10000 ≤ 7211114) (kk : ∀ ad' τ' Lv' C' ρ', lwI g ad' Lv' C' ρ' τ' → AW l g p e room_1 s m args below meth c A 9 Q ad' τ' (cells + 1000) (slots + 10000) 1558 (lwV b ad' i) []) : AW l g p e room_1 s m args below meth c A 9 Q ad τ cells slots 1201 (lwV b ad i) [] := by
  obtain ⟨hH, hP, ⟨f, hf⟩, ⟨f2, hf2⟩⟩ := hS
  have hI := hP.1
  have hO := (H_lines hH hI).1
  unfold lwV
  refine a_aload_n cx dL_law_1201 rfl rfl ?_
  refine a_arg cx hX hbl hbA 1 i (by decide) (by omega) (by omega) rfl rfl dL_law_1202 dL_law_1203 dL_law_1205 dL_law_1206 dL_law_1207 ?_
  refine a_aload_n cx dL_law_1208 rfl rfl ?_
  refine a_callSH cx 3 (sp_L_leftAnew hH hI hf) ml_L_164 st_L_leftAnew ini_L cd_L_leftAnew rfl rfl (by decide +kernel) rfl rfl ⟨(Nat.le_of_ble_eq_true rfl), (Nat.le_of_ble_eq_true rfl)⟩ (Nat.le_of_ble_eq_true rfl) dL_law_1209 ⟨show _ ≤ 603072 by omega, show _ ≤ 7211114 by omega⟩ (fun _ _ _ h => h.elim) (fun v9 ad9 τ9 hQ => ?_)
  obtain ⟨rfl, hQ⟩ := hQ
  rcases hQ with ⟨hk, had, hH⟩ | ⟨hk, h2, hH⟩
  · replace had := had.symm
    subst had
    obtain ⟨hM1, hj, ha, hE⟩ := E_leftAnew hP hk
    refine a_istore6 cx dL_law_1212 (by decide) (by intro w h; first | (cases h; rfl) | (cases h; assumption) | (cases h; done)) ?_
    refine a_aload_n cx dL_law_1214 rfl rfl ?_
    refine a_arg cx hX hbl hbA 1 i (by decide) (by omega) (by omega) rfl rfl dL_law_1215 dL_law_1216 dL_law_1218 dL_law_1219 dL_law_1220 ?_
    refine a_callV cx 1 (sp_X4_leftAnew hH (hE 0).mm hM1) (M_obj hH (hE 0).mm) rfl ml_L_166 im_X4_leftAnew se_X4_leftAnew ini_X4 cd_X4_leftAnew rfl rfl (by decide +kernel) rfl rfl ⟨(Nat.le_of_ble_eq_true rfl), (Nat.le_of_ble_eq_true rfl)⟩ (Nat.le_of_ble_eq_true rfl) dL_law_1221 ⟨show _ ≤ 603072 by omega, show _ ≤ 7211114 by omega⟩ (fun _ _ _ h => h.elim) (fun v8 ad8 τ8 hQ => ?_)
    obtain ⟨⟨w, rfl, hw⟩, h2, hH⟩ := hQ
    replace h2 := h2.symm
    subst h2
    replace hw := hw hj
    rw [if_pos hj, hj] at hH
    have hf9 := (hH.2 90 (by decide)).trans rL_90
    refine a_istore7 cx dL_law_1224 (by decide) (by intro w h; first | (cases h; rfl) | (cases h; assumption) | (cases h; done)) ?_
    refine a_aload_n cx dL_law_1226 rfl rfl ?_
    refine a_callV cx 0 (sp_X4_thrown hH (hE 0).mm) (M_obj hH (hE 0).mm) rfl ml_L_108 im_X4_thrown se_X4_thrown ini_X4 cd_X4_thrown rfl rfl (by decide +kernel) rfl rfl ⟨(Nat.le_of_ble_eq_true rfl), (Nat.le_of_ble_eq_true rfl)⟩ (Nat.le_of_ble_eq_true rfl) dL_law_1227 ⟨show _ ≤ 603072 by omega, show _ ≤ 7211114 by omega⟩ (fun _ _ _ h => h.elim) (fun v8 ad8 τ8 hQ => ?_)
    obtain ⟨rfl, h2, h3⟩ := hQ
    replace h2 := h2.symm
    subst h2
    replace h3 := h3.symm
    subst h3
    refine a_iload cx dL_law_1230 rfl ?_
    refine a_icmp_eq cx (tgt := 1237) dL_law_1232 (by decide) (fun c_1232 => ?_) (fun c_1232 => (c_1232 (up2_eq.trans hk.symm)).elim)
    refine a_iload cx dL_law_1237 rfl ?_
    refine a_if_ne cx (tgt := 1254) dL_law_1239 (by decide) (fun c_1239 => (c_1239 hk).elim) (fun c_1239 => ?_)
    refine a_aload_n cx dL_law_1242 rfl rfl ?_
    refine a_iconst cx (v := 0) dL_law_1243 (by decide) ?_
    refine a_lld cx (0) hf9 (rfl) ((by decide)) (by decide) dL_law_1244 ?_
    refine a_iload cx dL_law_1245 rfl ?_
    refine a_i2l cx dL_law_1247 ?_
    refine a_lcmp cx dL_law_1248 ?_
    refine a_if_eq cx (tgt := 1254) dL_law_1249 (by decide) (fun c_1249 => ?_) (fun c_1249 => (c_1249 (lg_of (ha.trans hw.symm))).elim)
    refine a_goto cx (tgt := 1558) dL_law_1254 (by decide) ?_
    exact a_lv lwV_sub (a_wide (by omega) (by omega) (kk _ _ _ _ _ ⟨hH, hE 0, ⟨_, rL_90⟩, ⟨f2, rL_91.trans hf2⟩⟩))
  · replace h2 := h2.symm
    subst h2
    have hj := ((e_leftAnew hP.R hI (j := (xs (i + 1)))).1).symm
    have hM1 := hP.2.1
    refine a_istore6 cx dL_law_1212 (by decide) (by intro w h; first | (cases h; rfl) | (cases h; assumption) | (cases h; done)) ?_
    refine a_aload_n cx dL_law_1214 rfl rfl ?_
    refine a_arg cx hX hbl hbA 1 i (by decide) (by omega) (by omega) rfl rfl dL_law_1215 dL_law_1216 dL_law_1218 dL_law_1219 dL_law_1220 ?_
    refine a_callV cx 1 (sp_X4_leftAnew hH hP.mm hM1) (M_obj hH hP.mm) rfl ml_L_166 im_X4_leftAnew se_X4_leftAnew ini_X4 cd_X4_leftAnew rfl rfl (by decide +kernel) rfl rfl ⟨(Nat.le_of_ble_eq_true rfl), (Nat.le_of_ble_eq_true rfl)⟩ (Nat.le_of_ble_eq_true rfl) dL_law_1221 ⟨show _ ≤ 603072 by omega, show _ ≤ 7211114 by omega⟩ (fun _ _ _ h => h.elim) (fun v8 ad8 τ8 hQ => ?_)
    obtain ⟨⟨w, rfl, hw⟩, h2, hH⟩ := hQ
    replace h2 := h2.symm
    subst h2
    rw [hj, if_neg hk] at hH
    refine a_istore7 cx dL_law_1224 (by decide) (by intro w h; first | (cases h; rfl) | (cases h; assumption) | (cases h; done)) ?_
    refine a_aload_n cx dL_law_1226 rfl rfl ?_
    refine a_callV cx 0 (sp_X4_thrown hH hP.mm) (M_obj hH hP.mm) rfl ml_L_108 im_X4_thrown se_X4_thrown ini_X4 cd_X4_thrown rfl rfl (by decide +kernel) rfl rfl ⟨(Nat.le_of_ble_eq_true rfl), (Nat.le_of_ble_eq_true rfl)⟩ (Nat.le_of_ble_eq_true rfl) dL_law_1227 ⟨show _ ≤ 603072 by omega, show _ ≤ 7211114 by omega⟩ (fun _ _ _ h => h.elim) (fun v8 ad8 τ8 hQ => ?_)
    obtain ⟨rfl, h2, h3⟩ := hQ
    replace h2 := h2.symm
    subst h2
    replace h3 := h3.symm
    subst h3
    refine a_iload cx dL_law_1230 rfl ?_
    refine a_icmp_eq cx (tgt := 1237) dL_law_1232 (by decide) (fun c_1232 => ?_) (fun c_1232 => (c_1232 up2_eq).elim)
    refine a_iload cx dL_law_1237 rfl ?_
    refine a_if_ne cx (tgt := 1254) dL_law_1239 (by decide) (fun c_1239 => ?_) (fun c_1239 => (hk c_1239).elim)
    refine a_goto cx (tgt := 1558) dL_law_1254 (by decide) ?_
    exact a_lv lwV_sub (a_wide (by omega) (by omega) (kk _ _ _ _ _ ⟨hH, hP.no _, ⟨f, hf⟩, ⟨f2, hf2⟩⟩))

