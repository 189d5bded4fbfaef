set_option maxHeartbeats 4000000 in
set_option maxRecDepth 100000 in
/-- the law: addBeamline -/
theorem lw_addBeamline {l : Launch} {g : GW} {p : Program} {e : Env} {s : State} {m : MethodId} {args : Array Value} {below : List Frame} {meth : Method} {c : Code} {A : Nat → Prop} {Q : State → Prop} {ad : AD} {τ : RH} {cells slots b L i : Nat} {xs : Nat → Int32} {Lv : Nat → Bool} {C : ME} {ρ : RH} (cx : Cx l g p s m args meth c A cL_law 9 RL) (hX : va_X b L xs s s.heap) (hbl : b < s.heap.size) (hbA : ¬ A b) (hL : L ≤ 3072) (hi : i + 6 ≤ L) (hS : lwI g ad Lv C ρ τ) (hc : cells + 1000 ≤ 603072) (hs : slots + 10000 ≤ 7211114) (kk : ∀ ad' τ' Lv' C' ρ', lwI g ad' Lv' C' ρ' τ' → AW l g p e room_1 s m args below meth c A 9 Q ad' τ' (cells + 1000) (slots + 10000) 1558 (lwV b ad' i) []) : AW l g p e room_1 s m args below meth c A 9 Q ad τ cells slots 152 (lwV b ad i) [] := by
  obtain ⟨hH, hP, ⟨f, hf⟩, ⟨f2, hf2⟩⟩ := hS
  have hI := hP.1
  have hO := (H_lines hH hI).1
  unfold lwV
  refine a_aload_n cx dL_law_152 rfl rfl ?_
  refine a_arg cx hX hbl hbA 1 i (by decide) (by omega) (by omega) rfl rfl dL_law_153 dL_law_154 dL_law_156 dL_law_157 dL_law_158 ?_
  refine a_arg cx hX hbl hbA 2 i (by decide) (by omega) (by omega) rfl rfl dL_law_159 dL_law_160 dL_law_162 dL_law_163 dL_law_164 ?_
  refine a_aload_n cx dL_law_165 rfl rfl ?_
  refine a_callSH cx 4 (sp_L_addBeamline hH hI hf hP.2.2.1) ml_L_102 st_L_addBeamline ini_L cd_L_addBeamline rfl rfl (by decide +kernel) rfl rfl ⟨(Nat.le_of_ble_eq_true rfl), (Nat.le_of_ble_eq_true rfl)⟩ (Nat.le_of_ble_eq_true rfl) dL_law_166 ⟨show _ ≤ 603072 by omega, show _ ≤ 7211114 by omega⟩ (fun _ _ _ h => h.elim) (fun v9 ad9 τ9 hQ => ?_)
  obtain ⟨rfl, hQ⟩ := hQ
  rcases hQ with ⟨hk, had, hH⟩ | ⟨hk, h2, hH⟩
  · rw [← had 0 (by have := hI.1; omega) (by decide), ← had 60 (by have := hI.1; omega) (by decide), ← had 90 (by have := hI.1; omega) (by decide), ← had 91 (by have := hI.1; omega) (by decide)]
    obtain ⟨hM1, hj, ha, hE⟩ := E_addBeamline hP hk
    refine a_istore6 cx dL_law_169 (by decide) (by intro w h; first | (cases h; rfl) | (cases h; assumption) | (cases h; done)) ?_
    refine a_aload_n cx dL_law_171 rfl rfl ?_
    refine a_arg cx hX hbl hbA 1 i (by decide) (by omega) (by omega) rfl rfl dL_law_172 dL_law_173 dL_law_175 dL_law_176 dL_law_177 ?_
    refine a_arg cx hX hbl hbA 2 i (by decide) (by omega) (by omega) rfl rfl dL_law_178 dL_law_179 dL_law_181 dL_law_182 dL_law_183 ?_
    refine a_callV cx 2 (sp_X4_addBeamline hH (hE 0).mm hM1) (M_obj hH (hE 0).mm) rfl ml_L_107 im_X4_addBeamline se_X4_addBeamline ini_X4 cd_X4_addBeamline rfl rfl (by decide +kernel) rfl rfl ⟨(Nat.le_of_ble_eq_true rfl), (Nat.le_of_ble_eq_true rfl)⟩ (Nat.le_of_ble_eq_true rfl) dL_law_184 ⟨show _ ≤ 603072 by omega, show _ ≤ 7211114 by omega⟩ (fun _ _ _ h => h.elim) (fun v8 ad8 τ8 hQ => ?_)
    obtain ⟨⟨w, rfl, hw⟩, h2, hH⟩ := hQ
    replace h2 := h2.symm
    subst h2
    replace hw := hw hj
    rw [if_pos hj, hj] at hH
    have hf9 := (hH.2 90 (by decide)).trans rL_90
    refine a_istore7 cx dL_law_187 (by decide) (by intro w h; first | (cases h; rfl) | (cases h; assumption) | (cases h; done)) ?_
    refine a_aload_n cx dL_law_189 rfl rfl ?_
    refine a_callV cx 0 (sp_X4_thrown hH (hE 0).mm) (M_obj hH (hE 0).mm) rfl ml_L_108 im_X4_thrown se_X4_thrown ini_X4 cd_X4_thrown rfl rfl (by decide +kernel) rfl rfl ⟨(Nat.le_of_ble_eq_true rfl), (Nat.le_of_ble_eq_true rfl)⟩ (Nat.le_of_ble_eq_true rfl) dL_law_190 ⟨show _ ≤ 603072 by omega, show _ ≤ 7211114 by omega⟩ (fun _ _ _ h => h.elim) (fun v8 ad8 τ8 hQ => ?_)
    obtain ⟨rfl, h2, h3⟩ := hQ
    replace h2 := h2.symm
    subst h2
    replace h3 := h3.symm
    subst h3
    refine a_iload cx dL_law_193 rfl ?_
    refine a_icmp_eq cx (tgt := 200) dL_law_195 (by decide) (fun c_195 => ?_) (fun c_195 => (c_195 (up2_eq.trans hk.symm)).elim)
    refine a_iload cx dL_law_200 rfl ?_
    refine a_if_ne cx (tgt := 217) dL_law_202 (by decide) (fun c_202 => (c_202 hk).elim) (fun c_202 => ?_)
    refine a_aload_n cx dL_law_205 rfl rfl ?_
    refine a_iconst cx (v := 0) dL_law_206 (by decide) ?_
    refine a_lld cx (0) hf9 (rfl) ((by decide)) (by decide) dL_law_207 ?_
    refine a_iload cx dL_law_208 rfl ?_
    refine a_i2l cx dL_law_210 ?_
    refine a_lcmp cx dL_law_211 ?_
    refine a_if_eq cx (tgt := 217) dL_law_212 (by decide) (fun c_212 => ?_) (fun c_212 => (c_212 (lg_of (ha.trans hw.symm))).elim)
    refine a_goto cx (tgt := 1558) dL_law_217 (by decide) ?_
    exact a_lv lwV_sub (a_wide (by omega) (by omega) (kk _ _ _ _ _ ⟨hH, hE 0, ⟨_, rL_90⟩, ⟨f2, rL_91.trans hf2⟩⟩))
  · replace h2 := h2.symm
    subst h2
    have hj := ((e_addBeamline hP.R hI hP.2.1 (s := (xs (i + 1))) (m := (xs (i + 2)))).1).symm
    have hM1 := hP.2.1
    refine a_istore6 cx dL_law_169 (by decide) (by intro w h; first | (cases h; rfl) | (cases h; assumption) | (cases h; done)) ?_
    refine a_aload_n cx dL_law_171 rfl rfl ?_
    refine a_arg cx hX hbl hbA 1 i (by decide) (by omega) (by omega) rfl rfl dL_law_172 dL_law_173 dL_law_175 dL_law_176 dL_law_177 ?_
    refine a_arg cx hX hbl hbA 2 i (by decide) (by omega) (by omega) rfl rfl dL_law_178 dL_law_179 dL_law_181 dL_law_182 dL_law_183 ?_
    refine a_callV cx 2 (sp_X4_addBeamline hH hP.mm hM1) (M_obj hH hP.mm) rfl ml_L_107 im_X4_addBeamline se_X4_addBeamline ini_X4 cd_X4_addBeamline rfl rfl (by decide +kernel) rfl rfl ⟨(Nat.le_of_ble_eq_true rfl), (Nat.le_of_ble_eq_true rfl)⟩ (Nat.le_of_ble_eq_true rfl) dL_law_184 ⟨show _ ≤ 603072 by omega, show _ ≤ 7211114 by omega⟩ (fun _ _ _ h => h.elim) (fun v8 ad8 τ8 hQ => ?_)
    obtain ⟨⟨w, rfl, hw⟩, h2, hH⟩ := hQ
    replace h2 := h2.symm
    subst h2
    rw [hj, if_neg hk] at hH
    refine a_istore7 cx dL_law_187 (by decide) (by intro w h; first | (cases h; rfl) | (cases h; assumption) | (cases h; done)) ?_
    refine a_aload_n cx dL_law_189 rfl rfl ?_
    refine a_callV cx 0 (sp_X4_thrown hH hP.mm) (M_obj hH hP.mm) rfl ml_L_108 im_X4_thrown se_X4_thrown ini_X4 cd_X4_thrown rfl rfl (by decide +kernel) rfl rfl ⟨(Nat.le_of_ble_eq_true rfl), (Nat.le_of_ble_eq_true rfl)⟩ (Nat.le_of_ble_eq_true rfl) dL_law_190 ⟨show _ ≤ 603072 by omega, show _ ≤ 7211114 by omega⟩ (fun _ _ _ h => h.elim) (fun v8 ad8 τ8 hQ => ?_)
    obtain ⟨rfl, h2, h3⟩ := hQ
    replace h2 := h2.symm
    subst h2
    replace h3 := h3.symm
    subst h3
    refine a_iload cx dL_law_193 rfl ?_
    refine a_icmp_eq cx (tgt := 200) dL_law_195 (by decide) (fun c_195 => ?_) (fun c_195 => (c_195 up2_eq).elim)
    refine a_iload cx dL_law_200 rfl ?_
    refine a_if_ne cx (tgt := 217) dL_law_202 (by decide) (fun c_202 => ?_) (fun c_202 => (hk c_202).elim)
    refine a_goto cx (tgt := 1558) dL_law_217 (by decide) ?_
    exact a_lv lwV_sub (a_wide (by omega) (by omega) (kk _ _ _ _ _ ⟨hH, hP.no _, ⟨f, hf⟩, ⟨f2, hf2⟩⟩))

set_option maxHeartbeats 4000000 in
set_option maxRecDepth 100000 in
/-- the law: setRate -/
theorem lw_setRate {l : Launch} {g : GW} {p : Program} {e : Env} {s : State} {m : MethodId} {args : Array Value} {below : List Frame} {meth : Method} {c : Code} {A : Nat → Prop} {Q : State → Prop} {ad : AD} {τ : RH} {cells slots b L i : Nat} {xs : Nat → Int32} {Lv : Nat → Bool} {C : ME} {ρ : RH} (cx : Cx l g p s m args meth c A cL_law 9 RL) (hX : va_X b L xs s s.heap) (hbl : b < s.heap.size) (hbA : ¬ A b) (hL : L ≤ 3072) (hi : i + 6 ≤ L) (hS : lwI g ad Lv C ρ τ) (hc : cells + 1000 ≤ 603072) (hs : slots + 10000 ≤ 7211114) (kk : ∀ ad' τ' Lv' C' ρ', lwI g ad' Lv' C' ρ' τ' → AW l g p e room_1 s m args below meth c A 9 Q ad' τ' (cells + 1000) (slots + 10000) 1558 (lwV b ad' i) []) : AW l g p e room_1 s m args below meth c A 9 Q ad τ cells slots 220 (lwV b ad i) [] := by
  obtain ⟨hH, hP, ⟨f, hf⟩, ⟨f2, hf2⟩⟩ := hS
  have hI := hP.1
  have hO := (H_lines hH hI).1
  unfold lwV
  refine a_aload_n cx dL_law_220 rfl rfl ?_
  refine a_arg cx hX hbl hbA 1 i (by decide) (by omega) (by omega) rfl rfl dL_law_221 dL_law_222 dL_law_224 dL_law_225 dL_law_226 ?_
  refine a_arg cx hX hbl hbA 2 i (by decide) (by omega) (by omega) rfl rfl dL_law_227 dL_law_228 dL_law_230 dL_law_231 dL_law_232 ?_
  refine a_aload_n cx dL_law_233 rfl rfl ?_
  refine a_callSH cx 4 (sp_L_setRate hH hI hf) ml_L_111 st_L_setRate ini_L cd_L_setRate rfl rfl (by decide +kernel) rfl rfl ⟨(Nat.le_of_ble_eq_true rfl), (Nat.le_of_ble_eq_true rfl)⟩ (Nat.le_of_ble_eq_true rfl) dL_law_234 ⟨show _ ≤ 603072 by omega, show _ ≤ 7211114 by omega⟩ (fun _ _ _ h => h.elim) (fun v9 ad9 τ9 hQ => ?_)
  obtain ⟨rfl, hQ⟩ := hQ
  rcases hQ with ⟨hk, had, hH⟩ | ⟨hk, h2, hH⟩
  · replace had := had.symm
    subst had
    obtain ⟨hM1, hj, ha, hE⟩ := E_setRate hP hk
    refine a_istore6 cx dL_law_237 (by decide) (by intro w h; first | (cases h; rfl) | (cases h; assumption) | (cases h; done)) ?_
    refine a_aload_n cx dL_law_239 rfl rfl ?_
    refine a_arg cx hX hbl hbA 1 i (by decide) (by omega) (by omega) rfl rfl dL_law_240 dL_law_241 dL_law_243 dL_law_244 dL_law_245 ?_
    refine a_arg cx hX hbl hbA 2 i (by decide) (by omega) (by omega) rfl rfl dL_law_246 dL_law_247 dL_law_249 dL_law_250 dL_law_251 ?_
    refine a_callV cx 2 (sp_X4_setRate hH (hE 0).mm hM1) (M_obj hH (hE 0).mm) rfl ml_L_113 im_X4_setRate se_X4_setRate ini_X4 cd_X4_setRate rfl rfl (by decide +kernel) rfl rfl ⟨(Nat.le_of_ble_eq_true rfl), (Nat.le_of_ble_eq_true rfl)⟩ (Nat.le_of_ble_eq_true rfl) dL_law_252 ⟨show _ ≤ 603072 by omega, show _ ≤ 7211114 by omega⟩ (fun _ _ _ h => h.elim) (fun v8 ad8 τ8 hQ => ?_)
    obtain ⟨⟨w, rfl, hw⟩, h2, hH⟩ := hQ
    replace h2 := h2.symm
    subst h2
    replace hw := hw hj
    rw [if_pos hj, hj] at hH
    have hf9 := (hH.2 90 (by decide)).trans rL_90
    refine a_istore7 cx dL_law_255 (by decide) (by intro w h; first | (cases h; rfl) | (cases h; assumption) | (cases h; done)) ?_
    refine a_aload_n cx dL_law_257 rfl rfl ?_
    refine a_callV cx 0 (sp_X4_thrown hH (hE 0).mm) (M_obj hH (hE 0).mm) rfl ml_L_108 im_X4_thrown se_X4_thrown ini_X4 cd_X4_thrown rfl rfl (by decide +kernel) rfl rfl ⟨(Nat.le_of_ble_eq_true rfl), (Nat.le_of_ble_eq_true rfl)⟩ (Nat.le_of_ble_eq_true rfl) dL_law_258 ⟨show _ ≤ 603072 by omega, show _ ≤ 7211114 by omega⟩ (fun _ _ _ h => h.elim) (fun v8 ad8 τ8 hQ => ?_)
    obtain ⟨rfl, h2, h3⟩ := hQ
    replace h2 := h2.symm
    subst h2
    replace h3 := h3.symm
    subst h3
    refine a_iload cx dL_law_261 rfl ?_
    refine a_icmp_eq cx (tgt := 268) dL_law_263 (by decide) (fun c_263 => ?_) (fun c_263 => (c_263 (up2_eq.trans hk.symm)).elim)
    refine a_iload cx dL_law_268 rfl ?_
    refine a_if_ne cx (tgt := 285) dL_law_270 (by decide) (fun c_270 => (c_270 hk).elim) (fun c_270 => ?_)
    refine a_aload_n cx dL_law_273 rfl rfl ?_
    refine a_iconst cx (v := 0) dL_law_274 (by decide) ?_
    refine a_lld cx (0) hf9 (rfl) ((by decide)) (by decide) dL_law_275 ?_
    refine a_iload cx dL_law_276 rfl ?_
    refine a_i2l cx dL_law_278 ?_
    refine a_lcmp cx dL_law_279 ?_
    refine a_if_eq cx (tgt := 285) dL_law_280 (by decide) (fun c_280 => ?_) (fun c_280 => (c_280 (lg_of (ha.trans hw.symm))).elim)
    refine a_goto cx (tgt := 1558) dL_law_285 (by decide) ?_
    exact a_lv lwV_sub (a_wide (by omega) (by omega) (kk _ _ _ _ _ ⟨hH, hE 0, ⟨_, rL_90⟩, ⟨f2, rL_91.trans hf2⟩⟩))
  · replace h2 := h2.symm
    subst h2
    have hj := ((e_setRate hP.R hI (b := (xs (i + 1))) (u := (xs (i + 2)))).1).symm
    have hM1 := hP.2.1
    refine a_istore6 cx dL_law_237 (by decide) (by intro w h; first | (cases h; rfl) | (cases h; assumption) | (cases h; done)) ?_
    refine a_aload_n cx dL_law_239 rfl rfl ?_
    refine a_arg cx hX hbl hbA 1 i (by decide) (by omega) (by omega) rfl rfl dL_law_240 dL_law_241 dL_law_243 dL_law_244 dL_law_245 ?_
    refine a_arg cx hX hbl hbA 2 i (by decide) (by omega) (by omega) rfl rfl dL_law_246 dL_law_247 dL_law_249 dL_law_250 dL_law_251 ?_
    refine a_callV cx 2 (sp_X4_setRate hH hP.mm hM1) (M_obj hH hP.mm) rfl ml_L_113 im_X4_setRate se_X4_setRate ini_X4 cd_X4_setRate rfl rfl (by decide +kernel) rfl rfl ⟨(Nat.le_of_ble_eq_true rfl), (Nat.le_of_ble_eq_true rfl)⟩ (Nat.le_of_ble_eq_true rfl) dL_law_252 ⟨show _ ≤ 603072 by omega, show _ ≤ 7211114 by omega⟩ (fun _ _ _ h => h.elim) (fun v8 ad8 τ8 hQ => ?_)
    obtain ⟨⟨w, rfl, hw⟩, h2, hH⟩ := hQ
    replace h2 := h2.symm
    subst h2
    rw [hj, if_neg hk] at hH
    refine a_istore7 cx dL_law_255 (by decide) (by intro w h; first | (cases h; rfl) | (cases h; assumption) | (cases h; done)) ?_
    refine a_aload_n cx dL_law_257 rfl rfl ?_
    refine a_callV cx 0 (sp_X4_thrown hH hP.mm) (M_obj hH hP.mm) rfl ml_L_108 im_X4_thrown se_X4_thrown ini_X4 cd_X4_thrown rfl rfl (by decide +kernel) rfl rfl ⟨(Nat.le_of_ble_eq_true rfl), (Nat.le_of_ble_eq_true rfl)⟩ (Nat.le_of_ble_eq_true rfl) dL_law_258 ⟨show _ ≤ 603072 by omega, show _ ≤ 7211114 by omega⟩ (fun _ _ _ h => h.elim) (fun v8 ad8 τ8 hQ => ?_)
    obtain ⟨rfl, h2, h3⟩ := hQ
    replace h2 := h2.symm
    subst h2
    replace h3 := h3.symm
    subst h3
    refine a_iload cx dL_law_261 rfl ?_
    refine a_icmp_eq cx (tgt := 268) dL_law_263 (by decide) (fun c_263 => ?_) (fun c_263 => (c_263 up2_eq).elim)
    refine a_iload cx dL_law_268 rfl ?_
    refine a_if_ne cx (tgt := 285) dL_law_270 (by decide) (fun c_270 => ?_) (fun c_270 => (hk c_270).elim)
    refine a_goto cx (tgt := 1558) dL_law_285 (by decide) ?_
    exact a_lv lwV_sub (a_wide (by omega) (by omega) (kk _ _ _ _ _ ⟨hH, hP.no _, ⟨f, hf⟩, ⟨f2, hf2⟩⟩))

set_option maxHeartbeats 4000000 in
set_option maxRecDepth 100000 in
/-- the law: propose -/
theorem lw_propose {l : Launch} {g : GW} {p : Program} {e : Env} {s : State} {m : MethodId} {args : Array Value} {below : List Frame} {meth : Method} {c : Code} {A : Nat → Prop} {Q : State → Prop} {ad : AD} {τ : RH} {cells slots b L i : Nat} {xs : Nat → Int32} {Lv : Nat → Bool} {C : ME} {ρ : RH} (cx : Cx l g p s m args meth c A cL_law 9 RL) (hX : va_X b L xs s s.heap) (hbl : b < s.heap.size) (hbA : ¬ A b) (hL : L ≤ 3072) (hi : i + 6 ≤ L) (hS : lwI g ad Lv C ρ τ) (hc : cells + 1000 ≤ 603072) (hs : slots + 10000 ≤ 7211114) (kk : ∀ ad' τ' Lv' C' ρ', lwI g ad' Lv' C' ρ' τ' → AW l g p e room_1 s m args below meth c A 9 Q ad' τ' (cells + 1000) (slots + 10000) 1558 (lwV b ad' i) []) : AW l g p e room_1 s m args below meth c A 9 Q ad τ cells slots 288 (lwV b ad i) [] := by
  obtain ⟨hH, hP, ⟨f, hf⟩, ⟨f2, hf2⟩⟩ := hS
  have hI := hP.1
  have hO := (H_lines hH hI).1
  unfold lwV
  refine a_aload_n cx dL_law_288 rfl rfl ?_
  refine a_arg cx hX hbl hbA 1 i (by decide) (by omega) (by omega) rfl rfl dL_law_289 dL_law_290 dL_law_292 dL_law_293 dL_law_294 ?_
  refine a_arg cx hX hbl hbA 2 i (by decide) (by omega) (by omega) rfl rfl dL_law_295 dL_law_296 dL_law_298 dL_law_299 dL_law_300 ?_
  refine a_arg cx hX hbl hbA 3 i (by decide) (by omega) (by omega) rfl rfl dL_law_301 dL_law_302 dL_law_304 dL_law_305 dL_law_306 ?_
  refine a_arg cx hX hbl hbA 4 i (by decide) (by omega) (by omega) rfl rfl dL_law_307 dL_law_308 dL_law_310 dL_law_311 dL_law_312 ?_
  refine a_arg cx hX hbl hbA 5 i (by decide) (by omega) (by omega) rfl rfl dL_law_313 dL_law_314 dL_law_316 dL_law_317 dL_law_318 ?_
  refine a_aload_n cx dL_law_319 rfl rfl ?_
  refine a_callSH cx 7 (sp_L_propose hH hI hf hP.2.2.1) ml_L_114 st_L_propose ini_L cd_L_propose rfl rfl (by decide +kernel) rfl rfl ⟨(Nat.le_of_ble_eq_true rfl), (Nat.le_of_ble_eq_true rfl)⟩ (Nat.le_of_ble_eq_true rfl) dL_law_320 ⟨show _ ≤ 603072 by omega, show _ ≤ 7211114 by omega⟩ (fun _ _ _ h => h.elim) (fun v9 ad9 τ9 hQ => ?_)
  obtain ⟨rfl, hQ⟩ := hQ
  rcases hQ with ⟨hk, had, hH⟩ | ⟨hk, h2, hH⟩
  · rw [← had 0 (by have := hI.2.1; omega) (by decide), ← had 60 (by have := hI.2.1; omega) (by decide), ← had 90 (by have := hI.2.1; omega) (by decide), ← had 91 (by have := hI.2.1; omega) (by decide)]
    obtain ⟨hM1, hj, ha, hE⟩ := E_propose hP hk
    refine a_istore6 cx dL_law_323 (by decide) (by intro w h; first | (cases h; rfl) | (cases h; assumption) | (cases h; done)) ?_
    refine a_aload_n cx dL_law_325 rfl rfl ?_
    refine a_arg cx hX hbl hbA 1 i (by decide) (by omega) (by omega) rfl rfl dL_law_326 dL_law_327 dL_law_329 dL_law_330 dL_law_331 ?_
    refine a_arg cx hX hbl hbA 2 i (by decide) (by omega) (by omega) rfl rfl dL_law_332 dL_law_333 dL_law_335 dL_law_336 dL_law_337 ?_
    refine a_arg cx hX hbl hbA 3 i (by decide) (by omega) (by omega) rfl rfl dL_law_338 dL_law_339 dL_law_341 dL_law_342 dL_law_343 ?_
    refine a_arg cx hX hbl hbA 4 i (by decide) (by omega) (by omega) rfl rfl dL_law_344 dL_law_345 dL_law_347 dL_law_348 dL_law_349 ?_
    refine a_arg cx hX hbl hbA 5 i (by decide) (by omega) (by omega) rfl rfl dL_law_350 dL_law_351 dL_law_353 dL_law_354 dL_law_355 ?_
    refine a_callV cx 5 (sp_X4_propose hH (hE 0).mm hM1) (M_obj hH (hE 0).mm) rfl ml_L_117 im_X4_propose se_X4_propose ini_X4 cd_X4_propose rfl rfl (by decide +kernel) rfl rfl ⟨(Nat.le_of_ble_eq_true rfl), (Nat.le_of_ble_eq_true rfl)⟩ (Nat.le_of_ble_eq_true rfl) dL_law_356 ⟨show _ ≤ 603072 by omega, show _ ≤ 7211114 by omega⟩ (fun _ _ _ h => h.elim) (fun v8 ad8 τ8 hQ => ?_)
    obtain ⟨⟨w, rfl, hw⟩, h2, hH⟩ := hQ
    replace h2 := h2.symm
    subst h2
    replace hw := hw hj
    rw [if_pos hj, hj] at hH
    have hf9 := (hH.2 90 (by decide)).trans rL_90
    refine a_istore7 cx dL_law_359 (by decide) (by intro w h; first | (cases h; rfl) | (cases h; assumption) | (cases h; done)) ?_
    refine a_aload_n cx dL_law_361 rfl rfl ?_
    refine a_callV cx 0 (sp_X4_thrown hH (hE 0).mm) (M_obj hH (hE 0).mm) rfl ml_L_108 im_X4_thrown se_X4_thrown ini_X4 cd_X4_thrown rfl rfl (by decide +kernel) rfl rfl ⟨(Nat.le_of_ble_eq_true rfl), (Nat.le_of_ble_eq_true rfl)⟩ (Nat.le_of_ble_eq_true rfl) dL_law_362 ⟨show _ ≤ 603072 by omega, show _ ≤ 7211114 by omega⟩ (fun _ _ _ h => h.elim) (fun v8 ad8 τ8 hQ => ?_)
    obtain ⟨rfl, h2, h3⟩ := hQ
    replace h2 := h2.symm
    subst h2
    replace h3 := h3.symm
    subst h3
    refine a_iload cx dL_law_365 rfl ?_
    refine a_icmp_eq cx (tgt := 372) dL_law_367 (by decide) (fun c_367 => ?_) (fun c_367 => (c_367 (up2_eq.trans hk.symm)).elim)
    refine a_iload cx dL_law_372 rfl ?_
    refine a_if_ne cx (tgt := 389) dL_law_374 (by decide) (fun c_374 => (c_374 hk).elim) (fun c_374 => ?_)
    refine a_aload_n cx dL_law_377 rfl rfl ?_
    refine a_iconst cx (v := 0) dL_law_378 (by decide) ?_
    refine a_lld cx (0) hf9 (rfl) ((by decide)) (by decide) dL_law_379 ?_
    refine a_iload cx dL_law_380 rfl ?_
    refine a_i2l cx dL_law_382 ?_
    refine a_lcmp cx dL_law_383 ?_
    refine a_if_eq cx (tgt := 389) dL_law_384 (by decide) (fun c_384 => ?_) (fun c_384 => (c_384 (lg_of (ha.trans hw.symm))).elim)
    refine a_goto cx (tgt := 1558) dL_law_389 (by decide) ?_
    exact a_lv lwV_sub (a_wide (by omega) (by omega) (kk _ _ _ _ _ ⟨hH, hE 0, ⟨_, rL_90⟩, ⟨f2, rL_91.trans hf2⟩⟩))
  · replace h2 := h2.symm
    subst h2
    have hj := (prp_code hP.R hI hP.2.1 (b := (xs (i + 1))) (us := (xs (i + 2))) (sc := (xs (i + 3))) (w := (xs (i + 4))) (d := (xs (i + 5)))).symm
    have hM1 := hP.2.1
    refine a_istore6 cx dL_law_323 (by decide) (by intro w h; first | (cases h; rfl) | (cases h; assumption) | (cases h; done)) ?_
    refine a_aload_n cx dL_law_325 rfl rfl ?_
    refine a_arg cx hX hbl hbA 1 i (by decide) (by omega) (by omega) rfl rfl dL_law_326 dL_law_327 dL_law_329 dL_law_330 dL_law_331 ?_
    refine a_arg cx hX hbl hbA 2 i (by decide) (by omega) (by omega) rfl rfl dL_law_332 dL_law_333 dL_law_335 dL_law_336 dL_law_337 ?_
    refine a_arg cx hX hbl hbA 3 i (by decide) (by omega) (by omega) rfl rfl dL_law_338 dL_law_339 dL_law_341 dL_law_342 dL_law_343 ?_
    refine a_arg cx hX hbl hbA 4 i (by decide) (by omega) (by omega) rfl rfl dL_law_344 dL_law_345 dL_law_347 dL_law_348 dL_law_349 ?_
    refine a_arg cx hX hbl hbA 5 i (by decide) (by omega) (by omega) rfl rfl dL_law_350 dL_law_351 dL_law_353 dL_law_354 dL_law_355 ?_
    refine a_callV cx 5 (sp_X4_propose hH hP.mm hM1) (M_obj hH hP.mm) rfl ml_L_117 im_X4_propose se_X4_propose ini_X4 cd_X4_propose rfl rfl (by decide +kernel) rfl rfl ⟨(Nat.le_of_ble_eq_true rfl), (Nat.le_of_ble_eq_true rfl)⟩ (Nat.le_of_ble_eq_true rfl) dL_law_356 ⟨show _ ≤ 603072 by omega, show _ ≤ 7211114 by omega⟩ (fun _ _ _ h => h.elim) (fun v8 ad8 τ8 hQ => ?_)
    obtain ⟨⟨w, rfl, hw⟩, h2, hH⟩ := hQ
    replace h2 := h2.symm
    subst h2
    rw [hj, if_neg hk] at hH
    refine a_istore7 cx dL_law_359 (by decide) (by intro w h; first | (cases h; rfl) | (cases h; assumption) | (cases h; done)) ?_
    refine a_aload_n cx dL_law_361 rfl rfl ?_
    refine a_callV cx 0 (sp_X4_thrown hH hP.mm) (M_obj hH hP.mm) rfl ml_L_108 im_X4_thrown se_X4_thrown ini_X4 cd_X4_thrown rfl rfl (by decide +kernel) rfl rfl ⟨(Nat.le_of_ble_eq_true rfl), (Nat.le_of_ble_eq_true rfl)⟩ (Nat.le_of_ble_eq_true rfl) dL_law_362 ⟨show _ ≤ 603072 by omega, show _ ≤ 7211114 by omega⟩ (fun _ _ _ h => h.elim) (fun v8 ad8 τ8 hQ => ?_)
    obtain ⟨rfl, h2, h3⟩ := hQ
    replace h2 := h2.symm
    subst h2
    replace h3 := h3.symm
    subst h3
    refine a_iload cx dL_law_365 rfl ?_
    refine a_icmp_eq cx (tgt := 372) dL_law_367 (by decide) (fun c_367 => ?_) (fun c_367 => (c_367 up2_eq).elim)
    refine a_iload cx dL_law_372 rfl ?_
    refine a_if_ne cx (tgt := 389) dL_law_374 (by decide) (fun c_374 => ?_) (fun c_374 => (hk c_374).elim)
    refine a_goto cx (tgt := 1558) dL_law_389 (by decide) ?_
    exact a_lv lwV_sub (a_wide (by omega) (by omega) (kk _ _ _ _ _ ⟨hH, hP.no _, ⟨f, hf⟩, ⟨f2, hf2⟩⟩))

set_option maxHeartbeats 4000000 in
set_option maxRecDepth 100000 in
/-- the law: meet -/
theorem lw_meet {l : Launch} {g : GW} {p : Program} {e : Env} {s : State} {m : MethodId} {args : Array Value} {below : List Frame} {meth : Method} {c : Code} {A : Nat → Prop} {Q : State → Prop} {ad : AD} {τ : RH} {cells slots b L i : Nat} {xs : Nat → Int32} {Lv : Nat → Bool} {C : ME} {ρ : RH} (cx : Cx l g p s m args meth c A cL_law 9 RL) (hX : va_X b L xs s s.heap) (hbl : b < s.heap.size) (hbA : ¬ A b) (hL : L ≤ 3072) (hi : i + 6 ≤ L) (hS : lwI g ad Lv C ρ τ) (hc : cells + 1000 ≤ 603072) (hs : slots + 10000 ≤ 7211114) (kk : ∀ ad' τ' Lv' C' ρ', lwI g ad' Lv' C' ρ' τ' → AW l g p e room_1 s m args below meth c A 9 Q ad' τ' (cells + 1000) (slots + 10000) 1558 (lwV b ad' i) []) : AW l g p e room_1 s m args below meth c A 9 Q ad τ cells slots 392 (lwV b ad i) [] := by
  obtain ⟨hH, hP, ⟨f, hf⟩, ⟨f2, hf2⟩⟩ := hS
  have hI := hP.1
  have hO := (H_lines hH hI).1
  unfold lwV
  refine a_aload_n cx dL_law_392 rfl rfl ?_
  refine a_arg cx hX hbl hbA 1 i (by decide) (by omega) (by omega) rfl rfl dL_law_393 dL_law_394 dL_law_396 dL_law_397 dL_law_398 ?_
  refine a_aload_n cx dL_law_399 rfl rfl ?_
  refine a_callSH cx 3 (sp_L_meet hH hI hf) ml_L_118 st_L_meet ini_L cd_L_meet rfl rfl (by decide +kernel) rfl rfl ⟨(Nat.le_of_ble_eq_true rfl), (Nat.le_of_ble_eq_true rfl)⟩ (Nat.le_of_ble_eq_true rfl) dL_law_400 ⟨show _ ≤ 603072 by omega, show _ ≤ 7211114 by omega⟩ (fun _ _ _ h => h.elim) (fun v9 ad9 τ9 hQ => ?_)
  obtain ⟨rfl, hQ⟩ := hQ
  rcases hQ with ⟨hk, had, hH⟩ | ⟨hk, h2, hH⟩
  · rw [← had 0 (fun q => by have := line_lt hP (kM0 hk); omega), ← had 60 (fun q => by have := line_lt hP (kM0 hk); omega), ← had 90 (fun q => by have := line_lt hP (kM0 hk); omega), ← had 91 (fun q => by have := line_lt hP (kM0 hk); omega)]
    obtain ⟨hM1, hj, h0, ha, hE⟩ := E_meet hP hk
    refine a_istore6 cx dL_law_403 (by decide) (by intro w h; first | (cases h; rfl) | (cases h; assumption) | (cases h; done)) ?_
    refine a_aload_n cx dL_law_405 rfl rfl ?_
    refine a_arg cx hX hbl hbA 1 i (by decide) (by omega) (by omega) rfl rfl dL_law_406 dL_law_407 dL_law_409 dL_law_410 dL_law_411 ?_
    refine a_callV cx 1 (sp_X4_meet hH (hE 0).mm hM1 h0) (M_obj hH (hE 0).mm) rfl ml_L_121 im_X4_meet se_X4_meet ini_X4 cd_X4_meet rfl rfl (by decide +kernel) rfl rfl ⟨(Nat.le_of_ble_eq_true rfl), (Nat.le_of_ble_eq_true rfl)⟩ (Nat.le_of_ble_eq_true rfl) dL_law_412 ⟨show _ ≤ 603072 by omega, show _ ≤ 7211114 by omega⟩ (fun _ _ _ h => h.elim) (fun v8 ad8 τ8 hQ => ?_)
    obtain ⟨⟨w, rfl, hw⟩, h2, hH⟩ := hQ
    replace h2 := h2.symm
    subst h2
    replace hw := hw hj
    rw [if_pos hj, hj] at hH
    have hf9 := (hH.2 90 (by decide)).trans rL_90
    refine a_istore7 cx dL_law_415 (by decide) (by intro w h; first | (cases h; rfl) | (cases h; assumption) | (cases h; done)) ?_
    refine a_aload_n cx dL_law_417 rfl rfl ?_
    refine a_callV cx 0 (sp_X4_thrown hH (hE 0).mm) (M_obj hH (hE 0).mm) rfl ml_L_108 im_X4_thrown se_X4_thrown ini_X4 cd_X4_thrown rfl rfl (by decide +kernel) rfl rfl ⟨(Nat.le_of_ble_eq_true rfl), (Nat.le_of_ble_eq_true rfl)⟩ (Nat.le_of_ble_eq_true rfl) dL_law_418 ⟨show _ ≤ 603072 by omega, show _ ≤ 7211114 by omega⟩ (fun _ _ _ h => h.elim) (fun v8 ad8 τ8 hQ => ?_)
    obtain ⟨rfl, h2, h3⟩ := hQ
    replace h2 := h2.symm
    subst h2
    replace h3 := h3.symm
    subst h3
    refine a_iload cx dL_law_421 rfl ?_
    refine a_icmp_eq cx (tgt := 428) dL_law_423 (by decide) (fun c_423 => ?_) (fun c_423 => (c_423 (up2_eq.trans hk.symm)).elim)
    refine a_iload cx dL_law_428 rfl ?_
    refine a_if_ne cx (tgt := 445) dL_law_430 (by decide) (fun c_430 => (c_430 hk).elim) (fun c_430 => ?_)
    refine a_aload_n cx dL_law_433 rfl rfl ?_
    refine a_iconst cx (v := 0) dL_law_434 (by decide) ?_
    refine a_lld cx (0) hf9 (rfl) ((by decide)) (by decide) dL_law_435 ?_
    refine a_iload cx dL_law_436 rfl ?_
    refine a_i2l cx dL_law_438 ?_
    refine a_lcmp cx dL_law_439 ?_
    refine a_if_eq cx (tgt := 445) dL_law_440 (by decide) (fun c_440 => ?_) (fun c_440 => (c_440 (lg_of (ha.trans hw.symm))).elim)
    refine a_goto cx (tgt := 1558) dL_law_445 (by decide) ?_
    exact a_lv lwV_sub (a_wide (by omega) (by omega) (kk _ _ _ _ _ ⟨hH, hE 0, ⟨_, rL_90⟩, ⟨f2, rL_91.trans hf2⟩⟩))
  · replace h2 := h2.symm
    subst h2
    have hj := ((e_meet hP.R hI hP.2.1 hP.cC (b := (xs (i + 1)))).1).symm
    have hM1 := hP.2.1
    refine a_istore6 cx dL_law_403 (by decide) (by intro w h; first | (cases h; rfl) | (cases h; assumption) | (cases h; done)) ?_
    refine a_aload_n cx dL_law_405 rfl rfl ?_
    refine a_arg cx hX hbl hbA 1 i (by decide) (by omega) (by omega) rfl rfl dL_law_406 dL_law_407 dL_law_409 dL_law_410 dL_law_411 ?_
    refine a_callV cx 1 (sp_X4_meet hH hP.mm hM1 (e_meet hP.R hI hP.2.1 hP.cC).2.1) (M_obj hH hP.mm) rfl ml_L_121 im_X4_meet se_X4_meet ini_X4 cd_X4_meet rfl rfl (by decide +kernel) rfl rfl ⟨(Nat.le_of_ble_eq_true rfl), (Nat.le_of_ble_eq_true rfl)⟩ (Nat.le_of_ble_eq_true rfl) dL_law_412 ⟨show _ ≤ 603072 by omega, show _ ≤ 7211114 by omega⟩ (fun _ _ _ h => h.elim) (fun v8 ad8 τ8 hQ => ?_)
    obtain ⟨⟨w, rfl, hw⟩, h2, hH⟩ := hQ
    replace h2 := h2.symm
    subst h2
    rw [hj, if_neg hk] at hH
    refine a_istore7 cx dL_law_415 (by decide) (by intro w h; first | (cases h; rfl) | (cases h; assumption) | (cases h; done)) ?_
    refine a_aload_n cx dL_law_417 rfl rfl ?_
    refine a_callV cx 0 (sp_X4_thrown hH hP.mm) (M_obj hH hP.mm) rfl ml_L_108 im_X4_thrown se_X4_thrown ini_X4 cd_X4_thrown rfl rfl (by decide +kernel) rfl rfl ⟨(Nat.le_of_ble_eq_true rfl), (Nat.le_of_ble_eq_true rfl)⟩ (Nat.le_of_ble_eq_true rfl) dL_law_418 ⟨show _ ≤ 603072 by omega, show _ ≤ 7211114 by omega⟩ (fun _ _ _ h => h.elim) (fun v8 ad8 τ8 hQ => ?_)
    obtain ⟨rfl, h2, h3⟩ := hQ
    replace h2 := h2.symm
    subst h2
    replace h3 := h3.symm
    subst h3
    refine a_iload cx dL_law_421 rfl ?_
    refine a_icmp_eq cx (tgt := 428) dL_law_423 (by decide) (fun c_423 => ?_) (fun c_423 => (c_423 up2_eq).elim)
    refine a_iload cx dL_law_428 rfl ?_
    refine a_if_ne cx (tgt := 445) dL_law_430 (by decide) (fun c_430 => ?_) (fun c_430 => (hk c_430).elim)
    refine a_goto cx (tgt := 1558) dL_law_445 (by decide) ?_
    exact a_lv lwV_sub (a_wide (by omega) (by omega) (kk _ _ _ _ _ ⟨hH, hP.no _, ⟨f, hf⟩, ⟨f2, hf2⟩⟩))

set_option maxHeartbeats 4000000 in
set_option maxRecDepth 100000 in
/-- the law: reserve -/
theorem lw_reserve {l : Launch} {g : GW} {p : Program} {e : Env} {s : State} {m : MethodId} {args : Array Value} {below : List Frame} {meth : Method} {c : Code} {A : Nat → Prop} {Q : State → Prop} {ad : AD} {τ : RH} {cells slots b L i : Nat} {xs : Nat → Int32} {Lv : Nat → Bool} {C : ME} {ρ : RH} (cx : Cx l g p s m args meth c A cL_law 9 RL) (hX : va_X b L xs s s.heap) (hbl : b < s.heap.size) (hbA : ¬ A b) (hL : L ≤ 3072) (hi : i + 6 ≤ L) (hS : lwI g ad Lv C ρ τ) (hc : cells + 1000 ≤ 603072) (hs : slots + 10000 ≤ 7211114) (kk : ∀ ad' τ' Lv' C' ρ', lwI g ad' Lv' C' ρ' τ' → AW l g p e room_1 s m args below meth c A 9 Q ad' τ' (cells + 1000) (slots + 10000) 1558 (lwV b ad' i) []) : AW l g p e room_1 s m args below meth c A 9 Q ad τ cells slots 448 (lwV b ad i) [] := by
  obtain ⟨hH, hP, ⟨f, hf⟩, ⟨f2, hf2⟩⟩ := hS
  have hI := hP.1
  have hO := (H_lines hH hI).1
  unfold lwV
  refine a_aload_n cx dL_law_448 rfl rfl ?_
  refine a_arg cx hX hbl hbA 1 i (by decide) (by omega) (by omega) rfl rfl dL_law_449 dL_law_450 dL_law_452 dL_law_453 dL_law_454 ?_
  refine a_aload_n cx dL_law_455 rfl rfl ?_
  refine a_callSH cx 3 (sp_L_reserve hH hI hf) ml_L_122 st_L_reserve ini_L cd_L_reserve rfl rfl (by decide +kernel) rfl rfl ⟨(Nat.le_of_ble_eq_true rfl), (Nat.le_of_ble_eq_true rfl)⟩ (Nat.le_of_ble_eq_true rfl) dL_law_456 ⟨show _ ≤ 603072 by omega, show _ ≤ 7211114 by omega⟩ (fun _ _ _ h => h.elim) (fun v9 ad9 τ9 hQ => ?_)
  obtain ⟨rfl, hQ⟩ := hQ
  rcases hQ with ⟨hk, had, hH⟩ | ⟨hk, h2, hH⟩
  · replace had := had.symm
    subst had
    have hj := (e_reserve hP.R hI (b := (xs (i + 1)))).1.symm.trans hk
    have ha := (e_reserve hP.R hI (b := (xs (i + 1)))).2 hk
    have hM1 := hP.2.1
    have hE := fun x : Int32 => hP.no x
    refine a_istore6 cx dL_law_459 (by decide) (by intro w h; first | (cases h; rfl) | (cases h; assumption) | (cases h; done)) ?_
    refine a_aload_n cx dL_law_461 rfl rfl ?_
    refine a_arg cx hX hbl hbA 1 i (by decide) (by omega) (by omega) rfl rfl dL_law_462 dL_law_463 dL_law_465 dL_law_466 dL_law_467 ?_
    refine a_callV cx 1 (sp_X4_reserve hH (hE 0).mm hM1) (M_obj hH hP.mm) rfl ml_L_124 im_X4_reserve se_X4_reserve ini_X4 cd_X4_reserve rfl rfl (by decide +kernel) rfl rfl ⟨(Nat.le_of_ble_eq_true rfl), (Nat.le_of_ble_eq_true rfl)⟩ (Nat.le_of_ble_eq_true rfl) dL_law_468 ⟨show _ ≤ 603072 by omega, show _ ≤ 7211114 by omega⟩ (fun _ _ _ h => h.elim) (fun v8 ad8 τ8 hQ => ?_)
    obtain ⟨⟨w, rfl, hw⟩, h2, hH⟩ := hQ
    replace h2 := h2.symm
    subst h2
    replace hw := hw hj
    rw [if_pos hj, hj] at hH
    have hf9 := (hH.2 90 (by decide)).trans rL_90
    refine a_istore7 cx dL_law_471 (by decide) (by intro w h; first | (cases h; rfl) | (cases h; assumption) | (cases h; done)) ?_
    refine a_aload_n cx dL_law_473 rfl rfl ?_
    refine a_callV cx 0 (sp_X4_thrown hH hP.mm) (M_obj hH hP.mm) rfl ml_L_108 im_X4_thrown se_X4_thrown ini_X4 cd_X4_thrown rfl rfl (by decide +kernel) rfl rfl ⟨(Nat.le_of_ble_eq_true rfl), (Nat.le_of_ble_eq_true rfl)⟩ (Nat.le_of_ble_eq_true rfl) dL_law_474 ⟨show _ ≤ 603072 by omega, show _ ≤ 7211114 by omega⟩ (fun _ _ _ h => h.elim) (fun v8 ad8 τ8 hQ => ?_)
    obtain ⟨rfl, h2, h3⟩ := hQ
    replace h2 := h2.symm
    subst h2
    replace h3 := h3.symm
    subst h3
    refine a_iload cx dL_law_477 rfl ?_
    refine a_icmp_eq cx (tgt := 484) dL_law_479 (by decide) (fun c_479 => ?_) (fun c_479 => (c_479 (up2_eq.trans hk.symm)).elim)
    refine a_iload cx dL_law_484 rfl ?_
    refine a_if_ne cx (tgt := 501) dL_law_486 (by decide) (fun c_486 => (c_486 hk).elim) (fun c_486 => ?_)
    refine a_aload_n cx dL_law_489 rfl rfl ?_
    refine a_iconst cx (v := 0) dL_law_490 (by decide) ?_
    refine a_lld cx (0) hf9 (rfl) ((by decide)) (by decide) dL_law_491 ?_
    refine a_iload cx dL_law_492 rfl ?_
    refine a_i2l cx dL_law_494 ?_
    refine a_lcmp cx dL_law_495 ?_
    refine a_if_eq cx (tgt := 501) dL_law_496 (by decide) (fun c_496 => ?_) (fun c_496 => (c_496 (lg_of (ha.trans hw.symm))).elim)
    refine a_goto cx (tgt := 1558) dL_law_501 (by decide) ?_
    exact a_lv lwV_sub (a_wide (by omega) (by omega) (kk _ _ _ _ _ ⟨hH, hE 0, ⟨_, rL_90⟩, ⟨f2, rL_91.trans hf2⟩⟩))
  · replace h2 := h2.symm
    subst h2
    have hj := ((e_reserve hP.R hI (b := (xs (i + 1)))).1).symm
    have hM1 := hP.2.1
    refine a_istore6 cx dL_law_459 (by decide) (by intro w h; first | (cases h; rfl) | (cases h; assumption) | (cases h; done)) ?_
    refine a_aload_n cx dL_law_461 rfl rfl ?_
    refine a_arg cx hX hbl hbA 1 i (by decide) (by omega) (by omega) rfl rfl dL_law_462 dL_law_463 dL_law_465 dL_law_466 dL_law_467 ?_
    refine a_callV cx 1 (sp_X4_reserve hH hP.mm hM1) (M_obj hH hP.mm) rfl ml_L_124 im_X4_reserve se_X4_reserve ini_X4 cd_X4_reserve rfl rfl (by decide +kernel) rfl rfl ⟨(Nat.le_of_ble_eq_true rfl), (Nat.le_of_ble_eq_true rfl)⟩ (Nat.le_of_ble_eq_true rfl) dL_law_468 ⟨show _ ≤ 603072 by omega, show _ ≤ 7211114 by omega⟩ (fun _ _ _ h => h.elim) (fun v8 ad8 τ8 hQ => ?_)
    obtain ⟨⟨w, rfl, hw⟩, h2, hH⟩ := hQ
    replace h2 := h2.symm
    subst h2
    rw [hj, if_neg hk] at hH
    refine a_istore7 cx dL_law_471 (by decide) (by intro w h; first | (cases h; rfl) | (cases h; assumption) | (cases h; done)) ?_
    refine a_aload_n cx dL_law_473 rfl rfl ?_
    refine a_callV cx 0 (sp_X4_thrown hH hP.mm) (M_obj hH hP.mm) rfl ml_L_108 im_X4_thrown se_X4_thrown ini_X4 cd_X4_thrown rfl rfl (by decide +kernel) rfl rfl ⟨(Nat.le_of_ble_eq_true rfl), (Nat.le_of_ble_eq_true rfl)⟩ (Nat.le_of_ble_eq_true rfl) dL_law_474 ⟨show _ ≤ 603072 by omega, show _ ≤ 7211114 by omega⟩ (fun _ _ _ h => h.elim) (fun v8 ad8 τ8 hQ => ?_)
    obtain ⟨rfl, h2, h3⟩ := hQ
    replace h2 := h2.symm
    subst h2
    replace h3 := h3.symm
    subst h3
    refine a_iload cx dL_law_477 rfl ?_
    refine a_icmp_eq cx (tgt := 484) dL_law_479 (by decide) (fun c_479 => ?_) (fun c_479 => (c_479 up2_eq).elim)
    refine a_iload cx dL_law_484 rfl ?_
    refine a_if_ne cx (tgt := 501) dL_law_486 (by decide) (fun c_486 => ?_) (fun c_486 => (hk c_486).elim)
    refine a_goto cx (tgt := 1558) dL_law_501 (by decide) ?_
    exact a_lv lwV_sub (a_wide (by omega) (by omega) (kk _ _ _ _ _ ⟨hH, hP.no _, ⟨f, hf⟩, ⟨f2, hf2⟩⟩))

set_option maxHeartbeats 4000000 in
set_option maxRecDepth 100000 in
/-- the law: train -/
theorem lw_train {l : Launch} {g : GW} {p : Program} {e : Env} {s : State} {m : MethodId} {args : Array Value} {below : List Frame} {meth : Method} {c : Code} {A : Nat → Prop} {Q : State → Prop} {ad : AD} {τ : RH} {cells slots b L i : Nat} {xs : Nat → Int32} {Lv : Nat → Bool} {C : ME} {ρ : RH} (cx : Cx l g p s m args meth c A cL_law 9 RL) (hX : va_X b L xs s s.heap) (hbl : b < s.heap.size) (hbA : ¬ A b) (hL : L ≤ 3072) (hi : i + 6 ≤ L) (hS : lwI g ad Lv C ρ τ) (hc : cells + 1000 ≤ 603072) (hs : slots + 10000 ≤ 7211114) (kk : ∀ ad' τ' Lv' C' ρ', lwI g ad' Lv' C' ρ' τ' → AW l g p e room_1 s m args below meth c A 9 Q ad' τ' (cells + 1000) (slots + 10000) 1558 (lwV b ad' i) []) : AW l g p e room_1 s m args below meth c A 9 Q ad τ cells slots 504 (lwV b ad i) [] := by
  obtain ⟨hH, hP, ⟨f, hf⟩, ⟨f2, hf2⟩⟩ := hS
  have hI := hP.1
  have hO := (H_lines hH hI).1
  unfold lwV
  refine a_aload_n cx dL_law_504 rfl rfl ?_
  refine a_arg cx hX hbl hbA 1 i (by decide) (by omega) (by omega) rfl rfl dL_law_505 dL_law_506 dL_law_508 dL_law_509 dL_law_510 ?_
  refine a_aload_n cx dL_law_511 rfl rfl ?_
  refine a_callSH cx 3 (sp_L_train hH hI hf) ml_L_125 st_L_train ini_L cd_L_train rfl rfl (by decide +kernel) rfl rfl ⟨(Nat.le_of_ble_eq_true rfl), (Nat.le_of_ble_eq_true rfl)⟩ (Nat.le_of_ble_eq_true rfl) dL_law_512 ⟨show _ ≤ 603072 by omega, show _ ≤ 7211114 by omega⟩ (fun _ _ _ h => h.elim) (fun v9 ad9 τ9 hQ => ?_)
  obtain ⟨rfl, hQ⟩ := hQ
  rcases hQ with ⟨hk, had, hH⟩ | ⟨hk, h2, hH⟩
  · replace had := had.symm
    subst had
    obtain ⟨hM1, hj, ha, hE⟩ := E_train hP hk
    refine a_istore6 cx dL_law_515 (by decide) (by intro w h; first | (cases h; rfl) | (cases h; assumption) | (cases h; done)) ?_
    refine a_aload_n cx dL_law_517 rfl rfl ?_
    refine a_arg cx hX hbl hbA 1 i (by decide) (by omega) (by omega) rfl rfl dL_law_518 dL_law_519 dL_law_521 dL_law_522 dL_law_523 ?_
    refine a_callV cx 1 (sp_X4_train hH (hE 0).mm hM1) (M_obj hH (hE 0).mm) rfl ml_L_127 im_X4_train se_X4_train ini_X4 cd_X4_train rfl rfl (by decide +kernel) rfl rfl ⟨(Nat.le_of_ble_eq_true rfl), (Nat.le_of_ble_eq_true rfl)⟩ (Nat.le_of_ble_eq_true rfl) dL_law_524 ⟨show _ ≤ 603072 by omega, show _ ≤ 7211114 by omega⟩ (fun _ _ _ h => h.elim) (fun v8 ad8 τ8 hQ => ?_)
    obtain ⟨⟨w, rfl, hw⟩, h2, hH⟩ := hQ
    replace h2 := h2.symm
    subst h2
    replace hw := hw hj
    rw [if_pos hj, hj] at hH
    have hf9 := (hH.2 90 (by decide)).trans rL_90
    refine a_istore7 cx dL_law_527 (by decide) (by intro w h; first | (cases h; rfl) | (cases h; assumption) | (cases h; done)) ?_
    refine a_aload_n cx dL_law_529 rfl rfl ?_
    refine a_callV cx 0 (sp_X4_thrown hH (hE 0).mm) (M_obj hH (hE 0).mm) rfl ml_L_108 im_X4_thrown se_X4_thrown ini_X4 cd_X4_thrown rfl rfl (by decide +kernel) rfl rfl ⟨(Nat.le_of_ble_eq_true rfl), (Nat.le_of_ble_eq_true rfl)⟩ (Nat.le_of_ble_eq_true rfl) dL_law_530 ⟨show _ ≤ 603072 by omega, show _ ≤ 7211114 by omega⟩ (fun _ _ _ h => h.elim) (fun v8 ad8 τ8 hQ => ?_)
    obtain ⟨rfl, h2, h3⟩ := hQ
    replace h2 := h2.symm
    subst h2
    replace h3 := h3.symm
    subst h3
    refine a_iload cx dL_law_533 rfl ?_
    refine a_icmp_eq cx (tgt := 540) dL_law_535 (by decide) (fun c_535 => ?_) (fun c_535 => (c_535 (up2_eq.trans hk.symm)).elim)
    refine a_iload cx dL_law_540 rfl ?_
    refine a_if_ne cx (tgt := 557) dL_law_542 (by decide) (fun c_542 => (c_542 hk).elim) (fun c_542 => ?_)
    refine a_aload_n cx dL_law_545 rfl rfl ?_
    refine a_iconst cx (v := 0) dL_law_546 (by decide) ?_
    refine a_lld cx (0) hf9 (rfl) ((by decide)) (by decide) dL_law_547 ?_
    refine a_iload cx dL_law_548 rfl ?_
    refine a_i2l cx dL_law_550 ?_
    refine a_lcmp cx dL_law_551 ?_
    refine a_if_eq cx (tgt := 557) dL_law_552 (by decide) (fun c_552 => ?_) (fun c_552 => (c_552 (lg_of (ha.trans hw.symm))).elim)
    refine a_goto cx (tgt := 1558) dL_law_557 (by decide) ?_
    exact a_lv lwV_sub (a_wide (by omega) (by omega) (kk _ _ _ _ _ ⟨hH, hE 0, ⟨_, rL_90⟩, ⟨f2, rL_91.trans hf2⟩⟩))
  · replace h2 := h2.symm
    subst h2
    have hj := ((e_train hP.R hI (u := (xs (i + 1)))).1).symm
    have hM1 := hP.2.1
    refine a_istore6 cx dL_law_515 (by decide) (by intro w h; first | (cases h; rfl) | (cases h; assumption) | (cases h; done)) ?_
    refine a_aload_n cx dL_law_517 rfl rfl ?_
    refine a_arg cx hX hbl hbA 1 i (by decide) (by omega) (by omega) rfl rfl dL_law_518 dL_law_519 dL_law_521 dL_law_522 dL_law_523 ?_
    refine a_callV cx 1 (sp_X4_train hH hP.mm hM1) (M_obj hH hP.mm) rfl ml_L_127 im_X4_train se_X4_train ini_X4 cd_X4_train rfl rfl (by decide +kernel) rfl rfl ⟨(Nat.le_of_ble_eq_true rfl), (Nat.le_of_ble_eq_true rfl)⟩ (Nat.le_of_ble_eq_true rfl) dL_law_524 ⟨show _ ≤ 603072 by omega, show _ ≤ 7211114 by omega⟩ (fun _ _ _ h => h.elim) (fun v8 ad8 τ8 hQ => ?_)
    obtain ⟨⟨w, rfl, hw⟩, h2, hH⟩ := hQ
    replace h2 := h2.symm
    subst h2
    rw [hj, if_neg hk] at hH
    refine a_istore7 cx dL_law_527 (by decide) (by intro w h; first | (cases h; rfl) | (cases h; assumption) | (cases h; done)) ?_
    refine a_aload_n cx dL_law_529 rfl rfl ?_
    refine a_callV cx 0 (sp_X4_thrown hH hP.mm) (M_obj hH hP.mm) rfl ml_L_108 im_X4_thrown se_X4_thrown ini_X4 cd_X4_thrown rfl rfl (by decide +kernel) rfl rfl ⟨(Nat.le_of_ble_eq_true rfl), (Nat.le_of_ble_eq_true rfl)⟩ (Nat.le_of_ble_eq_true rfl) dL_law_530 ⟨show _ ≤ 603072 by omega, show _ ≤ 7211114 by omega⟩ (fun _ _ _ h => h.elim) (fun v8 ad8 τ8 hQ => ?_)
    obtain ⟨rfl, h2, h3⟩ := hQ
    replace h2 := h2.symm
    subst h2
    replace h3 := h3.symm
    subst h3
    refine a_iload cx dL_law_533 rfl ?_
    refine a_icmp_eq cx (tgt := 540) dL_law_535 (by decide) (fun c_535 => ?_) (fun c_535 => (c_535 up2_eq).elim)
    refine a_iload cx dL_law_540 rfl ?_
    refine a_if_ne cx (tgt := 557) dL_law_542 (by decide) (fun c_542 => ?_) (fun c_542 => (hk c_542).elim)
    refine a_goto cx (tgt := 1558) dL_law_557 (by decide) ?_
    exact a_lv lwV_sub (a_wide (by omega) (by omega) (kk _ _ _ _ _ ⟨hH, hP.no _, ⟨f, hf⟩, ⟨f2, hf2⟩⟩))

