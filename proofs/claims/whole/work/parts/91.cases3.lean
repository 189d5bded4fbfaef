set_option maxHeartbeats 4000000 in
set_option maxRecDepth 100000 in
/-- the law: nextAt -/
theorem lw_nextAt {l : Launch} {g : GW} {p : Program} {e : Env} {s : State} {m : MethodId} {args : Array Value} {below : List Frame} {meth : Method} {c : Code} {A : Nat → Prop} {Q : State → Prop} {ad : AD} {τ : RH} {cells slots b L i : Nat} {xs : Nat → Int32} {Lv : Nat → Bool} {C : ME} {ρ : RH} (cx : Cx l g p s m args meth c A cL_law 9 RL) (hX : va_X b L xs s s.heap) (hbl : b < s.heap.size) (hbA : ¬ A b) (hL : L ≤ 3072) (hi : i + 6 ≤ L) (hS : lwI g ad Lv C ρ τ) (hc : cells + 1000 ≤ 603072) (hs : slots + 10000 ≤ 7211114) (kk : ∀ ad' τ' Lv' C' ρ', lwI g ad' Lv' C' ρ' τ' → AW l g p e room_1 s m args below meth c A 9 Q ad' τ' (cells + 1000) (slots + 10000) 1558 (lwV b ad' i) []) : AW l g p e room_1 s m args below meth c A 9 Q ad τ cells slots 1257 (lwV b ad i) [] := by
  obtain ⟨hH, hP, ⟨f, hf⟩, ⟨f2, hf2⟩⟩ := hS
  have hI := hP.1
  have hO := (H_lines hH hI).1
  unfold lwV
  refine a_aload_n cx dL_law_1257 rfl rfl ?_
  refine a_arg cx hX hbl hbA 1 i (by decide) (by omega) (by omega) rfl rfl dL_law_1258 dL_law_1259 dL_law_1261 dL_law_1262 dL_law_1263 ?_
  refine a_aload_n cx dL_law_1264 rfl rfl ?_
  refine a_callSH cx 3 (sp_L_nextAt hH hI hf) ml_L_167 st_L_nextAt ini_L cd_L_nextAt rfl rfl (by decide +kernel) rfl rfl ⟨(Nat.le_of_ble_eq_true rfl), (Nat.le_of_ble_eq_true rfl)⟩ (Nat.le_of_ble_eq_true rfl) dL_law_1265 ⟨show _ ≤ 603072 by omega, show _ ≤ 7211114 by omega⟩ (fun _ _ _ h => h.elim) (fun v9 ad9 τ9 hQ => ?_)
  obtain ⟨rfl, hQ⟩ := hQ
  rcases hQ with ⟨hk, had, hH⟩ | ⟨hk, h2, hH⟩
  · replace had := had.symm
    subst had
    have hj := (e_nextAt hP.R hI (j := (xs (i + 1)))).1.symm.trans hk
    have ha := (e_nextAt hP.R hI (j := (xs (i + 1)))).2.1 hk
    have hM1 := hP.2.1
    have hE := fun x : Int32 => hP.no x
    refine a_istore6 cx dL_law_1268 (by decide) (by intro w h; first | (cases h; rfl) | (cases h; assumption) | (cases h; done)) ?_
    refine a_aload_n cx dL_law_1270 rfl rfl ?_
    refine a_arg cx hX hbl hbA 1 i (by decide) (by omega) (by omega) rfl rfl dL_law_1271 dL_law_1272 dL_law_1274 dL_law_1275 dL_law_1276 ?_
    refine a_callV cx 1 (sp_X4_nextAt hH (hE 0).mm hM1 (e_nextAt hP.R hI).2.2) (M_obj hH hP.mm) rfl ml_L_169 im_X4_nextAt se_X4_nextAt ini_X4 cd_X4_nextAt rfl rfl (by decide +kernel) rfl rfl ⟨(Nat.le_of_ble_eq_true rfl), (Nat.le_of_ble_eq_true rfl)⟩ (Nat.le_of_ble_eq_true rfl) dL_law_1277 ⟨show _ ≤ 603072 by omega, show _ ≤ 7211114 by omega⟩ (fun _ _ _ h => h.elim) (fun v8 ad8 τ8 hQ => ?_)
    obtain ⟨⟨w, rfl, hw⟩, h2, hH⟩ := hQ
    replace h2 := h2.symm
    subst h2
    replace hw := hw hj
    rw [if_pos hj, hj] at hH
    have hf9 := (hH.2 90 (by decide)).trans rL_90
    refine a_istore7 cx dL_law_1280 (by decide) (by intro w h; first | (cases h; rfl) | (cases h; assumption) | (cases h; done)) ?_
    refine a_aload_n cx dL_law_1282 rfl rfl ?_
    refine a_callV cx 0 (sp_X4_thrown hH hP.mm) (M_obj hH hP.mm) rfl ml_L_108 im_X4_thrown se_X4_thrown ini_X4 cd_X4_thrown rfl rfl (by decide +kernel) rfl rfl ⟨(Nat.le_of_ble_eq_true rfl), (Nat.le_of_ble_eq_true rfl)⟩ (Nat.le_of_ble_eq_true rfl) dL_law_1283 ⟨show _ ≤ 603072 by omega, show _ ≤ 7211114 by omega⟩ (fun _ _ _ h => h.elim) (fun v8 ad8 τ8 hQ => ?_)
    obtain ⟨rfl, h2, h3⟩ := hQ
    replace h2 := h2.symm
    subst h2
    replace h3 := h3.symm
    subst h3
    refine a_iload cx dL_law_1286 rfl ?_
    refine a_icmp_eq cx (tgt := 1293) dL_law_1288 (by decide) (fun c_1288 => ?_) (fun c_1288 => (c_1288 (up2_eq.trans hk.symm)).elim)
    refine a_iload cx dL_law_1293 rfl ?_
    refine a_if_ne cx (tgt := 1310) dL_law_1295 (by decide) (fun c_1295 => (c_1295 hk).elim) (fun c_1295 => ?_)
    refine a_aload_n cx dL_law_1298 rfl rfl ?_
    refine a_iconst cx (v := 0) dL_law_1299 (by decide) ?_
    refine a_lld cx (0) hf9 (rfl) ((by decide)) (by decide) dL_law_1300 ?_
    refine a_iload cx dL_law_1301 rfl ?_
    refine a_i2l cx dL_law_1303 ?_
    refine a_lcmp cx dL_law_1304 ?_
    refine a_if_eq cx (tgt := 1310) dL_law_1305 (by decide) (fun c_1305 => ?_) (fun c_1305 => (c_1305 (lg_of (ha.trans hw.symm))).elim)
    refine a_goto cx (tgt := 1558) dL_law_1310 (by decide) ?_
    exact a_lv lwV_sub (a_wide (by omega) (by omega) (kk _ _ _ _ _ ⟨hH, hE 0, ⟨_, rL_90⟩, ⟨f2, rL_91.trans hf2⟩⟩))
  · replace h2 := h2.symm
    subst h2
    have hj := ((e_nextAt hP.R hI (j := (xs (i + 1)))).1).symm
    have hM1 := hP.2.1
    refine a_istore6 cx dL_law_1268 (by decide) (by intro w h; first | (cases h; rfl) | (cases h; assumption) | (cases h; done)) ?_
    refine a_aload_n cx dL_law_1270 rfl rfl ?_
    refine a_arg cx hX hbl hbA 1 i (by decide) (by omega) (by omega) rfl rfl dL_law_1271 dL_law_1272 dL_law_1274 dL_law_1275 dL_law_1276 ?_
    refine a_callV cx 1 (sp_X4_nextAt hH hP.mm hM1 (e_nextAt hP.R hI).2.2) (M_obj hH hP.mm) rfl ml_L_169 im_X4_nextAt se_X4_nextAt ini_X4 cd_X4_nextAt rfl rfl (by decide +kernel) rfl rfl ⟨(Nat.le_of_ble_eq_true rfl), (Nat.le_of_ble_eq_true rfl)⟩ (Nat.le_of_ble_eq_true rfl) dL_law_1277 ⟨show _ ≤ 603072 by omega, show _ ≤ 7211114 by omega⟩ (fun _ _ _ h => h.elim) (fun v8 ad8 τ8 hQ => ?_)
    obtain ⟨⟨w, rfl, hw⟩, h2, hH⟩ := hQ
    replace h2 := h2.symm
    subst h2
    rw [hj, if_neg hk] at hH
    refine a_istore7 cx dL_law_1280 (by decide) (by intro w h; first | (cases h; rfl) | (cases h; assumption) | (cases h; done)) ?_
    refine a_aload_n cx dL_law_1282 rfl rfl ?_
    refine a_callV cx 0 (sp_X4_thrown hH hP.mm) (M_obj hH hP.mm) rfl ml_L_108 im_X4_thrown se_X4_thrown ini_X4 cd_X4_thrown rfl rfl (by decide +kernel) rfl rfl ⟨(Nat.le_of_ble_eq_true rfl), (Nat.le_of_ble_eq_true rfl)⟩ (Nat.le_of_ble_eq_true rfl) dL_law_1283 ⟨show _ ≤ 603072 by omega, show _ ≤ 7211114 by omega⟩ (fun _ _ _ h => h.elim) (fun v8 ad8 τ8 hQ => ?_)
    obtain ⟨rfl, h2, h3⟩ := hQ
    replace h2 := h2.symm
    subst h2
    replace h3 := h3.symm
    subst h3
    refine a_iload cx dL_law_1286 rfl ?_
    refine a_icmp_eq cx (tgt := 1293) dL_law_1288 (by decide) (fun c_1288 => ?_) (fun c_1288 => (c_1288 up2_eq).elim)
    refine a_iload cx dL_law_1293 rfl ?_
    refine a_if_ne cx (tgt := 1310) dL_law_1295 (by decide) (fun c_1295 => ?_) (fun c_1295 => (hk c_1295).elim)
    refine a_goto cx (tgt := 1558) dL_law_1310 (by decide) ?_
    exact a_lv lwV_sub (a_wide (by omega) (by omega) (kk _ _ _ _ _ ⟨hH, hP.no _, ⟨f, hf⟩, ⟨f2, hf2⟩⟩))

set_option maxHeartbeats 4000000 in
set_option maxRecDepth 100000 in
/-- the law: count -/
theorem lw_count {l : Launch} {g : GW} {p : Program} {e : Env} {s : State} {m : MethodId} {args : Array Value} {below : List Frame} {meth : Method} {c : Code} {A : Nat → Prop} {Q : State → Prop} {ad : AD} {τ : RH} {cells slots b L i : Nat} {xs : Nat → Int32} {Lv : Nat → Bool} {C : ME} {ρ : RH} (cx : Cx l g p s m args meth c A cL_law 9 RL) (hX : va_X b L xs s s.heap) (hbl : b < s.heap.size) (hbA : ¬ A b) (hL : L ≤ 3072) (hi : i + 6 ≤ L) (hS : lwI g ad Lv C ρ τ) (hc : cells + 1000 ≤ 603072) (hs : slots + 10000 ≤ 7211114) (kk : ∀ ad' τ' Lv' C' ρ', lwI g ad' Lv' C' ρ' τ' → AW l g p e room_1 s m args below meth c A 9 Q ad' τ' (cells + 1000) (slots + 10000) 1558 (lwV b ad' i) []) : AW l g p e room_1 s m args below meth c A 9 Q ad τ cells slots 1313 (lwV b ad i) [] := by
  obtain ⟨hH, hP, ⟨f, hf⟩, ⟨f2, hf2⟩⟩ := hS
  have hI := hP.1
  have hO := (H_lines hH hI).1
  unfold lwV
  obtain ⟨x2, hx2⟩ : ∃ x2, x2 = ((xs (i + 2)).toUInt32 % 65536).toInt32 := ⟨_, rfl⟩
  have hx3 : vp_nar .char x2 = x2 := by rw [hx2]; exact ch_ok _
  refine a_aload_n cx dL_law_1313 rfl rfl ?_
  refine a_arg cx hX hbl hbA 1 i (by decide) (by omega) (by omega) rfl rfl dL_law_1314 dL_law_1315 dL_law_1317 dL_law_1318 dL_law_1319 ?_
  refine a_arg cx hX hbl hbA 2 i (by decide) (by omega) (by omega) rfl rfl dL_law_1320 dL_law_1321 dL_law_1323 dL_law_1324 dL_law_1325 ?_
  refine a_i2c cx dL_law_1326 hx2.symm ?_
  refine a_aload_n cx dL_law_1327 rfl rfl ?_
  refine a_callSH cx 4 (sp_L_count hH hI hf) ml_L_170 st_L_count ini_L cd_L_count rfl rfl (by decide +kernel) rfl rfl ⟨(Nat.le_of_ble_eq_true rfl), (Nat.le_of_ble_eq_true rfl)⟩ (Nat.le_of_ble_eq_true rfl) dL_law_1328 ⟨show _ ≤ 603072 by omega, show _ ≤ 7211114 by omega⟩ (fun _ _ _ h => h.elim) (fun v9 ad9 τ9 hQ => ?_)
  obtain ⟨rfl, hQ⟩ := hQ
  rcases hQ with ⟨hk, had, hH⟩ | ⟨hk, h2, hH⟩
  · replace had := had.symm
    subst had
    have hj := (e_count hP.R hI (j := (xs (i + 1))) (x := x2)).1.symm.trans hk
    have ha := (e_count hP.R hI (j := (xs (i + 1))) (x := x2)).2 hk
    have hM1 := hP.2.1
    have hE := fun x : Int32 => hP.no x
    refine a_istore6 cx dL_law_1331 (by decide) (by intro w h; first | (cases h; rfl) | (cases h; assumption) | (cases h; done)) ?_
    refine a_aload_n cx dL_law_1333 rfl rfl ?_
    refine a_arg cx hX hbl hbA 1 i (by decide) (by omega) (by omega) rfl rfl dL_law_1334 dL_law_1335 dL_law_1337 dL_law_1338 dL_law_1339 ?_
    refine a_arg cx hX hbl hbA 2 i (by decide) (by omega) (by omega) rfl rfl dL_law_1340 dL_law_1341 dL_law_1343 dL_law_1344 dL_law_1345 ?_
    refine a_i2c cx dL_law_1346 hx2.symm ?_
    refine a_callV cx 2 (sp_X4_count hH (hE 0).mm hM1) (M_obj hH hP.mm) rfl ml_L_172 im_X4_count se_X4_count ini_X4 cd_X4_count rfl rfl (by decide +kernel) rfl rfl ⟨(Nat.le_of_ble_eq_true rfl), (Nat.le_of_ble_eq_true rfl)⟩ (Nat.le_of_ble_eq_true rfl) dL_law_1347 ⟨show _ ≤ 603072 by omega, show _ ≤ 7211114 by omega⟩ (fun _ _ _ h => h.elim) (fun v8 ad8 τ8 hQ => ?_)
    obtain ⟨⟨w, rfl, hw⟩, h2, hH⟩ := hQ
    replace h2 := h2.symm
    subst h2
    replace hw := hw hj
    rw [if_pos hj, hj] at hH
    have hf9 := (hH.2 90 (by decide)).trans rL_90
    refine a_istore7 cx dL_law_1350 (by decide) (by intro w h; first | (cases h; rfl) | (cases h; assumption) | (cases h; done)) ?_
    refine a_aload_n cx dL_law_1352 rfl rfl ?_
    refine a_callV cx 0 (sp_X4_thrown hH hP.mm) (M_obj hH hP.mm) rfl ml_L_108 im_X4_thrown se_X4_thrown ini_X4 cd_X4_thrown rfl rfl (by decide +kernel) rfl rfl ⟨(Nat.le_of_ble_eq_true rfl), (Nat.le_of_ble_eq_true rfl)⟩ (Nat.le_of_ble_eq_true rfl) dL_law_1353 ⟨show _ ≤ 603072 by omega, show _ ≤ 7211114 by omega⟩ (fun _ _ _ h => h.elim) (fun v8 ad8 τ8 hQ => ?_)
    obtain ⟨rfl, h2, h3⟩ := hQ
    replace h2 := h2.symm
    subst h2
    replace h3 := h3.symm
    subst h3
    refine a_iload cx dL_law_1356 rfl ?_
    refine a_icmp_eq cx (tgt := 1363) dL_law_1358 (by decide) (fun c_1358 => ?_) (fun c_1358 => (c_1358 (up2_eq.trans hk.symm)).elim)
    refine a_iload cx dL_law_1363 rfl ?_
    refine a_if_ne cx (tgt := 1380) dL_law_1365 (by decide) (fun c_1365 => (c_1365 hk).elim) (fun c_1365 => ?_)
    refine a_aload_n cx dL_law_1368 rfl rfl ?_
    refine a_iconst cx (v := 0) dL_law_1369 (by decide) ?_
    refine a_lld cx (0) hf9 (rfl) ((by decide)) (by decide) dL_law_1370 ?_
    refine a_iload cx dL_law_1371 rfl ?_
    refine a_i2l cx dL_law_1373 ?_
    refine a_lcmp cx dL_law_1374 ?_
    refine a_if_eq cx (tgt := 1380) dL_law_1375 (by decide) (fun c_1375 => ?_) (fun c_1375 => (c_1375 (lg_of (ha.trans hw.symm))).elim)
    refine a_goto cx (tgt := 1558) dL_law_1380 (by decide) ?_
    exact a_lv lwV_sub (a_wide (by omega) (by omega) (kk _ _ _ _ _ ⟨hH, hE 0, ⟨_, rL_90⟩, ⟨f2, rL_91.trans hf2⟩⟩))
  · replace h2 := h2.symm
    subst h2
    have hj := ((e_count hP.R hI (j := (xs (i + 1))) (x := x2)).1).symm
    have hM1 := hP.2.1
    refine a_istore6 cx dL_law_1331 (by decide) (by intro w h; first | (cases h; rfl) | (cases h; assumption) | (cases h; done)) ?_
    refine a_aload_n cx dL_law_1333 rfl rfl ?_
    refine a_arg cx hX hbl hbA 1 i (by decide) (by omega) (by omega) rfl rfl dL_law_1334 dL_law_1335 dL_law_1337 dL_law_1338 dL_law_1339 ?_
    refine a_arg cx hX hbl hbA 2 i (by decide) (by omega) (by omega) rfl rfl dL_law_1340 dL_law_1341 dL_law_1343 dL_law_1344 dL_law_1345 ?_
    refine a_i2c cx dL_law_1346 hx2.symm ?_
    refine a_callV cx 2 (sp_X4_count hH hP.mm hM1) (M_obj hH hP.mm) rfl ml_L_172 im_X4_count se_X4_count ini_X4 cd_X4_count rfl rfl (by decide +kernel) rfl rfl ⟨(Nat.le_of_ble_eq_true rfl), (Nat.le_of_ble_eq_true rfl)⟩ (Nat.le_of_ble_eq_true rfl) dL_law_1347 ⟨show _ ≤ 603072 by omega, show _ ≤ 7211114 by omega⟩ (fun _ _ _ h => h.elim) (fun v8 ad8 τ8 hQ => ?_)
    obtain ⟨⟨w, rfl, hw⟩, h2, hH⟩ := hQ
    replace h2 := h2.symm
    subst h2
    rw [hj, if_neg hk] at hH
    refine a_istore7 cx dL_law_1350 (by decide) (by intro w h; first | (cases h; rfl) | (cases h; assumption) | (cases h; done)) ?_
    refine a_aload_n cx dL_law_1352 rfl rfl ?_
    refine a_callV cx 0 (sp_X4_thrown hH hP.mm) (M_obj hH hP.mm) rfl ml_L_108 im_X4_thrown se_X4_thrown ini_X4 cd_X4_thrown rfl rfl (by decide +kernel) rfl rfl ⟨(Nat.le_of_ble_eq_true rfl), (Nat.le_of_ble_eq_true rfl)⟩ (Nat.le_of_ble_eq_true rfl) dL_law_1353 ⟨show _ ≤ 603072 by omega, show _ ≤ 7211114 by omega⟩ (fun _ _ _ h => h.elim) (fun v8 ad8 τ8 hQ => ?_)
    obtain ⟨rfl, h2, h3⟩ := hQ
    replace h2 := h2.symm
    subst h2
    replace h3 := h3.symm
    subst h3
    refine a_iload cx dL_law_1356 rfl ?_
    refine a_icmp_eq cx (tgt := 1363) dL_law_1358 (by decide) (fun c_1358 => ?_) (fun c_1358 => (c_1358 up2_eq).elim)
    refine a_iload cx dL_law_1363 rfl ?_
    refine a_if_ne cx (tgt := 1380) dL_law_1365 (by decide) (fun c_1365 => ?_) (fun c_1365 => (hk c_1365).elim)
    refine a_goto cx (tgt := 1558) dL_law_1380 (by decide) ?_
    exact a_lv lwV_sub (a_wide (by omega) (by omega) (kk _ _ _ _ _ ⟨hH, hP.no _, ⟨f, hf⟩, ⟨f2, hf2⟩⟩))

set_option maxHeartbeats 4000000 in
set_option maxRecDepth 100000 in
/-- the law: mostOwed -/
theorem lw_mostOwed {l : Launch} {g : GW} {p : Program} {e : Env} {s : State} {m : MethodId} {args : Array Value} {below : List Frame} {meth : Method} {c : Code} {A : Nat → Prop} {Q : State → Prop} {ad : AD} {τ : RH} {cells slots b L i : Nat} {xs : Nat → Int32} {Lv : Nat → Bool} {C : ME} {ρ : RH} (cx : Cx l g p s m args meth c A cL_law 9 RL) (hX : va_X b L xs s s.heap) (hbl : b < s.heap.size) (hbA : ¬ A b) (hL : L ≤ 3072) (hi : i + 6 ≤ L) (hS : lwI g ad Lv C ρ τ) (hc : cells + 1000 ≤ 603072) (hs : slots + 10000 ≤ 7211114) (kk : ∀ ad' τ' Lv' C' ρ', lwI g ad' Lv' C' ρ' τ' → AW l g p e room_1 s m args below meth c A 9 Q ad' τ' (cells + 1000) (slots + 10000) 1558 (lwV b ad' i) []) : AW l g p e room_1 s m args below meth c A 9 Q ad τ cells slots 1383 (lwV b ad i) [] := by
  obtain ⟨hH, hP, ⟨f, hf⟩, ⟨f2, hf2⟩⟩ := hS
  have hI := hP.1
  have hO := (H_lines hH hI).1
  unfold lwV
  refine a_aload_n cx dL_law_1383 rfl rfl ?_
  refine a_aload_n cx dL_law_1384 rfl rfl ?_
  refine a_callSH cx 2 (sp_L_mostOwed hH hI hf) ml_L_173 st_L_mostOwed ini_L cd_L_mostOwed rfl rfl (by decide +kernel) rfl rfl ⟨(Nat.le_of_ble_eq_true rfl), (Nat.le_of_ble_eq_true rfl)⟩ (Nat.le_of_ble_eq_true rfl) dL_law_1385 ⟨show _ ≤ 603072 by omega, show _ ≤ 7211114 by omega⟩ (fun _ _ _ h => h.elim) (fun v9 ad9 τ9 hQ => ?_)
  obtain ⟨rfl, hQ⟩ := hQ
  rcases hQ with ⟨hk, had, hH⟩ | ⟨hk, h2, hH⟩
  · replace had := had.symm
    subst had
    have hj := (e_mostOwed hP.R hI).1.symm.trans hk
    have ha := (e_mostOwed hP.R hI).2 hk
    have hM1 := hP.2.1
    have hE := fun x : Int32 => hP.no x
    refine a_istore6 cx dL_law_1388 (by decide) (by intro w h; first | (cases h; rfl) | (cases h; assumption) | (cases h; done)) ?_
    refine a_aload_n cx dL_law_1390 rfl rfl ?_
    refine a_callV cx 0 (sp_X4_mostOwed hH (hE 0).mm hM1) (M_obj hH hP.mm) rfl ml_L_176 im_X4_mostOwed se_X4_mostOwed ini_X4 cd_X4_mostOwed rfl rfl (by decide +kernel) rfl rfl ⟨(Nat.le_of_ble_eq_true rfl), (Nat.le_of_ble_eq_true rfl)⟩ (Nat.le_of_ble_eq_true rfl) dL_law_1391 ⟨show _ ≤ 603072 by omega, show _ ≤ 7211114 by omega⟩ (fun _ _ _ h => h.elim) (fun v8 ad8 τ8 hQ => ?_)
    obtain ⟨⟨w, rfl, hw⟩, h2, hH⟩ := hQ
    replace h2 := h2.symm
    subst h2
    replace hw := hw hj
    rw [if_pos hj, hj] at hH
    have hf9 := (hH.2 90 (by decide)).trans rL_90
    refine a_istore7 cx dL_law_1394 (by decide) (by intro w h; first | (cases h; rfl) | (cases h; assumption) | (cases h; done)) ?_
    refine a_aload_n cx dL_law_1396 rfl rfl ?_
    refine a_callV cx 0 (sp_X4_thrown hH hP.mm) (M_obj hH hP.mm) rfl ml_L_108 im_X4_thrown se_X4_thrown ini_X4 cd_X4_thrown rfl rfl (by decide +kernel) rfl rfl ⟨(Nat.le_of_ble_eq_true rfl), (Nat.le_of_ble_eq_true rfl)⟩ (Nat.le_of_ble_eq_true rfl) dL_law_1397 ⟨show _ ≤ 603072 by omega, show _ ≤ 7211114 by omega⟩ (fun _ _ _ h => h.elim) (fun v8 ad8 τ8 hQ => ?_)
    obtain ⟨rfl, h2, h3⟩ := hQ
    replace h2 := h2.symm
    subst h2
    replace h3 := h3.symm
    subst h3
    refine a_iload cx dL_law_1400 rfl ?_
    refine a_icmp_eq cx (tgt := 1407) dL_law_1402 (by decide) (fun c_1402 => ?_) (fun c_1402 => (c_1402 (up2_eq.trans hk.symm)).elim)
    refine a_iload cx dL_law_1407 rfl ?_
    refine a_if_ne cx (tgt := 1424) dL_law_1409 (by decide) (fun c_1409 => (c_1409 hk).elim) (fun c_1409 => ?_)
    refine a_aload_n cx dL_law_1412 rfl rfl ?_
    refine a_iconst cx (v := 0) dL_law_1413 (by decide) ?_
    refine a_lld cx (0) hf9 (rfl) ((by decide)) (by decide) dL_law_1414 ?_
    refine a_iload cx dL_law_1415 rfl ?_
    refine a_i2l cx dL_law_1417 ?_
    refine a_lcmp cx dL_law_1418 ?_
    refine a_if_eq cx (tgt := 1424) dL_law_1419 (by decide) (fun c_1419 => ?_) (fun c_1419 => (c_1419 (lg_of (ha.trans hw.symm))).elim)
    refine a_goto cx (tgt := 1558) dL_law_1424 (by decide) ?_
    exact a_lv lwV_sub (a_wide (by omega) (by omega) (kk _ _ _ _ _ ⟨hH, hE 0, ⟨_, rL_90⟩, ⟨f2, rL_91.trans hf2⟩⟩))
  · replace h2 := h2.symm
    subst h2
    have hj := ((e_mostOwed hP.R hI).1).symm
    have hM1 := hP.2.1
    refine a_istore6 cx dL_law_1388 (by decide) (by intro w h; first | (cases h; rfl) | (cases h; assumption) | (cases h; done)) ?_
    refine a_aload_n cx dL_law_1390 rfl rfl ?_
    refine a_callV cx 0 (sp_X4_mostOwed hH hP.mm hM1) (M_obj hH hP.mm) rfl ml_L_176 im_X4_mostOwed se_X4_mostOwed ini_X4 cd_X4_mostOwed rfl rfl (by decide +kernel) rfl rfl ⟨(Nat.le_of_ble_eq_true rfl), (Nat.le_of_ble_eq_true rfl)⟩ (Nat.le_of_ble_eq_true rfl) dL_law_1391 ⟨show _ ≤ 603072 by omega, show _ ≤ 7211114 by omega⟩ (fun _ _ _ h => h.elim) (fun v8 ad8 τ8 hQ => ?_)
    obtain ⟨⟨w, rfl, hw⟩, h2, hH⟩ := hQ
    replace h2 := h2.symm
    subst h2
    rw [hj, if_neg hk] at hH
    refine a_istore7 cx dL_law_1394 (by decide) (by intro w h; first | (cases h; rfl) | (cases h; assumption) | (cases h; done)) ?_
    refine a_aload_n cx dL_law_1396 rfl rfl ?_
    refine a_callV cx 0 (sp_X4_thrown hH hP.mm) (M_obj hH hP.mm) rfl ml_L_108 im_X4_thrown se_X4_thrown ini_X4 cd_X4_thrown rfl rfl (by decide +kernel) rfl rfl ⟨(Nat.le_of_ble_eq_true rfl), (Nat.le_of_ble_eq_true rfl)⟩ (Nat.le_of_ble_eq_true rfl) dL_law_1397 ⟨show _ ≤ 603072 by omega, show _ ≤ 7211114 by omega⟩ (fun _ _ _ h => h.elim) (fun v8 ad8 τ8 hQ => ?_)
    obtain ⟨rfl, h2, h3⟩ := hQ
    replace h2 := h2.symm
    subst h2
    replace h3 := h3.symm
    subst h3
    refine a_iload cx dL_law_1400 rfl ?_
    refine a_icmp_eq cx (tgt := 1407) dL_law_1402 (by decide) (fun c_1402 => ?_) (fun c_1402 => (c_1402 up2_eq).elim)
    refine a_iload cx dL_law_1407 rfl ?_
    refine a_if_ne cx (tgt := 1424) dL_law_1409 (by decide) (fun c_1409 => ?_) (fun c_1409 => (hk c_1409).elim)
    refine a_goto cx (tgt := 1558) dL_law_1424 (by decide) ?_
    exact a_lv lwV_sub (a_wide (by omega) (by omega) (kk _ _ _ _ _ ⟨hH, hP.no _, ⟨f, hf⟩, ⟨f2, hf2⟩⟩))

set_option maxHeartbeats 4000000 in
set_option maxRecDepth 100000 in
/-- the law: doneShare -/
theorem lw_doneShare {l : Launch} {g : GW} {p : Program} {e : Env} {s : State} {m : MethodId} {args : Array Value} {below : List Frame} {meth : Method} {c : Code} {A : Nat → Prop} {Q : State → Prop} {ad : AD} {τ : RH} {cells slots b L i : Nat} {xs : Nat → Int32} {Lv : Nat → Bool} {C : ME} {ρ : RH} (cx : Cx l g p s m args meth c A cL_law 9 RL) (hX : va_X b L xs s s.heap) (hbl : b < s.heap.size) (hbA : ¬ A b) (hL : L ≤ 3072) (hi : i + 6 ≤ L) (hS : lwI g ad Lv C ρ τ) (hc : cells + 1000 ≤ 603072) (hs : slots + 10000 ≤ 7211114) (kk : ∀ ad' τ' Lv' C' ρ', lwI g ad' Lv' C' ρ' τ' → AW l g p e room_1 s m args below meth c A 9 Q ad' τ' (cells + 1000) (slots + 10000) 1558 (lwV b ad' i) []) : AW l g p e room_1 s m args below meth c A 9 Q ad τ cells slots 1427 (lwV b ad i) [] := by
  obtain ⟨hH, hP, ⟨f, hf⟩, ⟨f2, hf2⟩⟩ := hS
  have hI := hP.1
  have hO := (H_lines hH hI).1
  unfold lwV
  refine a_aload_n cx dL_law_1427 rfl rfl ?_
  refine a_aload cx dL_law_1428 rfl ?_
  refine a_callSH cx 2 (sp_L_doneShare hH hI hf2 (fun q => n32_of (hP.share q)) (fun q => n64_of (f2d_num (hP.share (kS0 q))))) ml_L_177 st_L_doneShare ini_L cd_L_doneShare rfl rfl (by decide +kernel) rfl rfl ⟨(Nat.le_of_ble_eq_true rfl), (Nat.le_of_ble_eq_true rfl)⟩ (Nat.le_of_ble_eq_true rfl) dL_law_1430 ⟨show _ ≤ 603072 by omega, show _ ≤ 7211114 by omega⟩ (fun _ _ _ h => h.elim) (fun v9 ad9 τ9 hQ => ?_)
  obtain ⟨rfl, hQ⟩ := hQ
  rcases hQ with ⟨hk, had, hH⟩ | ⟨hk, h2, hH⟩
  · replace had := had.symm
    subst had
    have hj := (e_doneShare hP.R).1.symm.trans hk
    have ha := (e_doneShare hP.R).2.1
    have hM1 := hP.2.1
    have hE := fun x : Int32 => hP.no x
    refine a_istore6 cx dL_law_1433 (by decide) (by intro w h; first | (cases h; rfl) | (cases h; assumption) | (cases h; done)) ?_
    refine a_aload_n cx dL_law_1435 rfl rfl ?_
    refine a_callV cx 0 (sp_X4_doneShare hH (hE 0).mm hM1 (fun q => by rw [← (e_doneShare hP.R).2.1]; exact n32_of (hP.share (by rw [(e_doneShare hP.R).2.2]; exact q)))) (M_obj hH hP.mm) rfl ml_L_180 im_X4_doneShare se_X4_doneShare ini_X4 cd_X4_doneShare rfl rfl (by decide +kernel) rfl rfl ⟨(Nat.le_of_ble_eq_true rfl), (Nat.le_of_ble_eq_true rfl)⟩ (Nat.le_of_ble_eq_true rfl) dL_law_1436 ⟨show _ ≤ 603072 by omega, show _ ≤ 7211114 by omega⟩ (fun _ _ _ h => h.elim) (fun v8 ad8 τ8 hQ => ?_)
    obtain ⟨⟨w, rfl, hw⟩, h2, hH⟩ := hQ
    replace h2 := h2.symm
    subst h2
    replace hw := hw hj
    rw [if_pos hj, hj] at hH
    have hf9 := (hH.2 91 (by decide)).trans rD_91
    refine a_fstore7 cx dL_law_1439 (by decide) (by intro w h; first | (cases h; rfl) | (cases h; assumption) | (cases h; done)) ?_
    refine a_aload_n cx dL_law_1441 rfl rfl ?_
    refine a_callV cx 0 (sp_X4_thrown hH hP.mm) (M_obj hH hP.mm) rfl ml_L_108 im_X4_thrown se_X4_thrown ini_X4 cd_X4_thrown rfl rfl (by decide +kernel) rfl rfl ⟨(Nat.le_of_ble_eq_true rfl), (Nat.le_of_ble_eq_true rfl)⟩ (Nat.le_of_ble_eq_true rfl) dL_law_1442 ⟨show _ ≤ 603072 by omega, show _ ≤ 7211114 by omega⟩ (fun _ _ _ h => h.elim) (fun v8 ad8 τ8 hQ => ?_)
    obtain ⟨rfl, h2, h3⟩ := hQ
    replace h2 := h2.symm
    subst h2
    replace h3 := h3.symm
    subst h3
    refine a_iload cx dL_law_1445 rfl ?_
    refine a_icmp_eq cx (tgt := 1452) dL_law_1447 (by decide) (fun c_1447 => ?_) (fun c_1447 => (c_1447 (up2_eq.trans hk.symm)).elim)
    refine a_iload cx dL_law_1452 rfl ?_
    refine a_if_ne cx (tgt := 1490) dL_law_1454 (by decide) (fun c_1454 => (c_1454 hk).elim) (fun c_1454 => ?_)
    refine a_aload cx dL_law_1457 rfl ?_
    refine a_iconst cx (v := 0) dL_law_1459 (by decide) ?_
    refine a_dld cx (0) hf9 (rfl) ((by decide)) (by decide) dL_law_1460 ?_
    refine a_fload cx dL_law_1461 rfl ?_
    refine a_f2d cx dL_law_1463 (by rw [hw, ← ha]; exact n64_of (f2d_num (hP.share (kS0 hk)))) ?_
    refine a_dcmp cx dL_law_1464 ?_
    refine a_if_eq cx (tgt := 1490) dL_law_1465 (by decide) (fun c_1465 => ?_) (fun c_1465 => (c_1465 (by rw [va_up_self, hw, ← ha]; exact dcmp_0 (f2d_num (hP.share (kS0 hk))))).elim)
    refine a_goto cx (tgt := 1558) dL_law_1490 (by decide) ?_
    exact a_lv lwV_sub (a_wide (by omega) (by omega) (kk _ _ _ _ _ ⟨hH, hE 0, ⟨f, rD_90.trans hf⟩, ⟨_, rD_91⟩⟩))
  · replace h2 := h2.symm
    subst h2
    have hj := ((e_doneShare hP.R).1).symm
    have hM1 := hP.2.1
    refine a_istore6 cx dL_law_1433 (by decide) (by intro w h; first | (cases h; rfl) | (cases h; assumption) | (cases h; done)) ?_
    refine a_aload_n cx dL_law_1435 rfl rfl ?_
    refine a_callV cx 0 (sp_X4_doneShare hH hP.mm hM1 (fun q => by rw [← (e_doneShare hP.R).2.1]; exact n32_of (hP.share (by rw [(e_doneShare hP.R).2.2]; exact q)))) (M_obj hH hP.mm) rfl ml_L_180 im_X4_doneShare se_X4_doneShare ini_X4 cd_X4_doneShare rfl rfl (by decide +kernel) rfl rfl ⟨(Nat.le_of_ble_eq_true rfl), (Nat.le_of_ble_eq_true rfl)⟩ (Nat.le_of_ble_eq_true rfl) dL_law_1436 ⟨show _ ≤ 603072 by omega, show _ ≤ 7211114 by omega⟩ (fun _ _ _ h => h.elim) (fun v8 ad8 τ8 hQ => ?_)
    obtain ⟨⟨w, rfl, hw⟩, h2, hH⟩ := hQ
    replace h2 := h2.symm
    subst h2
    rw [hj, if_neg hk] at hH
    refine a_fstore7 cx dL_law_1439 (by decide) (by intro w h; first | (cases h; rfl) | (cases h; assumption) | (cases h; done)) ?_
    refine a_aload_n cx dL_law_1441 rfl rfl ?_
    refine a_callV cx 0 (sp_X4_thrown hH hP.mm) (M_obj hH hP.mm) rfl ml_L_108 im_X4_thrown se_X4_thrown ini_X4 cd_X4_thrown rfl rfl (by decide +kernel) rfl rfl ⟨(Nat.le_of_ble_eq_true rfl), (Nat.le_of_ble_eq_true rfl)⟩ (Nat.le_of_ble_eq_true rfl) dL_law_1442 ⟨show _ ≤ 603072 by omega, show _ ≤ 7211114 by omega⟩ (fun _ _ _ h => h.elim) (fun v8 ad8 τ8 hQ => ?_)
    obtain ⟨rfl, h2, h3⟩ := hQ
    replace h2 := h2.symm
    subst h2
    replace h3 := h3.symm
    subst h3
    refine a_iload cx dL_law_1445 rfl ?_
    refine a_icmp_eq cx (tgt := 1452) dL_law_1447 (by decide) (fun c_1447 => ?_) (fun c_1447 => (c_1447 up2_eq).elim)
    refine a_iload cx dL_law_1452 rfl ?_
    refine a_if_ne cx (tgt := 1490) dL_law_1454 (by decide) (fun c_1454 => ?_) (fun c_1454 => (hk c_1454).elim)
    refine a_goto cx (tgt := 1558) dL_law_1490 (by decide) ?_
    exact a_lv lwV_sub (a_wide (by omega) (by omega) (kk _ _ _ _ _ ⟨hH, hP.no _, ⟨f, hf⟩, ⟨f2, hf2⟩⟩))

set_option maxHeartbeats 4000000 in
set_option maxRecDepth 100000 in
/-- the law: meanScore -/
theorem lw_meanScore {l : Launch} {g : GW} {p : Program} {e : Env} {s : State} {m : MethodId} {args : Array Value} {below : List Frame} {meth : Method} {c : Code} {A : Nat → Prop} {Q : State → Prop} {ad : AD} {τ : RH} {cells slots b L i : Nat} {xs : Nat → Int32} {Lv : Nat → Bool} {C : ME} {ρ : RH} (cx : Cx l g p s m args meth c A cL_law 9 RL) (hX : va_X b L xs s s.heap) (hbl : b < s.heap.size) (hbA : ¬ A b) (hL : L ≤ 3072) (hi : i + 6 ≤ L) (hS : lwI g ad Lv C ρ τ) (hc : cells + 1000 ≤ 603072) (hs : slots + 10000 ≤ 7211114) (kk : ∀ ad' τ' Lv' C' ρ', lwI g ad' Lv' C' ρ' τ' → AW l g p e room_1 s m args below meth c A 9 Q ad' τ' (cells + 1000) (slots + 10000) 1558 (lwV b ad' i) []) : AW l g p e room_1 s m args below meth c A 9 Q ad τ cells slots 1493 (lwV b ad i) [] := by
  obtain ⟨hH, hP, ⟨f, hf⟩, ⟨f2, hf2⟩⟩ := hS
  have hI := hP.1
  have hO := (H_lines hH hI).1
  unfold lwV
  refine a_aload_n cx dL_law_1493 rfl rfl ?_
  refine a_aload cx dL_law_1494 rfl ?_
  refine a_callSH cx 2 (sp_L_meanScore hH hI hf2 (fun q => n64_of (hP.mean q))) ml_L_181 st_L_meanScore ini_L cd_L_meanScore rfl rfl (by decide +kernel) rfl rfl ⟨(Nat.le_of_ble_eq_true rfl), (Nat.le_of_ble_eq_true rfl)⟩ (Nat.le_of_ble_eq_true rfl) dL_law_1496 ⟨show _ ≤ 603072 by omega, show _ ≤ 7211114 by omega⟩ (fun _ _ _ h => h.elim) (fun v9 ad9 τ9 hQ => ?_)
  obtain ⟨rfl, hQ⟩ := hQ
  rcases hQ with ⟨hk, had, hH⟩ | ⟨hk, h2, hH⟩
  · replace had := had.symm
    subst had
    have hj := (e_meanScore hP.R hI hP.2.1).1.symm.trans hk
    have ha := (e_meanScore hP.R hI hP.2.1).2.1
    have hM1 := hP.2.1
    have hE := fun x : Int32 => hP.no x
    refine a_istore6 cx dL_law_1499 (by decide) (by intro w h; first | (cases h; rfl) | (cases h; assumption) | (cases h; done)) ?_
    refine a_aload_n cx dL_law_1501 rfl rfl ?_
    refine a_callV cx 0 (sp_X4_meanScore hH (hE 0).mm hM1 (fun q => by rw [← (e_meanScore hP.R hI hP.2.1).2.1]; exact n64_of (hP.mean (by rw [← (e_meanScore hP.R hI hP.2.1).2.2]; exact q)))) (M_obj hH hP.mm) rfl ml_L_183 im_X4_meanScore se_X4_meanScore ini_X4 cd_X4_meanScore rfl rfl (by decide +kernel) rfl rfl ⟨(Nat.le_of_ble_eq_true rfl), (Nat.le_of_ble_eq_true rfl)⟩ (Nat.le_of_ble_eq_true rfl) dL_law_1502 ⟨show _ ≤ 603072 by omega, show _ ≤ 7211114 by omega⟩ (fun _ _ _ h => h.elim) (fun v8 ad8 τ8 hQ => ?_)
    obtain ⟨⟨w, rfl, hw⟩, h2, hH⟩ := hQ
    replace h2 := h2.symm
    subst h2
    replace hw := hw hj
    rw [if_pos hj, hj] at hH
    have hf9 := (hH.2 91 (by decide)).trans rD_91
    refine a_dstore7 cx dL_law_1505 (by decide) (by intro w h; first | (cases h; rfl) | (cases h; assumption) | (cases h; done)) ?_
    refine a_aload_n cx dL_law_1507 rfl rfl ?_
    refine a_callV cx 0 (sp_X4_thrown hH hP.mm) (M_obj hH hP.mm) rfl ml_L_108 im_X4_thrown se_X4_thrown ini_X4 cd_X4_thrown rfl rfl (by decide +kernel) rfl rfl ⟨(Nat.le_of_ble_eq_true rfl), (Nat.le_of_ble_eq_true rfl)⟩ (Nat.le_of_ble_eq_true rfl) dL_law_1508 ⟨show _ ≤ 603072 by omega, show _ ≤ 7211114 by omega⟩ (fun _ _ _ h => h.elim) (fun v8 ad8 τ8 hQ => ?_)
    obtain ⟨rfl, h2, h3⟩ := hQ
    replace h2 := h2.symm
    subst h2
    replace h3 := h3.symm
    subst h3
    refine a_iload cx dL_law_1511 rfl ?_
    refine a_icmp_eq cx (tgt := 1518) dL_law_1513 (by decide) (fun c_1513 => ?_) (fun c_1513 => (c_1513 (up2_eq.trans hk.symm)).elim)
    refine a_iload cx dL_law_1518 rfl ?_
    refine a_if_ne cx (tgt := 1555) dL_law_1520 (by decide) (fun c_1520 => (c_1520 hk).elim) (fun c_1520 => ?_)
    refine a_aload cx dL_law_1523 rfl ?_
    refine a_iconst cx (v := 0) dL_law_1525 (by decide) ?_
    refine a_dld cx (0) hf9 (rfl) ((by decide)) (by decide) dL_law_1526 ?_
    refine a_dload cx dL_law_1527 rfl ?_
    refine a_dcmp cx dL_law_1529 ?_
    refine a_if_eq cx (tgt := 1555) dL_law_1530 (by decide) (fun c_1530 => ?_) (fun c_1530 => (c_1530 (by rw [va_up_self, hw, ← ha]; exact dcmp_0 (hP.mean (kM9 hk)))).elim)
    refine a_goto cx (tgt := 1558) dL_law_1555 (by decide) ?_
    exact a_lv lwV_sub (a_wide (by omega) (by omega) (kk _ _ _ _ _ ⟨hH, hE 0, ⟨f, rD_90.trans hf⟩, ⟨_, rD_91⟩⟩))
  · replace h2 := h2.symm
    subst h2
    have hj := ((e_meanScore hP.R hI hP.2.1).1).symm
    have hM1 := hP.2.1
    refine a_istore6 cx dL_law_1499 (by decide) (by intro w h; first | (cases h; rfl) | (cases h; assumption) | (cases h; done)) ?_
    refine a_aload_n cx dL_law_1501 rfl rfl ?_
    refine a_callV cx 0 (sp_X4_meanScore hH hP.mm hM1 (fun q => by rw [← (e_meanScore hP.R hI hP.2.1).2.1]; exact n64_of (hP.mean (by rw [← (e_meanScore hP.R hI hP.2.1).2.2]; exact q)))) (M_obj hH hP.mm) rfl ml_L_183 im_X4_meanScore se_X4_meanScore ini_X4 cd_X4_meanScore rfl rfl (by decide +kernel) rfl rfl ⟨(Nat.le_of_ble_eq_true rfl), (Nat.le_of_ble_eq_true rfl)⟩ (Nat.le_of_ble_eq_true rfl) dL_law_1502 ⟨show _ ≤ 603072 by omega, show _ ≤ 7211114 by omega⟩ (fun _ _ _ h => h.elim) (fun v8 ad8 τ8 hQ => ?_)
    obtain ⟨⟨w, rfl, hw⟩, h2, hH⟩ := hQ
    replace h2 := h2.symm
    subst h2
    rw [hj, if_neg hk] at hH
    refine a_dstore7 cx dL_law_1505 (by decide) (by intro w h; first | (cases h; rfl) | (cases h; assumption) | (cases h; done)) ?_
    refine a_aload_n cx dL_law_1507 rfl rfl ?_
    refine a_callV cx 0 (sp_X4_thrown hH hP.mm) (M_obj hH hP.mm) rfl ml_L_108 im_X4_thrown se_X4_thrown ini_X4 cd_X4_thrown rfl rfl (by decide +kernel) rfl rfl ⟨(Nat.le_of_ble_eq_true rfl), (Nat.le_of_ble_eq_true rfl)⟩ (Nat.le_of_ble_eq_true rfl) dL_law_1508 ⟨show _ ≤ 603072 by omega, show _ ≤ 7211114 by omega⟩ (fun _ _ _ h => h.elim) (fun v8 ad8 τ8 hQ => ?_)
    obtain ⟨rfl, h2, h3⟩ := hQ
    replace h2 := h2.symm
    subst h2
    replace h3 := h3.symm
    subst h3
    refine a_iload cx dL_law_1511 rfl ?_
    refine a_icmp_eq cx (tgt := 1518) dL_law_1513 (by decide) (fun c_1513 => ?_) (fun c_1513 => (c_1513 up2_eq).elim)
    refine a_iload cx dL_law_1518 rfl ?_
    refine a_if_ne cx (tgt := 1555) dL_law_1520 (by decide) (fun c_1520 => ?_) (fun c_1520 => (hk c_1520).elim)
    refine a_goto cx (tgt := 1558) dL_law_1555 (by decide) ?_
    exact a_lv lwV_sub (a_wide (by omega) (by omega) (kk _ _ _ _ _ ⟨hH, hP.no _, ⟨f, hf⟩, ⟨f2, hf2⟩⟩))

