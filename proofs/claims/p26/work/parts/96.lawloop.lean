section LLOOP
variable {l : Launch} {g : GW} {p : Program} {e : Env} {s : State} {m : MethodId} {args : Array Value} {below : List Frame} {meth : Method} {c : Code} {A : Nat → Prop} {Q : State → Prop} {ad : AD} {τ : RH} {cells slots n T k : Nat} {a11 a12 a13 z15 z16 z17 : Option Value} {Lv : Nat → Bool} {C B W : ME}
set_option maxHeartbeats 4000000 in
set_option maxRecDepth 100000 in
/-- behind each step: the sums, the lines -/
theorem lw_tail (cx : Cx l g p s m args meth c A cL_law 18 RL) (hH : HH g ad Lv C (laR g n W) τ) (hS : lwS n T W Lv C B) (hT : T ≤ 200) (hc : cells + 1300 ≤ 600258) (hs : slots + 13000 ≤ 7294186) (K : ∀ C' τ', HH g ad Lv C' (laR g n W) τ' → lwS n T W Lv C' B → AW l g p e room_1 s m args below meth c A 18 Q ad τ' (cells + 1200) (slots + 12000) 269 (lwV g ad n (k + 1) a11 a12 a13 (some (.int 1)) z15 z16 z17) []) : AW l g p e room_1 s m args below meth c A 18 Q ad τ cells slots 750 (lwV g ad n k a11 a12 a13 (some (.int 1)) z15 z16 z17) [] := by
  unfold lwV
  refine a_iload cx dL_law_750 rfl ?_
  refine a_if_eq cx (tgt := 784) dL_law_752 (by decide) (fun c_752 => absurd c_752 (by decide)) (fun c_752 => ?_)
  refine a_aload_n cx dL_law_755 rfl rfl ?_
  refine a_aload cx dL_law_756 rfl ?_
  refine a_aload cx dL_law_758 rfl ?_
  refine a_iload_n cx dL_law_760 rfl rfl ?_
  refine a_aload_n cx dL_law_761 rfl rfl ?_
  refine a_callS cx 5 (sp_L_sums hH hS hT) ml_L_160 st_L_sums ini_L cd_L_sums rfl rfl (by decide +kernel) rfl rfl ⟨(Nat.le_of_ble_eq_true rfl), (Nat.le_of_ble_eq_true rfl)⟩ (Nat.le_of_ble_eq_true rfl) dL_law_762 ⟨show _ ≤ 600258 by omega, show _ ≤ 7294186 by omega⟩ (fun _ _ _ h => h.elim) (fun v9 ad9 τ9 hP => ?_)
  obtain ⟨rfl, h2, C9, hH9, hS9⟩ := hP
  replace h2 := h2.symm
  subst h2
  refine a_if_eq cx (tgt := 784) dL_law_765 (by decide) (fun c_765 => absurd c_765 (by decide)) (fun c_765 => ?_)
  refine a_aload_n cx dL_law_768 rfl rfl ?_
  refine a_aload cx dL_law_769 rfl ?_
  refine a_iload_n cx dL_law_771 rfl rfl ?_
  refine a_aload cx dL_law_772 rfl ?_
  refine a_aload cx dL_law_774 rfl ?_
  refine a_aload cx dL_law_776 rfl ?_
  refine a_callS cx 6 (sp_L_lines hH9 hS9 hT) ml_L_164 st_L_lines ini_L cd_L_lines rfl rfl (by decide +kernel) rfl rfl ⟨(Nat.le_of_ble_eq_true rfl), (Nat.le_of_ble_eq_true rfl)⟩ (Nat.le_of_ble_eq_true rfl) dL_law_778 ⟨show _ ≤ 600258 by omega, show _ ≤ 7294186 by omega⟩ (fun _ _ _ h => h.elim) (fun v9 ad9 τ9 hP => ?_)
  obtain ⟨rfl, h2, h3⟩ := hP
  replace h2 := h2.symm
  subst h2
  replace h3 := h3.symm
  subst h3
  refine a_if_ne cx (tgt := 786) dL_law_781 (by decide) (fun c_781 => ?_) (fun c_781 => absurd c_781 (by decide))
  refine a_iinc10 cx (nI (k + 1)) dL_law_786 (nI_1 k) (by decide) (by intro w h; first | (cases h; rfl) | (cases h; assumption) | (cases h; done)) ?_
  refine a_goto cx (tgt := 269) dL_law_789 (by decide) ?_
  exact a_wide (by omega) (by omega) (K _ _ hH9 hS9)
set_option maxHeartbeats 4000000 in
set_option maxRecDepth 100000 in
/-- one round of the law's loop -/
theorem lw_round {z11 z12 z13 z14 : Option Value} (cx : Cx l g p s m args meth c A cL_law 18 RL) (hH : HH g ad Lv C (laR g n W) τ) (hS : lwS n T W Lv C B) (hT : T < 200) (hk : k < 36) (hc : cells + 3000 ≤ 600258) (hs : slots + 30000 ≤ 7294186) (K : ∀ ad' τ' C' B' W' y11 y12 y13 y14 y15 y16 y17, HH g ad' Lv C' (laR g n W') τ' → lwS n (T + 1) W' Lv C' B' → AW l g p e room_1 s m args below meth c A 18 Q ad' τ' (cells + 3000) (slots + 30000) 269 (lwV g ad' n (k + 1) y11 y12 y13 y14 y15 y16 y17) []) : AW l g p e room_1 s m args below meth c A 18 Q ad τ cells slots 276 (lwV g ad n k z11 z12 z13 z14 z15 z16 z17) [] := by
  have h8 := hS.n8
  have hn1 : 0 < n := hS.2.1.1
  unfold lwV
  refine a_aload_n cx dL_law_276 rfl rfl ?_
  refine a_bipush cx (v := 16) dL_law_277 (by decide) ?_
  refine a_iload cx dL_law_279 rfl ?_
  refine a_iadd cx dL_law_281 ?_
  refine a_int (y := nI (16 + k)) (nI_add 16 k) ?_
  refine a_callS cx 2 (sp_L_cell (k := 16 + k) (by omega)) ml_L_8 st_L_cell ini_L cd_L_cell rfl rfl (by decide +kernel) rfl rfl ⟨(Nat.le_of_ble_eq_true rfl), (Nat.le_of_ble_eq_true rfl)⟩ (Nat.le_of_ble_eq_true rfl) dL_law_282 ⟨show _ ≤ 600258 by omega, show _ ≤ 7294186 by omega⟩ (fun _ _ _ h => h.elim) (fun v9 ad9 τ9 hP => ?_)
  obtain ⟨⟨x9, rfl⟩, h2, h3⟩ := hP
  replace h2 := h2.symm
  subst h2
  replace h3 := h3.symm
  subst h3
  refine a_iconst cx (v := 1) dL_law_285 (by decide) ?_
  refine a_ushr1 cx rfl dL_law_286 (fun V hV => ?_)
  refine a_istore11 cx dL_law_287 (by decide) (by intro w h; first | (cases h; rfl) | (cases h; assumption) | (cases h; done)) ?_
  refine a_iload cx dL_law_289 rfl ?_
  refine a_bipush cx (v := 16) dL_law_291 (by decide) ?_
  refine a_idiv cx (a := V) (b := 16) rfl rfl (by omega) (by omega) (by omega) dL_law_293 ?_
  refine a_iload_n cx dL_law_294 rfl rfl ?_
  refine a_irem cx (a := V / 16) (b := n) rfl rfl (by omega) (by omega) (by omega) dL_law_295 ?_
  obtain ⟨j, hje, hj⟩ : ∃ j, V / 16 % n = j ∧ j < n := ⟨_, rfl, Nat.mod_lt _ hn1⟩
  rw [hje]
  refine a_istore12 cx dL_law_296 (by decide) (by intro w h; first | (cases h; rfl) | (cases h; assumption) | (cases h; done)) ?_
  refine a_iload cx dL_law_298 rfl ?_
  refine a_sipush cx (v := 256) dL_law_300 (by decide) ?_
  refine a_idiv cx (a := V) (b := 256) rfl rfl (by omega) (by omega) (by omega) dL_law_303 ?_
  refine a_iconst cx (v := 4) dL_law_304 (by decide) ?_
  refine a_irem cx (a := V / 256) (b := 4) rfl rfl (by omega) (by omega) (by omega) dL_law_305 ?_
  obtain ⟨u, hue, hu⟩ : ∃ u, V / 256 % 4 = u ∧ u < 4 := ⟨_, rfl, by omega⟩
  rw [hue]
  refine a_istore13 cx dL_law_306 (by decide) (by intro w h; first | (cases h; rfl) | (cases h; assumption) | (cases h; done)) ?_
  refine a_iconst cx (v := 1) dL_law_308 (by decide) ?_
  refine a_istore14 cx dL_law_309 (by decide) (by intro w h; first | (cases h; rfl) | (cases h; assumption) | (cases h; done)) ?_
  refine a_iload cx dL_law_311 rfl ?_
  refine a_bipush cx (v := 16) dL_law_313 (by decide) ?_
  refine a_irem cx (a := V) (b := 16) rfl rfl (by omega) (by omega) (by omega) dL_law_315 ?_
  have hq : (nI (V % 16)).toInt = ((V % 16 : Nat) : Int) := nI_toInt (by omega)
  by_cases hx : 10 < V % 16
  · exact a_tableOut cx dL_law_316 (Or.inr (by rw [hq]; omega)) (tgt := 741) (by decide) (lw_shift cx hH hS hT hV hj hu (by omega) (by omega) (fun ad' τ' C' B' W' y15 y16 y17 hH' hS' => lw_tail cx hH' hS' (by omega) (by omega) (by omega) (fun C2 τ2 hH2 hS2 => a_wide (by omega) (by omega) (K _ _ _ _ _ _ _ _ _ _ _ _ hH2 hS2))))
  · rcases (show V % 16 = 0 ∨ V % 16 = 1 ∨ V % 16 = 2 ∨ V % 16 = 3 ∨ V % 16 = 4 ∨ V % 16 = 5 ∨ V % 16 = 6 ∨ V % 16 = 7 ∨ V % 16 = 8 ∨ V % 16 = 9 ∨ V % 16 = 10 by omega) with q | q | q | q | q | q | q | q | q | q | q
    · exact a_tableIn cx dL_law_316 (by rw [hq]; omega) (by rw [hq]; omega) (off := 60) (tgt := 376) (by rw [hq, q]; rfl) (by decide) (lw_train cx hH hS hT hV hj hu (by omega) (by omega) (fun ad' τ' C' B' W' y15 y16 y17 hH' hS' => lw_tail cx hH' hS' (by omega) (by omega) (by omega) (fun C2 τ2 hH2 hS2 => a_wide (by omega) (by omega) (K _ _ _ _ _ _ _ _ _ _ _ _ hH2 hS2))))
    · exact a_tableIn cx dL_law_316 (by rw [hq]; omega) (by rw [hq]; omega) (off := 60) (tgt := 376) (by rw [hq, q]; rfl) (by decide) (lw_train cx hH hS hT hV hj hu (by omega) (by omega) (fun ad' τ' C' B' W' y15 y16 y17 hH' hS' => lw_tail cx hH' hS' (by omega) (by omega) (by omega) (fun C2 τ2 hH2 hS2 => a_wide (by omega) (by omega) (K _ _ _ _ _ _ _ _ _ _ _ _ hH2 hS2))))
    · exact a_tableIn cx dL_law_316 (by rw [hq]; omega) (by rw [hq]; omega) (off := 101) (tgt := 417) (by rw [hq, q]; rfl) (by decide) (lw_there cx hH hS hT hV hj hu (by omega) (by omega) (fun ad' τ' C' B' W' y15 y16 y17 hH' hS' => lw_tail cx hH' hS' (by omega) (by omega) (by omega) (fun C2 τ2 hH2 hS2 => a_wide (by omega) (by omega) (K _ _ _ _ _ _ _ _ _ _ _ _ hH2 hS2))))
    · exact a_tableIn cx dL_law_316 (by rw [hq]; omega) (by rw [hq]; omega) (off := 101) (tgt := 417) (by rw [hq, q]; rfl) (by decide) (lw_there cx hH hS hT hV hj hu (by omega) (by omega) (fun ad' τ' C' B' W' y15 y16 y17 hH' hS' => lw_tail cx hH' hS' (by omega) (by omega) (by omega) (fun C2 τ2 hH2 hS2 => a_wide (by omega) (by omega) (K _ _ _ _ _ _ _ _ _ _ _ _ hH2 hS2))))
    · exact a_tableIn cx dL_law_316 (by rw [hq]; omega) (by rw [hq]; omega) (off := 101) (tgt := 417) (by rw [hq, q]; rfl) (by decide) (lw_there cx hH hS hT hV hj hu (by omega) (by omega) (fun ad' τ' C' B' W' y15 y16 y17 hH' hS' => lw_tail cx hH' hS' (by omega) (by omega) (by omega) (fun C2 τ2 hH2 hS2 => a_wide (by omega) (by omega) (K _ _ _ _ _ _ _ _ _ _ _ _ hH2 hS2))))
    · exact a_tableIn cx dL_law_316 (by rw [hq]; omega) (by rw [hq]; omega) (off := 160) (tgt := 476) (by rw [hq, q]; rfl) (by decide) (lw_bring cx hH hS hT hV hj hu (by omega) (by omega) (fun ad' τ' C' B' W' y15 y16 y17 hH' hS' => lw_tail cx hH' hS' (by omega) (by omega) (by omega) (fun C2 τ2 hH2 hS2 => a_wide (by omega) (by omega) (K _ _ _ _ _ _ _ _ _ _ _ _ hH2 hS2))))
    · exact a_tableIn cx dL_law_316 (by rw [hq]; omega) (by rw [hq]; omega) (off := 160) (tgt := 476) (by rw [hq, q]; rfl) (by decide) (lw_bring cx hH hS hT hV hj hu (by omega) (by omega) (fun ad' τ' C' B' W' y15 y16 y17 hH' hS' => lw_tail cx hH' hS' (by omega) (by omega) (by omega) (fun C2 τ2 hH2 hS2 => a_wide (by omega) (by omega) (K _ _ _ _ _ _ _ _ _ _ _ _ hH2 hS2))))
    · exact a_tableIn cx dL_law_316 (by rw [hq]; omega) (by rw [hq]; omega) (off := 218) (tgt := 534) (by rw [hq, q]; rfl) (by decide) (lw_put cx hH hS hT hV hj hu (by omega) (by omega) (fun ad' τ' C' B' W' y15 y16 y17 hH' hS' => lw_tail cx hH' hS' (by omega) (by omega) (by omega) (fun C2 τ2 hH2 hS2 => a_wide (by omega) (by omega) (K _ _ _ _ _ _ _ _ _ _ _ _ hH2 hS2))))
    · exact a_tableIn cx dL_law_316 (by rw [hq]; omega) (by rw [hq]; omega) (off := 218) (tgt := 534) (by rw [hq, q]; rfl) (by decide) (lw_put cx hH hS hT hV hj hu (by omega) (by omega) (fun ad' τ' C' B' W' y15 y16 y17 hH' hS' => lw_tail cx hH' hS' (by omega) (by omega) (by omega) (fun C2 τ2 hH2 hS2 => a_wide (by omega) (by omega) (K _ _ _ _ _ _ _ _ _ _ _ _ hH2 hS2))))
    · exact a_tableIn cx dL_law_316 (by rw [hq]; omega) (by rw [hq]; omega) (off := 218) (tgt := 534) (by rw [hq, q]; rfl) (by decide) (lw_put cx hH hS hT hV hj hu (by omega) (by omega) (fun ad' τ' C' B' W' y15 y16 y17 hH' hS' => lw_tail cx hH' hS' (by omega) (by omega) (by omega) (fun C2 τ2 hH2 hS2 => a_wide (by omega) (by omega) (K _ _ _ _ _ _ _ _ _ _ _ _ hH2 hS2))))
    · exact a_tableIn cx dL_law_316 (by rw [hq]; omega) (by rw [hq]; omega) (off := 314) (tgt := 630) (by rw [hq, q]; rfl) (by decide) (lw_fail cx hH hS hT hV hj hu (by omega) (by omega) (fun ad' τ' C' B' W' y15 y16 y17 hH' hS' => lw_tail cx hH' hS' (by omega) (by omega) (by omega) (fun C2 τ2 hH2 hS2 => a_wide (by omega) (by omega) (K _ _ _ _ _ _ _ _ _ _ _ _ hH2 hS2))))
set_option maxHeartbeats 4000000 in
set_option maxRecDepth 100000 in
/-- the law's loop -/
theorem lw_loop {z11 z12 z13 z14 : Option Value} (cx : Cx l g p s m args meth c A cL_law 18 RL) (hH : HH g ad Lv C (laR g n W) τ) (hS : lwS n 0 W Lv C B) (hc : cells ≤ 5000) (hs : slots ≤ 50000) (kend : ∀ ad' τ' cells' slots' lv', cells' ≤ 600258 → slots' ≤ 7294186 → AW l g p e room_1 s m args below meth c A 18 Q ad' τ' cells' slots' 792 lv' []) : AW l g p e room_1 s m args below meth c A 18 Q ad τ cells slots 269 (lwV g ad n 0 z11 z12 z13 z14 z15 z16 z17) [] := by
  refine a_loopG (σ := Nat × AD × RH × ME × ME × ME × Option Value × Option Value × Option Value × Option Value × Option Value × Option Value × Option Value) (fun f s => s.1 + f = 36 ∧ HH g s.2.1 Lv s.2.2.2.1 (laR g n s.2.2.2.2.2.1) s.2.2.1 ∧ lwS n s.1 s.2.2.2.2.2.1 Lv s.2.2.2.1 s.2.2.2.2.1) (fun s => s.2.1) (fun s => s.2.2.1) (fun s => lwV g s.2.1 n s.1 s.2.2.2.2.2.2.1 s.2.2.2.2.2.2.2.1 s.2.2.2.2.2.2.2.2.1 s.2.2.2.2.2.2.2.2.2.1 s.2.2.2.2.2.2.2.2.2.2.1 s.2.2.2.2.2.2.2.2.2.2.2.1 s.2.2.2.2.2.2.2.2.2.2.2.2) (fun s => 5000 + 3000 * s.1) (fun s => 50000 + 30000 * s.1) 36 (0, ad, τ, C, B, W, _, _, _, _, _, _, _) ⟨rfl, hH, hS⟩ rfl rfl rfl hc hs ?_
  clear hS hH hc hs
  rintro f ⟨k, ad1, τ1, C1, B1, W1, y11, y12, y13, y14, y15, y16, y17⟩ ⟨hk, hH, hS⟩ ih
  dsimp only at hk hH hS ⊢
  refine a_iload cx dL_law_269 rfl ?_
  refine a_bipush cx (v := 36) dL_law_271 (by decide) ?_
  refine a_icmp_ge cx (tgt := 792) dL_law_273 (by decide) (fun c_273 => ?_) (fun c_273 => ?_)
  · exact kend _ _ _ _ _ (by omega) (by omega)
  · have hk2 : k < 36 := int_lt (a := 36) (b := k) (by omega) (by omega) c_273
    refine lw_round cx hH hS (by omega) hk2 (by omega) (by omega) (fun ad' τ' C' B' W' x11 x12 x13 x14 x15 x16 x17 hH' hS' => ?_)
    refine a_wide (k := 5000 + 3000 * (k + 1)) (n := 50000 + 30000 * (k + 1)) (by omega) (by omega) ?_
    exact ih (f - 1) (k + 1, ad', τ', C', B', W', x11, x12, x13, x14, x15, x16, x17) (by omega) ⟨by first | omega | (dsimp only; omega), hH', hS'⟩
end LLOOP
