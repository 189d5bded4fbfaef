section LENTRY
variable {l : Launch} {g : GW} {p : Program} {e : Env} {s : State} {m : MethodId} {args : Array Value} {below : List Frame} {meth : Method} {c : Code} {A : Nat → Prop} {Q : State → Prop} {ad : AD} {τ : RH} {cells slots n T k : Nat} {z11 z12 z13 z14 z15 z16 z17 : Option Value} {Lv : Nat → Bool} {C B W : ME}
set_option maxHeartbeats 4000000 in
set_option maxRecDepth 100000 in
/-- the panels, and on -/
theorem lw_meets (cx : Cx l g p s m args meth c A cL_law 18 RL) (hH : HH g ad Lv C (laR g n W) τ) (hS : sC 0 n W Lv C B) (hc : cells ≤ 300) (hs : slots ≤ 3000) (kend : ∀ ad' τ' cells' slots' lv', cells' ≤ 600258 → slots' ≤ 7294186 → AW l g p e room_1 s m args below meth c A 18 Q ad' τ' cells' slots' 792 (lv') []) : AW l g p e room_1 s m args below meth c A 18 Q ad τ cells slots 231 (lwV g ad n 0 z11 z12 z13 z14 z15 z16 z17) [] := by
  refine a_loopG (σ := Nat × AD × RH × (Nat → Bool) × ME × ME) (fun f s => s.1 + f = 2 ∧ HH g s.2.1 s.2.2.2.1 s.2.2.2.2.1 (laR g n W) s.2.2.1 ∧ sC s.1 n W s.2.2.2.1 s.2.2.2.2.1 s.2.2.2.2.2) (fun s => s.2.1) (fun s => s.2.2.1) (fun s => lwV g s.2.1 n s.1 z11 z12 z13 z14 z15 z16 z17) (fun s => 300 + 2000 * s.1) (fun s => 3000 + 20000 * s.1) 2 (0, ad, τ, Lv, C, B) ⟨rfl, hH, hS⟩ rfl rfl rfl hc hs ?_
  clear hH hS hc hs
  rintro f ⟨b, ad, τ, Lv, C, B⟩ ⟨hb0, hH, hS⟩ ih
  dsimp only at hb0 hH hS ⊢
  unfold lwV
  have hI := hS.1.1
  refine a_iload cx dL_law_231 rfl ?_
  refine a_iconst cx (v := 2) dL_law_233 (by decide) ?_
  refine a_icmp_ge cx (tgt := 266) dL_law_234 (by decide) (fun c_234 => ?_) (fun c_234 => ?_)
  · have hb2 : b = 2 := by have := le_nI (a := 2) c_234 (by omega) (by omega); omega
    subst hb2
    refine a_iconst cx (v := 0) dL_law_266 (by decide) ?_
    refine a_istore10 cx dL_law_267 (by decide) (by intro w h; first | (cases h; rfl) | (cases h; assumption) | (cases h; done)) ?_
    exact lw_loop cx hH hS.fin (by omega) (by omega) kend
  · have hb : b < 2 := int_lt (b := b) (a := 2) (by omega) (by omega) c_234
    obtain ⟨f, rfl⟩ : ∃ f9, f = f9 + 1 := ⟨f - 1, by omega⟩
    obtain ⟨hk, B9, hS9⟩ := hS.meet hb
    refine a_aload_n cx dL_law_237 rfl rfl ?_
    refine a_iload cx dL_law_238 rfl ?_
    refine a_callSH cx 2 (sp_L_meet (b := nI b) hH hI) ml_L_136 st_L_meet ini_L cd_L_meet rfl rfl (by decide +kernel) rfl rfl ⟨(Nat.le_of_ble_eq_true rfl), (Nat.le_of_ble_eq_true rfl)⟩ (Nat.le_of_ble_eq_true rfl) dL_law_240 ⟨show _ ≤ 600258 by omega, show _ ≤ 7294186 by omega⟩ (fun _ _ _ h => h.elim) (fun v9 ad9 τ9 hP => ?_)
    obtain ⟨rfl, hP⟩ := hP
    obtain ⟨-, had, hH9⟩ : _ ∧ _ ∧ _ := hP.resolve_right (fun q => q.1 hk)
    rw [rr_of hk rfl]
    replace had : ∀ y, y ≠ 12 + 10 * b → ad9 y = ad y := fun y hy => had y (by rw [tn_nI (by omega)]; exact hy)
    rw [← had 0 (by omega), ← had 84 (by omega), ← had 85 (by omega), ← had 86 (by omega), ← had 87 (by omega), ← had 88 (by omega), ← had 89 (by omega), ← had 90 (by omega)]
    clear hP
    generalize qMeet Lv C (tn (nI b)) = qm at hH9 hS9 ⊢
    obtain ⟨Lv9, C9⟩ := qm
    dsimp only at hH9 hS9 ⊢
    have hI9 := hS9.1.1
    have hk9 : kMeet C9 (nI b) = 2 := by rw [hS9.k hb, if_neg (hS9.2.2.2.2.2.1 b (Nat.lt_succ_self b)).1]
    refine a_if_lt cx (tgt := 258) dL_law_243 (by decide) (fun c_243 => absurd c_243 (nI_pos (tn_lt _))) (fun c_243 => ?_)
    refine a_aload_n cx dL_law_246 rfl rfl ?_
    refine a_iload cx dL_law_247 rfl ?_
    refine a_callSH cx 2 (sp_L_meet (b := nI b) hH9 hI9) ml_L_136 st_L_meet ini_L cd_L_meet rfl rfl (by decide +kernel) rfl rfl ⟨(Nat.le_of_ble_eq_true rfl), (Nat.le_of_ble_eq_true rfl)⟩ (Nat.le_of_ble_eq_true rfl) dL_law_249 ⟨show _ ≤ 600258 by omega, show _ ≤ 7294186 by omega⟩ (fun _ _ _ h => h.elim) (fun v9 ad9 τ9 hP => ?_)
    obtain ⟨rfl, hP⟩ := hP
    obtain ⟨-, h2, h3⟩ : _ ∧ _ ∧ _ := hP.resolve_left (fun q => absurd (hk9.symm.trans q.1) (by decide))
    replace h2 := h2.symm
    subst h2
    replace h3 := h3.symm
    subst h3
    rw [rr_no (k := 2) (x := -1002) hk9 (by decide) (by decide)]
    refine a_sipush cx (v := -1002) dL_law_252 (by decide) ?_
    refine a_icmp_eq cx (tgt := 260) dL_law_255 (by decide) (fun c_255 => ?_) (fun c_255 => absurd rfl c_255)
    refine a_iinc10 cx (nI (b + 1)) dL_law_260 (nI_1 b) (by decide) (by intro w h; first | (cases h; rfl) | (cases h; assumption) | (cases h; done)) ?_
    refine a_goto cx (tgt := 231) dL_law_263 (by decide) ?_
    exact a_wide (by omega) (by omega) (ih f (b + 1, ad9, τ9, Lv9, C9, B9) (Nat.lt_succ_self f) ⟨by first | omega | (dsimp only; omega), hH9, hS9⟩)
theorem la_p85 (hH : HH g ad Lv C (laR g n W) τ) (i : Nat) (x : Int32) : HH g ad Lv C (laR g n (up2 W 85 i x)) (va_up τ 85 (some (arI g n (va_up (W 85) i x)))) := by
  have h := hH.rho (r := 85) (by decide) (some (arI g n (va_up (W 85) i x)))
  have e : va_up (laR g n W) 85 (some (arI g n (va_up (W 85) i x))) = laR g n (up2 W 85 i x) := by
    funext q
    by_cases hq : q = 85
    · subst hq
      rw [va_up_self]
      show _ = some (arI g n (up2 W 85 i x 85))
      unfold up2
      rw [va_up_self]
    · rw [va_up_ne _ _ hq]
      unfold laR
      rw [up2_row (r' := 84) (by decide), up2_row (r' := 86) (by decide), up2_row (r' := 87) (by decide), up2_row (r' := 88) (by decide), up2_row (r' := 89) (by decide), up2_row (r' := 90) (by decide)]
      simp only [if_neg hq]
  rw [e] at h
  exact h
theorem la_p86 (hH : HH g ad Lv C (laR g n W) τ) (i : Nat) (x : Int32) : HH g ad Lv C (laR g n (up2 W 86 i x)) (va_up τ 86 (some (arI g n (va_up (W 86) i x)))) := by
  have h := hH.rho (r := 86) (by decide) (some (arI g n (va_up (W 86) i x)))
  have e : va_up (laR g n W) 86 (some (arI g n (va_up (W 86) i x))) = laR g n (up2 W 86 i x) := by
    funext q
    by_cases hq : q = 86
    · subst hq
      rw [va_up_self]
      show _ = some (arI g n (up2 W 86 i x 86))
      unfold up2
      rw [va_up_self]
    · rw [va_up_ne _ _ hq]
      unfold laR
      rw [up2_row (r' := 84) (by decide), up2_row (r' := 85) (by decide), up2_row (r' := 87) (by decide), up2_row (r' := 88) (by decide), up2_row (r' := 89) (by decide), up2_row (r' := 90) (by decide)]
      simp only [if_neg hq]
  rw [e] at h
  exact h
theorem la_p87 (hH : HH g ad Lv C (laR g n W) τ) (i : Nat) (x : Int32) : HH g ad Lv C (laR g n (up2 W 87 i x)) (va_up τ 87 (some (arI g n (va_up (W 87) i x)))) := by
  have h := hH.rho (r := 87) (by decide) (some (arI g n (va_up (W 87) i x)))
  have e : va_up (laR g n W) 87 (some (arI g n (va_up (W 87) i x))) = laR g n (up2 W 87 i x) := by
    funext q
    by_cases hq : q = 87
    · subst hq
      rw [va_up_self]
      show _ = some (arI g n (up2 W 87 i x 87))
      unfold up2
      rw [va_up_self]
    · rw [va_up_ne _ _ hq]
      unfold laR
      rw [up2_row (r' := 84) (by decide), up2_row (r' := 85) (by decide), up2_row (r' := 86) (by decide), up2_row (r' := 88) (by decide), up2_row (r' := 89) (by decide), up2_row (r' := 90) (by decide)]
      simp only [if_neg hq]
  rw [e] at h
  exact h
set_option maxHeartbeats 4000000 in
set_option maxRecDepth 100000 in
/-- the proposals, and on -/
theorem lw_props (cx : Cx l g p s m args meth c A cL_law 18 RL) (hH : HH g ad Lv C (laR g n W) τ) (hS : sB 0 W Lv C B) (hn1 : 1 ≤ n) (hn8 : n ≤ 8) (hc : cells ≤ 100) (hs : slots ≤ 1500) (kend : ∀ ad' τ' cells' slots' lv', cells' ≤ 600258 → slots' ≤ 7294186 → AW l g p e room_1 s m args below meth c A 18 Q ad' τ' cells' slots' 792 (lv') []) : AW l g p e room_1 s m args below meth c A 18 Q ad τ cells slots 125 (lwV g ad n 0 none none none none none none none) [] := by
  refine a_loopG (σ := Nat × AD × RH × (Nat → Bool) × ME × ME × ME × Option Value) (fun f s => s.1 + f = n ∧ HH g s.2.1 s.2.2.2.1 s.2.2.2.2.1 (laR g n s.2.2.2.2.2.2.1) s.2.2.1 ∧ sB s.1 s.2.2.2.2.2.2.1 s.2.2.2.1 s.2.2.2.2.1 s.2.2.2.2.2.1) (fun s => s.2.1) (fun s => s.2.2.1) (fun s => lwV g s.2.1 n s.1 s.2.2.2.2.2.2.2 none none none none none none) (fun s => 100 + 10 * s.1) (fun s => 1500 + 100 * s.1) n (0, ad, τ, Lv, C, B, W, none) ⟨Nat.zero_add _, hH, hS⟩ rfl rfl rfl hc hs ?_
  clear hH hS hc hs
  rintro f ⟨j, ad, τ, Lv, C, B, W, y11⟩ ⟨hj0, hH, hS⟩ ih
  dsimp only at hj0 hH hS ⊢
  unfold lwV
  have hI := hS.1.1
  refine a_iload cx dL_law_125 rfl ?_
  refine a_iload_n cx dL_law_127 rfl rfl ?_
  refine a_icmp_ge cx (tgt := 228) dL_law_128 (by decide) (fun c_128 => ?_) (fun c_128 => ?_)
  · have hjn : n = j := by have := le_nI c_128 (by omega) (by omega); omega
    subst hjn
    refine a_iconst cx (v := 0) dL_law_228 (by decide) ?_
    refine a_istore10 cx dL_law_229 (by decide) (by intro w h; first | (cases h; rfl) | (cases h; assumption) | (cases h; done)) ?_
    exact a_wide (k := 300) (n := 3000) (by omega) (by omega) (lw_meets cx hH (sC.of hS hn1 hn8) (Nat.le_refl _) (Nat.le_refl _) kend)
  · have hj : j < n := int_lt (by omega) (by omega) c_128
    obtain ⟨f, rfl⟩ : ∃ f9, f = f9 + 1 := ⟨f - 1, by omega⟩
    refine a_aload_n cx dL_law_131 rfl rfl ?_
    refine a_bipush cx (v := 7) dL_law_132 (by decide) ?_
    refine a_iload cx dL_law_134 rfl ?_
    refine a_iadd cx dL_law_136 ?_
    refine a_int (y := nI (7 + j)) (nI_add 7 j) ?_
    refine a_callS cx 2 (sp_L_cell (k := 7 + j) (by omega)) ml_L_8 st_L_cell ini_L cd_L_cell rfl rfl (by decide +kernel) rfl rfl ⟨(Nat.le_of_ble_eq_true rfl), (Nat.le_of_ble_eq_true rfl)⟩ (Nat.le_of_ble_eq_true rfl) dL_law_137 ⟨show _ ≤ 600258 by omega, show _ ≤ 7294186 by omega⟩ (fun _ _ _ h => h.elim) (fun v9 ad9 τ9 hP => ?_)
    obtain ⟨⟨x9, rfl⟩, h2, h3⟩ := hP
    replace h2 := h2.symm
    subst h2
    replace h3 := h3.symm
    subst h3
    refine a_iconst cx (v := 1) dL_law_140 (by decide) ?_
    refine a_ushr1 cx rfl dL_law_141 (fun V hV => ?_)
    refine a_istore11 cx dL_law_142 (by decide) (by intro w h; first | (cases h; rfl) | (cases h; assumption) | (cases h; done)) ?_
    refine a_aload cx dL_law_144 rfl ?_
    refine a_iload cx dL_law_146 rfl ?_
    refine a_iload cx dL_law_148 rfl ?_
    refine a_iconst cx (v := 2) dL_law_150 (by decide) ?_
    refine a_irem cx (a := V) (b := 2) rfl rfl (by omega) (by omega) (by omega) dL_law_151 ?_
    refine a_ist cx (j) (la_85 hH) (rfl) (hj) (by omega) dL_law_152 ?_
    replace hH := la_p85 hH j (nI (V % 2))
    refine a_aload cx dL_law_153 rfl ?_
    refine a_iload cx dL_law_155 rfl ?_
    refine a_iload cx dL_law_157 rfl ?_
    refine a_iconst cx (v := 2) dL_law_159 (by decide) ?_
    refine a_idiv cx (a := V) (b := 2) rfl rfl (by omega) (by omega) (by omega) dL_law_160 ?_
    refine a_iconst cx (v := 4) dL_law_161 (by decide) ?_
    refine a_irem cx (a := V / 2) (b := 4) rfl rfl (by omega) (by omega) (by omega) dL_law_162 ?_
    refine a_ist cx (j) (la_87 hH) (rfl) (hj) (by omega) dL_law_163 ?_
    replace hH := la_p87 hH j (nI (V / 2 % 4))
    refine a_aload cx dL_law_164 rfl ?_
    refine a_iload cx dL_law_166 rfl ?_
    refine a_iconst cx (v := 1) dL_law_168 (by decide) ?_
    refine a_iload cx dL_law_169 rfl ?_
    refine a_bipush cx (v := 64) dL_law_171 (by decide) ?_
    refine a_idiv cx (a := V) (b := 64) rfl rfl (by omega) (by omega) (by omega) dL_law_173 ?_
    refine a_bipush cx (v := 9) dL_law_174 (by decide) ?_
    refine a_irem cx (a := V / 64) (b := 9) rfl rfl (by omega) (by omega) (by omega) dL_law_176 ?_
    refine a_iadd cx dL_law_177 ?_
    refine a_int (y := nI (1 + (V / 64 % 9))) (nI_add 1 (V / 64 % 9)) ?_
    refine a_ist cx (j) (la_86 hH) (rfl) (hj) (by omega) dL_law_178 ?_
    replace hH := la_p86 hH j (nI (1 + V / 64 % 9))
    have hk : kPrp C (nI (V % 2)) (nI (V / 2 % 4)) (nI (V / 1024 % 5)) (nI (1 + V / 64 % 9)) (nI (V / 8192 % 25)) = 0 := hS.k (by omega) (by omega) (by omega) (by omega) (by omega) (by omega) (by omega)
    obtain ⟨B9, hS9⟩ := hS.prp (by omega) (by omega) (by omega) hk
    refine a_aload_n cx dL_law_179 rfl rfl ?_
    refine a_aload cx dL_law_180 rfl ?_
    refine a_iload cx dL_law_182 rfl ?_
    refine a_ild cx (j) (la_85 hH) (rfl) (hj) (by omega) dL_law_184 ?_
    rw [up2_ne (by omega), up2_ne (by omega), up2_eq]
    refine a_aload cx dL_law_185 rfl ?_
    refine a_iload cx dL_law_187 rfl ?_
    refine a_ild cx (j) (la_87 hH) (rfl) (hj) (by omega) dL_law_189 ?_
    rw [up2_ne (by omega), up2_eq]
    refine a_iload cx dL_law_190 rfl ?_
    refine a_sipush cx (v := 1024) dL_law_192 (by decide) ?_
    refine a_idiv cx (a := V) (b := 1024) rfl rfl (by omega) (by omega) (by omega) dL_law_195 ?_
    refine a_iconst cx (v := 5) dL_law_196 (by decide) ?_
    refine a_irem cx (a := V / 1024) (b := 5) rfl rfl (by omega) (by omega) (by omega) dL_law_197 ?_
    refine a_aload cx dL_law_198 rfl ?_
    refine a_iload cx dL_law_200 rfl ?_
    refine a_ild cx (j) (la_86 hH) (rfl) (hj) (by omega) dL_law_202 ?_
    rw [up2_eq]
    refine a_iload cx dL_law_203 rfl ?_
    refine a_sipush cx (v := 8192) dL_law_205 (by decide) ?_
    refine a_idiv cx (a := V) (b := 8192) rfl rfl (by omega) (by omega) (by omega) dL_law_208 ?_
    refine a_bipush cx (v := 25) dL_law_209 (by decide) ?_
    refine a_irem cx (a := V / 8192) (b := 25) rfl rfl (by omega) (by omega) (by omega) dL_law_211 ?_
    refine a_callSH cx 6 (sp_L_propose (b := nI (V % 2)) (us := nI (V / 2 % 4)) (sc := nI (V / 1024 % 5)) (w := nI (1 + V / 64 % 9)) (d9 := nI (V / 8192 % 25)) hH hI hS.1.2.1) ml_L_133 st_L_propose ini_L cd_L_propose rfl rfl (by decide +kernel) rfl rfl ⟨(Nat.le_of_ble_eq_true rfl), (Nat.le_of_ble_eq_true rfl)⟩ (Nat.le_of_ble_eq_true rfl) dL_law_212 ⟨show _ ≤ 600258 by omega, show _ ≤ 7294186 by omega⟩ (fun _ _ _ h => h.elim) (fun v9 ad9 τ9 hP => ?_)
    obtain ⟨rfl, hP⟩ := hP
    obtain ⟨-, had, hH9⟩ : _ ∧ _ ∧ _ := hP.resolve_right (fun q => q.1 hk)
    rw [rr_of hk (congrArg nI hS.2.2.1)]
    have hnp := hS.2.2.1
    rw [← had 0 (by omega) (by omega), ← had 84 (by omega) (by omega), ← had 85 (by omega) (by omega), ← had 86 (by omega) (by omega), ← had 87 (by omega) (by omega), ← had 88 (by omega) (by omega), ← had 89 (by omega) (by omega), ← had 90 (by omega) (by omega)]
    refine a_iload cx dL_law_215 rfl ?_
    refine a_icmp_eq cx (tgt := 222) dL_law_217 (by decide) (fun c_217 => ?_) (fun c_217 => absurd rfl c_217)
    refine a_iinc10 cx (nI (j + 1)) dL_law_222 (nI_1 j) (by decide) (by intro w h; first | (cases h; rfl) | (cases h; assumption) | (cases h; done)) ?_
    refine a_goto cx (tgt := 125) dL_law_225 (by decide) ?_
    exact a_wide (by omega) (by omega) (ih f (j + 1, _, _, _, _, _, _, _) (Nat.lt_succ_self f) ⟨by first | omega | (dsimp only; omega), hH9, hS9⟩)
set_option maxHeartbeats 4000000 in
set_option maxRecDepth 100000 in
/-- the law's rows, and on -/
theorem lw_rows (cx : Cx l g p s m args meth c A cL_law 18 RL) (hH : HH g ad Lv C (rn g W) τ) (hS : sA 2 W Lv C B) (hn1 : 1 ≤ n) (hn8 : n ≤ 8) (hc : cells ≤ 90) (hs : slots ≤ 1400) (kend : ∀ ad' τ' cells' slots' lv', cells' ≤ 600258 → slots' ≤ 7294186 → AW l g p e room_1 s m args below meth c A 18 Q ad' τ' cells' slots' 792 (lv') []) : AW l g p e room_1 s m args below meth c A 18 Q ad τ cells slots 90 ([some (.ref g.2.2.2.1), some (.ref (ad 0)), some (.ref (ad 84)), some (.int (nI n)), none, none, none, none, none, none, none, none, none, none, none, none, none, none]) [] := by
  have hI := hS.1.1
  have hJ := hS.1.2.1
  refine a_iload_n cx dL_law_90 rfl rfl ?_
  refine a_newaG cx (atype := .int) (t0 := 1) (N := n) (85) (hH.2 85 (by decide)) (.inl (fun _ => 0)) ac_int rfl rfl rfl (fun _ => rfl) (nI_pos (by omega)) (nI_clamp (by omega)) (by show n * 4 ≤ 536870912; omega) (by show _ ≤ 600258; omega) (by show _ ≤ 7294186; omega) dL_law_91 (fun a85 h91 => ?_)
  rw [← h91 0 (by decide), ← h91 84 (by decide)]
  replace hH := hH.fresh hI hJ (r := 85) (by decide) h91 (some (arI g n (fun _ => 0)))
  clear h91
  refine a_astore4 cx dL_law_93 (by decide) (by intro w h; first | (cases h; rfl) | (cases h; assumption) | (cases h; done)) ?_
  refine a_iload_n cx dL_law_95 rfl rfl ?_
  refine a_newaG cx (atype := .int) (t0 := 1) (N := n) (86) (hH.2 86 (by decide)) (.inl (fun _ => 0)) ac_int rfl rfl rfl (fun _ => rfl) (nI_pos (by omega)) (nI_clamp (by omega)) (by show n * 4 ≤ 536870912; omega) (by show _ ≤ 600258; omega) (by show _ ≤ 7294186; omega) dL_law_96 (fun a86 h96 => ?_)
  rw [← h96 0 (by decide), ← h96 84 (by decide), ← h96 85 (by decide)]
  replace hH := hH.fresh hI hJ (r := 86) (by decide) h96 (some (arI g n (fun _ => 0)))
  clear h96
  refine a_astore5 cx dL_law_98 (by decide) (by intro w h; first | (cases h; rfl) | (cases h; assumption) | (cases h; done)) ?_
  refine a_iload_n cx dL_law_100 rfl rfl ?_
  refine a_newaG cx (atype := .int) (t0 := 1) (N := n) (87) (hH.2 87 (by decide)) (.inl (fun _ => 0)) ac_int rfl rfl rfl (fun _ => rfl) (nI_pos (by omega)) (nI_clamp (by omega)) (by show n * 4 ≤ 536870912; omega) (by show _ ≤ 600258; omega) (by show _ ≤ 7294186; omega) dL_law_101 (fun a87 h101 => ?_)
  rw [← h101 0 (by decide), ← h101 84 (by decide), ← h101 85 (by decide), ← h101 86 (by decide)]
  replace hH := hH.fresh hI hJ (r := 87) (by decide) h101 (some (arI g n (fun _ => 0)))
  clear h101
  refine a_astore6 cx dL_law_103 (by decide) (by intro w h; first | (cases h; rfl) | (cases h; assumption) | (cases h; done)) ?_
  refine a_bipush cx (v := 10) dL_law_105 (by decide) ?_
  refine a_newaG cx (atype := .boolean) (t0 := 2) (N := 10) (88) (hH.2 88 (by decide)) (.inl (fun _ => 0)) ac_boolean rfl rfl rfl (fun _ => rfl) (by decide) (by decide) (by show 10 * 1 ≤ 536870912; omega) (by show _ ≤ 600258; omega) (by show _ ≤ 7294186; omega) dL_law_107 (fun a88 h107 => ?_)
  rw [← h107 0 (by decide), ← h107 84 (by decide), ← h107 85 (by decide), ← h107 86 (by decide), ← h107 87 (by decide)]
  replace hH := hH.fresh hI hJ (r := 88) (by decide) h107 (some (arZ g 10 (fun _ => 0)))
  clear h107
  refine a_astore7 cx dL_law_109 (by decide) (by intro w h; first | (cases h; rfl) | (cases h; assumption) | (cases h; done)) ?_
  refine a_bipush cx (v := 10) dL_law_111 (by decide) ?_
  refine a_newaG cx (atype := .boolean) (t0 := 2) (N := 10) (89) (hH.2 89 (by decide)) (.inl (fun _ => 0)) ac_boolean rfl rfl rfl (fun _ => rfl) (by decide) (by decide) (by show 10 * 1 ≤ 536870912; omega) (by show _ ≤ 600258; omega) (by show _ ≤ 7294186; omega) dL_law_113 (fun a89 h113 => ?_)
  rw [← h113 0 (by decide), ← h113 84 (by decide), ← h113 85 (by decide), ← h113 86 (by decide), ← h113 87 (by decide), ← h113 88 (by decide)]
  replace hH := hH.fresh hI hJ (r := 89) (by decide) h113 (some (arZ g 10 (fun _ => 0)))
  clear h113
  refine a_astore8 cx dL_law_115 (by decide) (by intro w h; first | (cases h; rfl) | (cases h; assumption) | (cases h; done)) ?_
  refine a_iload_n cx dL_law_117 rfl rfl ?_
  refine a_newaG cx (atype := .char) (t0 := 0) (N := n) (90) (hH.2 90 (by decide)) (.inl (fun _ => 0)) ac_char rfl rfl rfl (fun _ => rfl) (nI_pos (by omega)) (nI_clamp (by omega)) (by show n * 2 ≤ 536870912; omega) (by show _ ≤ 600258; omega) (by show _ ≤ 7294186; omega) dL_law_118 (fun a90 h118 => ?_)
  rw [← h118 0 (by decide), ← h118 84 (by decide), ← h118 85 (by decide), ← h118 86 (by decide), ← h118 87 (by decide), ← h118 88 (by decide), ← h118 89 (by decide)]
  replace hH := hH.fresh hI hJ (r := 90) (by decide) h118 (some (arC g n (fun _ => 0)))
  clear h118
  refine a_astore9 cx dL_law_120 (by decide) (by intro w h; first | (cases h; rfl) | (cases h; assumption) | (cases h; done)) ?_
  rw [la_new] at hH
  refine a_iconst cx (v := 0) dL_law_122 (by decide) ?_
  refine a_istore10 cx dL_law_123 (by decide) (by intro w h; first | (cases h; rfl) | (cases h; assumption) | (cases h; done)) ?_
  exact lw_props cx hH (sB.of hS (by unfold w0; rw [if_pos rfl]) (fun r k hr => by unfold w0; rw [if_neg hr])) hn1 hn8 (by omega) (by omega) kend
set_option maxHeartbeats 4000000 in
set_option maxRecDepth 100000 in
/-- the beamlines, and on -/
theorem lw_beams (cx : Cx l g p s m args meth c A cL_law 18 RL) (hH : HH g ad Lv C (rn g W) τ) (hS : sA 0 W Lv C B) (hc : cells ≤ 10) (hs : slots ≤ 100) (kend : ∀ ad' τ' cells' slots' lv', cells' ≤ 600258 → slots' ≤ 7294186 → AW l g p e room_1 s m args below meth c A 18 Q ad' τ' cells' slots' 792 (lv') []) : AW l g p e room_1 s m args below meth c A 18 Q ad τ cells slots 14 ([some (.ref g.2.2.2.1), some (.ref (ad 0)), some (.ref (ad 84)), some (.int (nI 0)), none, none, none, none, none, none, none, none, none, none, none, none, none, none]) [] := by
  refine a_loopG (σ := Nat × AD × RH × (Nat → Bool) × ME × ME × ME) (fun f s => s.1 + f = 2 ∧ HH g s.2.1 s.2.2.2.1 s.2.2.2.2.1 (rn g s.2.2.2.2.2.2) s.2.2.1 ∧ sA s.1 s.2.2.2.2.2.2 s.2.2.2.1 s.2.2.2.2.1 s.2.2.2.2.2.1) (fun s => s.2.1) (fun s => s.2.2.1) (fun s => [some (.ref g.2.2.2.1), some (.ref (s.2.1 0)), some (.ref (s.2.1 84)), some (.int (nI s.1)), none, none, none, none, none, none, none, none, none, none, none, none, none, none]) (fun s => 10 + 20 * s.1) (fun s => 100 + 400 * s.1) 2 (0, ad, τ, Lv, C, B, W) ⟨rfl, hH, hS⟩ rfl rfl rfl hc hs ?_
  clear hH hS hc hs
  rintro f ⟨b, ad, τ, Lv, C, B, W⟩ ⟨hb0, hH, hS⟩ ih
  dsimp only at hb0 hH hS ⊢
  have hI := hS.1.1
  refine a_iload_n cx dL_law_14 rfl rfl ?_
  refine a_iconst cx (v := 2) dL_law_15 (by decide) ?_
  refine a_icmp_ge cx (tgt := 79) dL_law_16 (by decide) (fun c_16 => ?_) (fun c_16 => ?_)
  · refine a_iconst cx (v := 1) dL_law_79 (by decide) ?_
    refine a_aload_n cx dL_law_80 rfl rfl ?_
    refine a_bipush cx (v := 6) dL_law_81 (by decide) ?_
    refine a_bipush cx (v := 8) dL_law_83 (by decide) ?_
    refine a_callS cx 3 (sp_L_pick (k := 6) (n := 8) (by omega) (by decide) (by decide)) ml_L_124 st_L_pick ini_L cd_L_pick rfl rfl (by decide +kernel) rfl rfl ⟨(Nat.le_of_ble_eq_true rfl), (Nat.le_of_ble_eq_true rfl)⟩ (Nat.le_of_ble_eq_true rfl) dL_law_85 ⟨show _ ≤ 600258 by omega, show _ ≤ 7294186 by omega⟩ (fun _ _ _ h => h.elim) (fun v9 ad9 τ9 hP => ?_)
    obtain ⟨⟨r, hr, rfl⟩, h2, h3⟩ := hP
    replace h2 := h2.symm
    subst h2
    replace h3 := h3.symm
    subst h3
    refine a_iadd cx dL_law_88 ?_
    refine a_int (y := nI (1 + r)) (nI_add 1 r) ?_
    have hb2 : b = 2 := by have := le_nI (a := 2) c_16 (by omega) (by omega); omega
    subst hb2
    refine a_istore_n3 cx dL_law_89 rfl (by decide) (by intro w h; first | (cases h; rfl) | (cases h; assumption) | (cases h; done)) ?_
    exact lw_rows (n := 1 + r) cx hH hS (by omega) (by omega) (by omega) (by omega) kend
  · have hb : b < 2 := int_lt (b := b) (a := 2) (by omega) (by omega) c_16
    obtain ⟨f, rfl⟩ : ∃ f9, f = f9 + 1 := ⟨f - 1, by omega⟩
    refine a_aload_n cx dL_law_19 rfl rfl ?_
    refine a_iload_n cx dL_law_20 rfl rfl ?_
    refine a_iconst cx (v := 5) dL_law_21 (by decide) ?_
    refine a_aload_n cx dL_law_22 rfl rfl ?_
    refine a_iload_n cx dL_law_23 rfl rfl ?_
    refine a_bipush cx (v := 30) dL_law_24 (by decide) ?_
    refine a_callS cx 3 (sp_L_pick (k := b) (n := 30) (by omega) (by decide) (by decide)) ml_L_124 st_L_pick ini_L cd_L_pick rfl rfl (by decide +kernel) rfl rfl ⟨(Nat.le_of_ble_eq_true rfl), (Nat.le_of_ble_eq_true rfl)⟩ (Nat.le_of_ble_eq_true rfl) dL_law_26 ⟨show _ ≤ 600258 by omega, show _ ≤ 7294186 by omega⟩ (fun _ _ _ h => h.elim) (fun v9 ad9 τ9 hP => ?_)
    obtain ⟨⟨r1, hr1, rfl⟩, h2, h3⟩ := hP
    replace h2 := h2.symm
    subst h2
    replace h3 := h3.symm
    subst h3
    refine a_iadd cx dL_law_29 ?_
    refine a_int (y := nI (5 + r1)) (nI_add 5 r1) ?_
    refine a_ist cx (b) ((hH.2 84 (by decide)).trans (va_up_self _ _ _)) (rfl) (hb) (by decide) dL_law_30 ?_
    replace hH := rn_p hH b (nI (5 + r1))
    obtain ⟨W9, hW9⟩ : ∃ W9, W9 = up2 W 84 b (nI (5 + r1)) := ⟨_, rfl⟩
    have hW8 : W9 84 b = nI (5 + r1) := by rw [hW9, up2_eq]
    refine a_aload_n cx dL_law_31 rfl rfl ?_
    refine a_aload_n cx dL_law_32 rfl rfl ?_
    refine a_iload_n cx dL_law_33 rfl rfl ?_
    refine a_ild cx (b) ((hH.2 84 (by decide)).trans (va_up_self _ _ _)) (rfl) (hb) (by decide) dL_law_34 ?_
    rw [← hW9, hW8]
    refine a_bipush cx (v := 10) dL_law_35 (by decide) ?_
    refine a_aload_n cx dL_law_37 rfl rfl ?_
    refine a_iconst cx (v := 2) dL_law_38 (by decide) ?_
    refine a_iload_n cx dL_law_39 rfl rfl ?_
    refine a_iadd cx dL_law_40 ?_
    refine a_int (y := nI (2 + b)) (nI_add 2 b) ?_
    refine a_bipush cx (v := 60) dL_law_41 (by decide) ?_
    refine a_callS cx 3 (sp_L_pick (k := 2 + b) (n := 60) (by omega) (by decide) (by decide)) ml_L_124 st_L_pick ini_L cd_L_pick rfl rfl (by decide +kernel) rfl rfl ⟨(Nat.le_of_ble_eq_true rfl), (Nat.le_of_ble_eq_true rfl)⟩ (Nat.le_of_ble_eq_true rfl) dL_law_43 ⟨show _ ≤ 600258 by omega, show _ ≤ 7294186 by omega⟩ (fun _ _ _ h => h.elim) (fun v9 ad9 τ9 hP => ?_)
    obtain ⟨⟨r2, hr2, rfl⟩, h2, h3⟩ := hP
    replace h2 := h2.symm
    subst h2
    replace h3 := h3.symm
    subst h3
    refine a_iadd cx dL_law_46 ?_
    refine a_int (y := nI (10 + r2)) (nI_add 10 r2) ?_
    refine a_callSH cx 3 (sp_L_addBeamline (s9 := nI (5 + r1)) (m9 := nI (10 + r2)) hH hI hS.1.2.1) ml_L_128 st_L_addBeamline ini_L cd_L_addBeamline rfl rfl (by decide +kernel) rfl rfl ⟨(Nat.le_of_ble_eq_true rfl), (Nat.le_of_ble_eq_true rfl)⟩ (Nat.le_of_ble_eq_true rfl) dL_law_47 ⟨show _ ≤ 600258 by omega, show _ ≤ 7294186 by omega⟩ (fun _ _ _ h => h.elim) (fun v9 ad9 τ9 hP => ?_)
    have hk : kBeam C (nI (5 + r1)) (nI (10 + r2)) = 0 := hS.k hb (by omega) (by omega) (by omega) (by omega)
    obtain ⟨rfl, hP⟩ := hP
    obtain ⟨-, had, hH9⟩ : _ ∧ _ ∧ _ := hP.resolve_right (fun q => q.1 hk)
    rw [rr_of hk (congrArg nI hS.2.1)]
    have hnb := hS.2.1
    rw [← had 0 (by omega) (by omega), ← had 84 (by omega) (by omega)]
    obtain ⟨B9, hS9, h63⟩ := hS.add hb hk
    have hI9 := hS9.1.1
    refine a_iload_n cx dL_law_50 rfl rfl ?_
    refine a_icmp_ne cx (tgt := 71) dL_law_51 (by decide) (fun c_51 => absurd rfl c_51) (fun c_51 => ?_)
    refine a_aload_n cx dL_law_54 rfl rfl ?_
    refine a_iload_n cx dL_law_55 rfl rfl ?_
    refine a_aload_n cx dL_law_56 rfl rfl ?_
    refine a_iconst cx (v := 4) dL_law_57 (by decide) ?_
    refine a_iload_n cx dL_law_58 rfl rfl ?_
    refine a_iadd cx dL_law_59 ?_
    refine a_int (y := nI (4 + b)) (nI_add 4 b) ?_
    refine a_bipush cx (v := 20) dL_law_60 (by decide) ?_
    refine a_callS cx 3 (sp_L_pick (k := 4 + b) (n := 20) (by omega) (by decide) (by decide)) ml_L_124 st_L_pick ini_L cd_L_pick rfl rfl (by decide +kernel) rfl rfl ⟨(Nat.le_of_ble_eq_true rfl), (Nat.le_of_ble_eq_true rfl)⟩ (Nat.le_of_ble_eq_true rfl) dL_law_62 ⟨show _ ≤ 600258 by omega, show _ ≤ 7294186 by omega⟩ (fun _ _ _ h => h.elim) (fun v9 ad9 τ9 hP => ?_)
    obtain ⟨⟨r3, hr3, rfl⟩, h2, h3⟩ := hP
    replace h2 := h2.symm
    subst h2
    replace h3 := h3.symm
    subst h3
    refine a_callSH cx 3 (sp_L_setRate (b := nI b) (u := nI r3) hH9 hI9) ml_L_131 st_L_setRate ini_L cd_L_setRate rfl rfl (by decide +kernel) rfl rfl ⟨(Nat.le_of_ble_eq_true rfl), (Nat.le_of_ble_eq_true rfl)⟩ (Nat.le_of_ble_eq_true rfl) dL_law_65 ⟨show _ ≤ 600258 by omega, show _ ≤ 7294186 by omega⟩ (fun _ _ _ h => h.elim) (fun v9 ad9 τ9 hP => ?_)
    obtain ⟨hk3, hv3, B8, hS8⟩ := hS9.rate (Nat.lt_succ_self b) hb h63 (u := r3) (by omega)
    obtain ⟨rfl, hP⟩ := hP
    obtain ⟨-, h2, hH8⟩ : _ ∧ _ ∧ _ := hP.resolve_right (fun q => q.1 hk3)
    replace h2 := h2.symm
    subst h2
    rw [rr_of hk3 hv3]
    refine a_if_eq cx (tgt := 73) dL_law_68 (by decide) (fun c_68 => ?_) (fun c_68 => absurd rfl c_68)
    refine a_iinc3 cx (nI (b + 1)) dL_law_73 (nI_1 b) (by decide) (by intro w h; first | (cases h; rfl) | (cases h; assumption) | (cases h; done)) ?_
    refine a_goto cx (tgt := 14) dL_law_76 (by decide) ?_
    exact a_wide (by omega) (by omega) (ih f (b + 1, _, _, _, _, _, _) (Nat.lt_succ_self f) ⟨by first | omega | (dsimp only; omega), hH8, hS8⟩)
set_option maxHeartbeats 4000000 in
set_option maxRecDepth 100000 in
/-- the law from its entry -/
theorem lw_entry (cx : Cx l g p s m args meth c A cL_law 18 RL) (kend : ∀ ad' τ' cells' slots' lv', cells' ≤ 600258 → slots' ≤ 7294186 → AW l g p e room_1 s m args below meth c A 18 Q ad' τ' cells' slots' 792 (lv') []) : AW l g p e room_1 s m args below meth c A 18 Q ad (fun _ => none) 0 0 0 ([some (.ref g.2.2.2.1), none, none, none, none, none, none, none, none, none, none, none, none, none, none, none, none, none]) [] := by
  refine a_newG cx (fs := dvX3) (ci := 6) (0) (rfl) uw_X3 tyX3 tyX3_ok cl_L_15 ins_X3 ini_X3 rfl dvX3_ok (Nat.le_of_ble_eq_true rfl) (Nat.le_of_ble_eq_true rfl) dL_law_0 (fun a1 h1 => ?_)
  refine a_dup cx dL_law_3 rfl ?_
  refine a_callI cx 0 (sp_X3_init (va_up_self _ _ _) (va_up_ne _ _ (by decide)) (va_up_ne _ _ (by decide)) (va_up_ne _ _ (by decide)) (va_up_ne _ _ (by decide))) ml_L_123 im_X3_init ini_X3 cd_X3_init rfl rfl rfl (by decide +kernel) rfl rfl ⟨(Nat.le_of_ble_eq_true rfl), (Nat.le_of_ble_eq_true rfl)⟩ (Nat.le_of_ble_eq_true rfl) dL_law_4 ⟨(Nat.le_of_ble_eq_true rfl), (Nat.le_of_ble_eq_true rfl)⟩ (fun v9 a2 τ9 hQ => ?_)
  obtain ⟨h4, rfl, rfl⟩ := hQ
  rw [← h4 0 (by decide) (by decide) (by decide) (by decide)]
  refine a_astore_n1 cx dL_law_7 rfl (by decide) (by intro w h; first | (cases h; rfl) | (cases h; assumption) | (cases h; done)) ?_
  refine a_iconst cx (v := 2) dL_law_8 (by decide) ?_
  refine a_newaG cx (atype := .int) (t0 := 1) (N := 2) (84) ((HH_00 (g := g) (ad := a2) rfl rfl rfl rfl).2 84 (by decide)) (.inl (fun _ => 0)) ac_int rfl rfl rfl (fun _ => rfl) (by decide) (by decide) (Nat.le_of_ble_eq_true rfl) (Nat.le_of_ble_eq_true rfl) (Nat.le_of_ble_eq_true rfl) dL_law_9 (fun a3 h9 => ?_)
  rw [← h9 0 (by decide)]
  refine a_astore_n2 cx dL_law_11 rfl (by decide) (by intro w h; first | (cases h; rfl) | (cases h; assumption) | (cases h; done)) ?_
  refine a_iconst cx (v := 0) dL_law_12 (by decide) ?_
  refine a_istore_n3 cx dL_law_13 rfl (by decide) (by intro w h; first | (cases h; rfl) | (cases h; assumption) | (cases h; done)) ?_
  exact lw_beams (W := fun _ _ => 0) cx ((HH_00 (g := g) (ad := a2) rfl rfl rfl rfl).fresh cI_00 (sA_00 (W := fun _ _ => 0)).1.2.1 (r := 84) (by decide) h9 (some (arI g 2 (fun _ => 0)))) sA_00 (Nat.le_of_ble_eq_true rfl) (Nat.le_of_ble_eq_true rfl) kend
end LENTRY
