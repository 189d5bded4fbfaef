theorem ob_84 {g : GW} {ad ad' : AD} {Lv : Nat → Bool} {C : ME} {x : Nat} (hI : cI Lv C) (hJ : lJ Lv) (h : ∀ y, y < 84 → ad' y = ad y) (hx : x < 84) (hl : Lv x = true) : ob g ad' x (C x) = ob g ad x (C x) := by
  obtain ⟨i1, i2, -, -, -, i6, i7, i8, i9, i10, i11, i12, i13⟩ := hI
  have hjk : ¬ ((7 ≤ x ∧ x < 10) ∨ (18 ≤ x ∧ x < 20) ∨ (28 ≤ x ∧ x < 40) ∨ (48 ≤ x ∧ x < 60)) := fun q => by rw [hJ x q] at hl; cases hl
  have hbl : ∀ b, b < 2 → 10 + 10 * b ≤ x → x < 18 + 10 * b → b < cNb C := fun b hb h1 h2 => by
    rcases Nat.lt_or_ge b (cNb C) with q | q
    · exact q
    · have := i11 b (x - (10 + 10 * b)) q hb (by omega)
      rw [show 10 + 10 * b + (x - (10 + 10 * b)) = x by omega, hl] at this
      cases this
  unfold ob
  by_cases h0 : x = 0
  · rw [if_pos h0, if_pos h0]; unfold offO; rw [h 1 (by omega), h 3 (by omega), h 5 (by omega), h 6 (by omega)]
  rw [if_neg h0, if_neg h0]
  by_cases h1 : x = 1 ∨ x = 3 ∨ x = 11 ∨ x = 21
  · rw [if_pos h1, if_pos h1]; unfold lisO
    have e : ad' (x + 1) = ad (x + 1) := by
      rcases h1 with rfl | rfl | rfl | rfl
      · exact h _ (by omega)
      · exact h _ (by omega)
      · have := hbl 0 (by decide) (by decide) (by decide); exact h _ (by omega)
      · have := hbl 1 (by decide) (by decide) (by decide); exact h _ (by omega)
    rw [e]
  rw [if_neg h1, if_neg h1]
  by_cases h2 : x = 2
  · subst h2
    rw [if_pos rfl, if_pos rfl]; unfold rowO
    have hn : 0 < cNb C := by
      have := i6.2.2.2.1
      rw [hl] at this
      exact of_decide_eq_true this.symm
    congr 6
    funext k
    by_cases hk : k < cNb C
    · have e := h (10 + 10 * k) (by omega); rw [i8 k hk, tn_nI (by omega)]; simp only [e]
    · rw [show C 2 k = -1 from i6.2.2.2.2 k (by omega) hn]; rfl
  rw [if_neg h2, if_neg h2]
  by_cases h3 : x = 4 ∨ x = 12 ∨ x = 22
  · rw [if_pos h3, if_pos h3]; unfold rowO
    congr 6
    funext k
    rcases h3 with rfl | rfl | rfl
    · have hn : 0 < cNp C := by
        have := i7.2.2.2.1
        rw [hl] at this
        exact of_decide_eq_true this.symm
      by_cases hk : k < cNp C
      · have e := h (40 + k) (by omega); rw [i9 k hk, tn_nI (by omega)]; simp only [e]
      · rw [show C 4 k = -1 from i7.2.2.2.2 k (by omega) hn]; rfl
    · have hb := hbl 0 (by decide) (by decide) (by decide)
      obtain ⟨-, -, -, -, -, -, a7, a8, -, -, -, a12⟩ := i10 0 hb
      have hn : 0 < cNq C 0 := by
        have := a8.2.2.2.1
        rw [show 11 + 10 * 0 + 1 = 12 by rfl, hl] at this
        exact of_decide_eq_true this.symm
      by_cases hk : k < cNq C 0
      · obtain ⟨q, h9, h8⟩ := a12 k hk
        have e := h (40 + q) (by omega); rw [show C 12 k = nI q from h8, tn_nI (by omega)]; simp only [e]
      · rw [show C 12 k = -1 from a8.2.2.2.2 k (by omega) hn]; rfl
    · have hb := hbl 1 (by decide) (by decide) (by decide)
      obtain ⟨-, -, -, -, -, -, a7, a8, -, -, -, a12⟩ := i10 1 hb
      have hn : 0 < cNq C 1 := by
        have := a8.2.2.2.1
        rw [show 11 + 10 * 1 + 1 = 22 by rfl, hl] at this
        exact of_decide_eq_true this.symm
      by_cases hk : k < cNq C 1
      · obtain ⟨q, h9, h8⟩ := a12 k hk
        have e := h (40 + q) (by omega); rw [show C 22 k = nI q from h8, tn_nI (by omega)]; simp only [e]
      · rw [show C 22 k = -1 from a8.2.2.2.2 k (by omega) hn]; rfl
  rw [if_neg h3, if_neg h3]
  by_cases h4 : x = 5 ∨ x = 6
  · rw [if_pos h4, if_pos h4]
  rw [if_neg h4, if_neg h4]
  by_cases h5 : x = 10 ∨ x = 20
  · rw [if_pos h5, if_pos h5]; unfold beO
    have hn : x < 10 + 10 * cNb C := by
      rcases h5 with rfl | rfl
      · have := hbl 0 (by decide) (by decide) (by decide); omega
      · have := hbl 1 (by decide) (by decide) (by decide); omega
    rw [h (x + 1) (by omega), h (x + 3) (by omega), h (x + 5) (by omega), h (x + 7) (by omega)]
  rw [if_neg h5, if_neg h5]
  by_cases h6 : x = 13 ∨ x = 15 ∨ x = 23 ∨ x = 25
  · rw [if_pos h6, if_pos h6]; unfold caO
    have hn : x < 10 + 10 * cNb C := by
      rcases h6 with rfl | rfl | rfl | rfl
      · have := hbl 0 (by decide) (by decide) (by decide); omega
      · have := hbl 0 (by decide) (by decide) (by decide); omega
      · have := hbl 1 (by decide) (by decide) (by decide); omega
      · have := hbl 1 (by decide) (by decide) (by decide); omega
    rw [h (x + 1) (by omega)]
  rw [if_neg h6, if_neg h6]
  by_cases h7 : x = 14 ∨ x = 16 ∨ x = 24 ∨ x = 26
  · rw [if_pos h7, if_pos h7]
  rw [if_neg h7, if_neg h7]
  by_cases h8 : x = 17 ∨ x = 27
  · rw [if_pos h8, if_pos h8]
  rw [if_neg h8, if_neg h8]
  by_cases h9 : x < 60
  · rw [if_pos h9, if_pos h9]; unfold ppO
    have hj : 40 ≤ x ∧ x < 48 := by omega
    have hjn : x - 40 < cNp C := by
      rcases Nat.lt_or_ge (x - 40) (cNp C) with q | q
      · exact q
      · have := i13 (x - 40) q (by omega)
        rw [show 40 + (x - 40) = x by omega, hl] at this
        cases this
    obtain ⟨-, -, ln, h1, h2⟩ := i12 (x - 40) hjn
    rw [show 40 + (x - 40) = x by omega] at h2
    rw [h2, tn_nI (by omega), h _ (by omega)]
  rw [if_neg h9, if_neg h9]
  by_cases h10 : x = 60
  · rw [if_pos h10, if_pos h10]; unfold moO; simp (disch := omega) only [h]
  rw [if_neg h10, if_neg h10]
section SHR
variable {g : GW} {ad ad' : AD} {τ ρ : RH} {Lv : Nat → Bool} {C B W : ME} {n T i b j : Nat} {f1 f2 : Nat → Int32}
theorem HH.fresh (hH : HH g ad Lv C ρ τ) (hI : cI Lv C) (hJ : lJ Lv) {r : Nat} (hr : 84 ≤ r) (had : ∀ y, y ≠ r → ad' y = ad y) (e : Option va_E) : HH g ad' Lv C (va_up ρ r e) (va_up τ r e) := by
  refine HH.rho ⟨fun r' h' => ?_, hH.2⟩ hr e
  rw [hH.1 r' h']
  by_cases hl : Lv r' = true
  · rw [if_pos hl, if_pos hl, ob_84 hI hJ (ad := ad) (ad' := ad') (fun y hy => had y (by omega)) h' hl]
  · rw [if_neg hl, if_neg hl]
def shR (g : GW) (n : Nat) (W : ME) (f1 f2 : Nat → Int32) : RH := va_up (va_up (laR g n W) 91 (some (arI g n f1))) 92 (some (arI g 2 f2))
theorem sh_90 (hH : HH g ad Lv C (shR g n W f1 f2) τ) : τ 90 = some (arC g n (W 90)) := hH.2 90 (by decide)
theorem sh_91 (hH : HH g ad Lv C (shR g n W f1 f2) τ) : τ 91 = some (arI g n f1) := hH.2 91 (by decide)
theorem sh_92 (hH : HH g ad Lv C (shR g n W f1 f2) τ) : τ 92 = some (arI g 2 f2) := hH.2 92 (by decide)
theorem sh_p91 (hH : HH g ad Lv C (shR g n W f1 f2) τ) (f : Nat → Int32) : HH g ad Lv C (shR g n W f f2) (va_up τ 91 (some (arI g n f))) := by
  have h := hH.rho (r := 91) (by decide) (some (arI g n f))
  have e : va_up (shR g n W f1 f2) 91 (some (arI g n f)) = shR g n W f f2 := by
    unfold shR
    rw [up_com _ _ _ (by decide : 92 ≠ 91), up_up]
  rw [e] at h
  exact h
theorem sh_p92 (hH : HH g ad Lv C (shR g n W f1 f2) τ) (f : Nat → Int32) : HH g ad Lv C (shR g n W f1 f) (va_up τ 92 (some (arI g 2 f))) := by
  have h := hH.rho (r := 92) (by decide) (some (arI g 2 f))
  have e : va_up (shR g n W f1 f2) 92 (some (arI g 2 f)) = shR g n W f1 f := by
    unfold shR
    rw [up_up]
  rw [e] at h
  exact h
theorem sh_drop (hH : HH g ad Lv C (shR g n W f1 f2) τ) : HH g ad Lv C (laR g n W) (va_up (va_up τ 91 none) 92 none) := by
  have h := (hH.rho (r := 91) (by decide) none).rho (r := 92) (by decide) none
  have e : va_up (va_up (shR g n W f1 f2) 91 none) 92 none = laR g n W := by
    funext r
    unfold shR
    by_cases h1 : r = 92
    · subst h1; rw [va_up_self]; rfl
    · rw [va_up_ne _ _ h1]
      by_cases h2 : r = 91
      · subst h2; rw [va_up_self]; rfl
      · rw [va_up_ne _ _ h2, va_up_ne _ _ h1, va_up_ne _ _ h2]
  rw [e] at h
  exact h
theorem sh_sub {τ : RH} : ∀ r e9, va_up (va_up τ 91 none) 92 none r = some e9 → τ r = some e9 := fun r e9 h => by
  by_cases h1 : r = 92
  · subst h1; rw [va_up_self] at h; cases h
  · rw [va_up_ne _ _ h1] at h
    by_cases h2 : r = 91
    · subst h2; rw [va_up_self] at h; cases h
    · rw [va_up_ne _ _ h2] at h; exact h
/-- the samples' lives before, the shifts left before -/
def lfB (B : ME) (k : Nat) : Int32 := if B 81 k = 110 then -1002 else B 80 k
def lvB (B : ME) (k : Nat) : Int32 := if mOn B k = -1 then -1 else if mWhy B k = 102 then -2 else B 75 (tn (mOn B k)) + 16 * mOn B k
theorem v16 {l j : Nat} (hl : l ≤ 9) (hj : j < 8) : nI l + 16 * nI j = nI (l + 16 * j) ∧ (l + 16 * j) / 16 = j ∧ (l + 16 * j) % 16 = l := by
  refine ⟨?_, by omega, by omega⟩
  have e : (16 : Int32) * nI j = nI (16 * j) := by
    rcases (show j = 0 ∨ j = 1 ∨ j = 2 ∨ j = 3 ∨ j = 4 ∨ j = 5 ∨ j = 6 ∨ j = 7 by omega) with rfl | rfl | rfl | rfl | rfl | rfl | rfl | rfl <;> decide
  rw [e, nI_add]
theorem did_s (k : Nat) (x : Int32) (h : x = psum (mDid B) k) : (mWhy B k = 45 → x + 1 = psum (mDid B) (k + 1)) ∧ (¬ mWhy B k = 45 → x + 0 = psum (mDid B) (k + 1)) := by
  refine ⟨fun q => ?_, fun q => ?_⟩
  · rw [psum_s, h, show mDid B k = 1 from if_pos q]
  · rw [psum_s, h, show mDid B k = 0 from if_neg q]
end SHR
set_option maxHeartbeats 4000000 in
set_option maxRecDepth 100000 in
/-- shift -/
theorem sp_L_shift {l : Launch} {g : GW} {ad : AD} {τ : RH} {Lv : Nat → Bool} {C B W : ME} {n T : Nat} (hH : HH g ad Lv C (laR g n W) τ) (hS : lwS n T W Lv C B) (hT : T < 200) : Sp l g yL_shift (.code yL_shift cL_shift 8 (some .boolean)) (rmv 10 600 6000) [.ref (ad 0), .int (nI n), .ref (ad 90)] ad τ 600 6000 (fun v ad' τ' => v = some (.int 1) ∧ (∀ x, x ≠ 91 → x ≠ 92 → ad' x = ad x) ∧ HH g ad' Lv (qPass C 1).1 (laR g n W) τ') (NoX) := by
  refine Sp.of 5 [some (.ref (ad 0)), some (.int (nI n)), some (.ref (ad 90)), none, none, none, none, none] (by decide +kernel) (Nat.le_of_ble_eq_true rfl) rfl ?_
  intro p e s m args below meth c A cx hout hr hnm
  have hI := hS.I
  have h8n := hS.n8
  have hO := (H_lines hH hI).1
  obtain ⟨hK1, hK2, hS2⟩ := hS.pass hT
  have h9 : T ≤ 200 := Nat.le_of_lt hT
  refine a_iload_n cx dL_shift_0 rfl rfl ?_
  refine a_newaG cx (atype := .int) (t0 := 1) (N := n) (91) (hH.2 91 (by decide)) (.inl (fun _ => 0)) ac_int rfl rfl rfl (fun _ => rfl) (nI_pos (by omega)) (nI_clamp (by omega)) (by show n * 4 ≤ 536870912; omega) (by show 0 + 1 ≤ 600; omega) (by show 0 + n ≤ 6000; omega) dL_shift_1 (fun a1 h1 => ?_)
  rw [← h1 0 (by decide), ← h1 90 (by decide)]
  replace hH := hH.fresh hS.I hS.1.2.1 (r := 91) (by decide) h1 (some (arI g n (fun _ => 0)))
  refine a_astore_n3 cx dL_shift_3 rfl (by decide) (by intro w h; first | (cases h; rfl) | (cases h; assumption) | (cases h; done)) ?_
  refine a_iconst cx (v := 0) dL_shift_4 (by decide) ?_
  refine a_istore4 cx dL_shift_5 (by decide) (by intro w h; first | (cases h; rfl) | (cases h; assumption) | (cases h; done)) ?_
  refine a_iconst cx (v := 2) dL_shift_7 (by decide) ?_
  refine a_newaG cx (atype := .int) (t0 := 1) (N := 2) (92) (hH.2 92 (by decide)) (.inl (fun _ => 0)) ac_int rfl rfl rfl (fun _ => rfl) (by decide) (by decide) (by show 2 * 4 ≤ 536870912; omega) (by show 0 + 1 + 1 ≤ 600; omega) (by show 0 + n + 2 ≤ 6000; omega) dL_shift_8 (fun a2 h8 => ?_)
  rw [← h8 0 (by decide), ← h8 90 (by decide), ← h8 91 (by decide)]
  replace hH := hH.fresh hS.I hS.1.2.1 (r := 92) (by decide) h8 (some (arI g 2 (fun _ => 0)))
  have had : ∀ x, x ≠ 91 → x ≠ 92 → a2 x = ad x := fun x q1 q2 => (h8 x q2).trans (h1 x q1)
  replace hH : HH g a2 Lv C (shR g n W (fun _ => 0) (fun _ => 0)) _ := hH
  clear h1 h8
  refine a_astore5 cx dL_shift_10 (by decide) (by intro w h; first | (cases h; rfl) | (cases h; assumption) | (cases h; done)) ?_
  refine a_iconst cx (v := 0) dL_shift_12 (by decide) ?_
  refine a_istore6 cx dL_shift_13 (by decide) (by intro w h; first | (cases h; rfl) | (cases h; assumption) | (cases h; done)) ?_
  refine a_loopG (σ := Nat × RH × (Nat → Int32)) (fun f s => s.1 + f = n ∧ HH g a2 Lv C (shR g n W s.2.2 (fun _ => 0)) s.2.1 ∧ ∀ k, k < s.1 → s.2.2 k = lfB B k) (fun _ => a2) (fun s => s.2.1) (fun s => [some (.ref (a2 0)), some (.int (nI n)), some (.ref (a2 90)), some (.ref (a2 91)), some (.int 0), some (.ref (a2 92)), some (.int (nI s.1)), none]) (fun s => 2 + 2 * s.1) (fun s => 20 + 12 * s.1) n (0, _, _) ⟨Nat.zero_add _, hH, fun k hk => absurd hk (Nat.not_lt_zero k)⟩ rfl rfl rfl (by dsimp only; omega) (by dsimp only; omega) ?_
  clear hH hO
  rintro f ⟨i, τ, f1⟩ ⟨hi0, hH, hf1⟩ ih
  dsimp only at hi0 hH hf1 ⊢
  refine a_iload cx dL_shift_15 rfl ?_
  refine a_iload_n cx dL_shift_17 rfl rfl ?_
  refine a_icmp_ge cx (tgt := 37) dL_shift_18 (by decide) (fun c_18 => ?_) (fun c_18 => ?_)
  · have hin : n = i := by have := le_nI c_18 (by omega) (by omega); omega
    subst hin
    refine a_iconst cx (v := 0) dL_shift_37 (by decide) ?_
    refine a_istore6 cx dL_shift_38 (by decide) (by intro w h; first | (cases h; rfl) | (cases h; assumption) | (cases h; done)) ?_
    refine a_loopG (σ := Nat × RH × (Nat → Int32) × Int32) (fun f s => s.1 + f = 2 ∧ HH g a2 Lv C (shR g n W f1 s.2.2.1) s.2.1 ∧ s.2.2.2 = psum (mDid B) s.1 ∧ ∀ k, k < s.1 → s.2.2.1 k = lvB B k) (fun _ => a2) (fun s => s.2.1) (fun s => [some (.ref (a2 0)), some (.int (nI n)), some (.ref (a2 90)), some (.ref (a2 91)), some (.int s.2.2.2), some (.ref (a2 92)), some (.int (nI s.1)), none]) (fun s => 20 + 16 * s.1) (fun s => 300 + 96 * s.1) 2 (0, _, _, 0) ⟨rfl, hH, rfl, fun k hk => absurd hk (Nat.not_lt_zero k)⟩ rfl rfl rfl (by dsimp only; omega) (by dsimp only; omega) ?_
    clear hH
    rintro f ⟨b, τ, f2, x⟩ ⟨hb0, hH, hx, hf2⟩ ih
    dsimp only at hb0 hH hx hf2 ⊢
    have hO := (H_lines hH hI).1
    refine a_iload cx dL_shift_40 rfl ?_
    refine a_iconst cx (v := 2) dL_shift_42 (by decide) ?_
    refine a_icmp_ge cx (tgt := 127) dL_shift_43 (by decide) (fun c_43 => ?_) (fun c_43 => ?_)
    · have hb2 : b = 2 := by have := le_nI (a := 2) c_43 (by omega) (by omega); omega
      subst hb2
      subst hx
      refine a_aload_n cx dL_shift_127 rfl rfl ?_
      refine a_callV cx 0 (sp_X3_time hH hI) hO rfl ml_L_111 im_X3_time se_X3_time ini_X3 cd_X3_time rfl rfl (by decide +kernel) rfl rfl ⟨(Nat.le_of_ble_eq_true rfl), (Nat.le_of_ble_eq_true rfl)⟩ (Nat.le_of_ble_eq_true rfl) dL_shift_128 ⟨show _ ≤ 600 by omega, show _ ≤ 6000 by omega⟩ (fun _ _ _ h => h.elim) (fun v9 ad9 τ9 hP => ?_)
      obtain ⟨rfl, h2, h3⟩ := hP
      replace h2 := h2.symm
      subst h2
      replace h3 := h3.symm
      subst h3
      refine a_istore6 cx dL_shift_131 (by decide) (by intro w h; first | (cases h; rfl) | (cases h; assumption) | (cases h; done)) ?_
      refine a_aload_n cx dL_shift_133 rfl rfl ?_
      refine a_iconst cx (v := 1) dL_shift_134 (by decide) ?_
      refine a_callSH cx 2 (sp_L_pass (n := 1) hH hI) ml_L_116 st_L_pass ini_L cd_L_pass rfl rfl (by decide +kernel) rfl rfl ⟨(Nat.le_of_ble_eq_true rfl), (Nat.le_of_ble_eq_true rfl)⟩ (Nat.le_of_ble_eq_true rfl) dL_shift_135 ⟨show _ ≤ 600 by omega, show _ ≤ 6000 by omega⟩ (fun _ _ _ h => h.elim) (fun v9 ad9 τ9 hP => ?_)
      obtain ⟨hP0, hP⟩ := hP
      have hP0 : v9 = some (.int (mDid B 0 + mDid B 1)) := hP0.trans (by rw [rr_of hK1 hK2])
      subst hP0
      obtain ⟨-, h2, hH9⟩ : _ ∧ _ ∧ _ := hP.resolve_right (fun q => q.1 hK1)
      replace h2 := h2.symm
      subst h2
      have ht9 : (qPass C 1).1 0 4 = C 0 4 + 1 := by rw [v_time hS2, m3_t hS.q hS.nb, ← v_time hS]
      generalize hC9 : (qPass C 1).1 = C9 at hH9 hS2 ht9 ⊢
      clear hH hI hO
      have hH := hH9
      clear hH9
      have hI := hS2.I
      have hO := (H_lines hH hI).1
      refine a_iload cx dL_shift_138 rfl ?_
      refine a_icmp_ne cx (tgt := 154) dL_shift_140 (by decide) (fun c_140 => absurd (show mDid B 0 + mDid B 1 = psum (mDid B) 2 by rw [psum_s, psum_s, show psum (mDid B) 0 = 0 from rfl, Int32.zero_add]) c_140) (fun c_140 => ?_)
      refine a_aload_n cx dL_shift_143 rfl rfl ?_
      refine a_callV cx 0 (sp_X3_time hH hI) hO rfl ml_L_111 im_X3_time se_X3_time ini_X3 cd_X3_time rfl rfl (by decide +kernel) rfl rfl ⟨(Nat.le_of_ble_eq_true rfl), (Nat.le_of_ble_eq_true rfl)⟩ (Nat.le_of_ble_eq_true rfl) dL_shift_144 ⟨show _ ≤ 600 by omega, show _ ≤ 6000 by omega⟩ (fun _ _ _ h => h.elim) (fun v9 ad9 τ9 hP => ?_)
      obtain ⟨rfl, h2, h3⟩ := hP
      replace h2 := h2.symm
      subst h2
      replace h3 := h3.symm
      subst h3
      rw [ht9]
      refine a_iload cx dL_shift_147 rfl ?_
      refine a_iconst cx (v := 1) dL_shift_149 (by decide) ?_
      refine a_iadd cx dL_shift_150 ?_
      refine a_icmp_eq cx (tgt := 156) dL_shift_151 (by decide) (fun c_151 => ?_) (fun c_151 => absurd rfl c_151)
      refine a_iconst cx (v := 0) dL_shift_156 (by decide) ?_
      refine a_istore7 cx dL_shift_157 (by decide) (by intro w h; first | (cases h; rfl) | (cases h; assumption) | (cases h; done)) ?_
      refine a_loopG (σ := Nat) (fun f s => s + f = 2) (fun _ => a2) (fun _ => τ9) (fun s => [some (.ref (a2 0)), some (.int (nI n)), some (.ref (a2 90)), some (.ref (a2 91)), some (.int (psum (mDid B) 2)), some (.ref (a2 92)), some (.int (C 0 4)), some (.int (nI s))]) (fun s => 100 + 8 * s) (fun s => 1000 + 48 * s) 2 0 rfl rfl rfl rfl (by omega) (by omega) ?_
      rintro f b hb0 ih
      try dsimp only
      refine a_iload cx dL_shift_159 rfl ?_
      refine a_iconst cx (v := 2) dL_shift_161 (by decide) ?_
      refine a_icmp_ge cx (tgt := 217) dL_shift_162 (by decide) (fun c_162 => ?_) (fun c_162 => ?_)
      · refine a_iconst cx (v := 0) dL_shift_217 (by decide) ?_
        refine a_istore7 cx dL_shift_218 (by decide) (by intro w h; first | (cases h; rfl) | (cases h; assumption) | (cases h; done)) ?_
        refine a_loopG (σ := Nat) (fun f s => s + f = n) (fun _ => a2) (fun _ => τ9) (fun s => [some (.ref (a2 0)), some (.int (nI n)), some (.ref (a2 90)), some (.ref (a2 91)), some (.int (psum (mDid B) 2)), some (.ref (a2 92)), some (.int (C 0 4)), some (.int (nI s))]) (fun s => 150 + 2 * s) (fun s => 1500 + 12 * s) n 0 (Nat.zero_add _) rfl rfl rfl (by omega) (by omega) ?_
        rintro f i hi0 ih
        try dsimp only
        refine a_iload cx dL_shift_220 rfl ?_
        refine a_iload_n cx dL_shift_222 rfl rfl ?_
        refine a_icmp_ge cx (tgt := 273) dL_shift_223 (by decide) (fun c_223 => ?_) (fun c_223 => ?_)
        · refine a_drop sh_sub ?_
          refine a_iconst cx (v := 1) dL_shift_273 (by decide) ?_
          exact a_zret cx hr dL_shift_274 (by first | rfl | decide) (by omega) (by omega) ⟨rfl, had, sh_drop hH⟩
        · have hi : i < n := int_lt (by omega) (by omega) c_223
          obtain ⟨f, rfl⟩ : ∃ f9, f = f9 + 1 := ⟨f - 1, by omega⟩
          by_cases hz : W 90 i = 0
          · have hz2 : B 81 i = 110 := by
              rcases hS.2.2.2.2.1 i hi with ⟨-, q⟩ | ⟨-, q, -⟩
              · exact q
              · rw [hz] at q; rcases q with q | q | q <;> exact absurd q (by decide)
            refine a_aload_n cx dL_shift_226 rfl rfl ?_
            refine a_iload cx dL_shift_227 rfl ?_
            refine a_ild cx (i) (sh_91 hH) (rfl) (hi) (by omega) dL_shift_229 ?_
            rw [hf1 i hi, show lfB B i = -1002 from if_pos hz2]
            refine a_if_lt cx (tgt := 267) dL_shift_230 (by decide) (fun c_230 => ?_) (fun c_230 => absurd (by decide) c_230)
            refine a_iinc7 cx (nI (i + 1)) dL_shift_267 (nI_1 i) (by decide) (by intro w h; first | (cases h; rfl) | (cases h; assumption) | (cases h; done)) ?_
            refine a_goto cx (tgt := 220) dL_shift_270 (by decide) ?_
            exact a_wide (by omega) (by omega) (ih f (i + 1) (Nat.lt_succ_self f) (by first | omega | (dsimp only; omega)))
          · obtain ⟨hl1, hl2, l, hl3, hl4, hl5⟩ := pass_life hS hi hz
            refine a_aload_n cx dL_shift_226 rfl rfl ?_
            refine a_iload cx dL_shift_227 rfl ?_
            refine a_ild cx (i) (sh_91 hH) (rfl) (hi) (by omega) dL_shift_229 ?_
            rw [hf1 i hi, show lfB B i = nI l from (if_neg hl1).trans hl4]
            refine a_if_lt cx (tgt := 267) dL_shift_230 (by decide) (fun c_230 => absurd c_230 (nI_pos (by omega))) (fun c_230 => ?_)
            refine a_aload_n cx dL_shift_233 rfl rfl ?_
            refine a_iload cx dL_shift_234 rfl ?_
            refine a_callSH cx 2 (sp_L_life (j := nI i) hH hI) ml_L_114 st_L_life ini_L cd_L_life rfl rfl (by decide +kernel) rfl rfl ⟨(Nat.le_of_ble_eq_true rfl), (Nat.le_of_ble_eq_true rfl)⟩ (Nat.le_of_ble_eq_true rfl) dL_shift_236 ⟨show _ ≤ 600 by omega, show _ ≤ 6000 by omega⟩ (fun _ _ _ h => h.elim) (fun v9 ad9 τ9 hP => ?_)
            obtain ⟨rfl, h2, h3⟩ := hP
            replace h2 := h2.symm
            subst h2
            replace h3 := h3.symm
            subst h3
            rw [v_life hS2 hi, if_neg (show ¬ m3 B 81 i = 110 by rw [hl2]; exact hl1), hl5]
            refine a_iconst cx (v := 0) dL_shift_239 (by decide) ?_
            refine a_aload_n cx dL_shift_240 rfl rfl ?_
            refine a_iload cx dL_shift_241 rfl ?_
            refine a_ild cx (i) (sh_91 hH) (rfl) (hi) (by omega) dL_shift_243 ?_
            rw [hf1 i hi, show lfB B i = nI l from (if_neg hl1).trans hl4]
            refine a_aload_n cx dL_shift_244 rfl rfl ?_
            refine a_iload cx dL_shift_245 rfl ?_
            refine a_cld cx (i) (sh_90 hH) (rfl) (hi) (by omega) dL_shift_247 ?_
            refine a_bipush cx (v := 99) dL_shift_248 (by decide) ?_
            refine a_icmp_ne cx (tgt := 257) dL_shift_250 (by decide) (fun c_250 => ?_) (fun c_250 => ?_)
            · refine a_iconst cx (v := 1) dL_shift_257 (by decide) ?_
              refine a_isub cx dL_shift_258 ?_
              refine a_mmax cx ml_L_118 (Nat.le_of_ble_eq_true rfl) (Nat.le_of_ble_eq_true rfl) dL_shift_259 ?_ (by show _ ≤ 600; omega) (by show _ ≤ 6000; omega)
              refine a_icmp_eq cx (tgt := 267) dL_shift_262 (by decide) (fun c_262 => ?_) (fun c_262 => absurd (show nI (if W 90 i = 99 then l else l - 1) = _ by rw [if_neg c_250]; exact (drain_eq (us := l) (rt := 1) (by omega) (by decide)).1.symm) c_262)
              refine a_iinc7 cx (nI (i + 1)) dL_shift_267 (nI_1 i) (by decide) (by intro w h; first | (cases h; rfl) | (cases h; assumption) | (cases h; done)) ?_
              refine a_goto cx (tgt := 220) dL_shift_270 (by decide) ?_
              exact a_wide (by omega) (by omega) (ih f (i + 1) (Nat.lt_succ_self f) (by first | omega | (dsimp only; omega)))
            · refine a_iconst cx (v := 0) dL_shift_253 (by decide) ?_
              refine a_goto cx (tgt := 258) dL_shift_254 (by decide) ?_
              refine a_isub cx dL_shift_258 ?_
              refine a_mmax cx ml_L_118 (Nat.le_of_ble_eq_true rfl) (Nat.le_of_ble_eq_true rfl) dL_shift_259 ?_ (by show _ ≤ 600; omega) (by show _ ≤ 6000; omega)
              refine a_icmp_eq cx (tgt := 267) dL_shift_262 (by decide) (fun c_262 => ?_) (fun c_262 => absurd (show nI (if W 90 i = 99 then l else l - 1) = _ by rw [if_pos c_250]; exact (drain_eq (us := l) (rt := 0) (by omega) (by decide)).1.symm) c_262)
              refine a_iinc7 cx (nI (i + 1)) dL_shift_267 (nI_1 i) (by decide) (by intro w h; first | (cases h; rfl) | (cases h; assumption) | (cases h; done)) ?_
              refine a_goto cx (tgt := 220) dL_shift_270 (by decide) ?_
              exact a_wide (by omega) (by omega) (ih f (i + 1) (Nat.lt_succ_self f) (by first | omega | (dsimp only; omega)))
      · have hb : b < 2 := int_lt (b := b) (a := 2) (by omega) (by omega) c_162
        obtain ⟨f, rfl⟩ : ∃ f9, f = f9 + 1 := ⟨f - 1, by omega⟩
        rcases hS.cur (Nat.le_of_lt hT) hb with ⟨e1, e2, e3⟩ | ⟨k0, j0, l0, t, e1, htq, hj0, hon, h70, hl1, hl9, h75, hwhy, -⟩
        · have hlv : lvB B b = -1 := if_pos e2
          refine a_aload cx dL_shift_165 rfl ?_
          refine a_iload cx dL_shift_167 rfl ?_
          refine a_ild cx (b) (sh_92 hH) (rfl) (hb) (by decide) dL_shift_169 ?_
          rw [hf2 b hb, hlv]
          refine a_if_lt cx (tgt := 198) dL_shift_170 (by decide) (fun c_170 => ?_) (fun c_170 => absurd (by decide) c_170)
          refine a_aload_n cx dL_shift_198 rfl rfl ?_
          refine a_iload cx dL_shift_199 rfl ?_
          refine a_callSH cx 2 (sp_L_reason (b := nI b) hH hI) ml_L_109 st_L_reason ini_L cd_L_reason rfl rfl (by decide +kernel) rfl rfl ⟨(Nat.le_of_ble_eq_true rfl), (Nat.le_of_ble_eq_true rfl)⟩ (Nat.le_of_ble_eq_true rfl) dL_shift_201 ⟨show _ ≤ 600 by omega, show _ ≤ 6000 by omega⟩ (fun _ _ _ h => h.elim) (fun v9 ad9 τ9 hP => ?_)
          obtain ⟨rfl, h2, h3⟩ := hP
          replace h2 := h2.symm
          subst h2
          replace h3 := h3.symm
          subst h3
          rw [v_reason hS2 hb]
          refine a_bipush cx (v := 102) dL_shift_204 (by decide) ?_
          refine a_icmp_ne cx (tgt := 211) dL_shift_206 (by decide) (fun c_206 => ?_) (fun c_206 => absurd c_206 (pass_f hS hb))
          refine a_iinc7 cx (nI (b + 1)) dL_shift_211 (nI_1 b) (by decide) (by intro w h; first | (cases h; rfl) | (cases h; assumption) | (cases h; done)) ?_
          refine a_goto cx (tgt := 159) dL_shift_214 (by decide) ?_
          exact a_wide (by omega) (by omega) (ih f (b + 1) (Nat.lt_succ_self f) (by first | omega | (dsimp only; omega)))
        · by_cases hw : mWhy B b = 102
          · have hlv : lvB B b = -2 := by unfold lvB; rw [hon, if_neg (nI_ne1 (by omega)), if_pos hw]
            refine a_aload cx dL_shift_165 rfl ?_
            refine a_iload cx dL_shift_167 rfl ?_
            refine a_ild cx (b) (sh_92 hH) (rfl) (hb) (by decide) dL_shift_169 ?_
            rw [hf2 b hb, hlv]
            refine a_if_lt cx (tgt := 198) dL_shift_170 (by decide) (fun c_170 => ?_) (fun c_170 => absurd (by decide) c_170)
            refine a_aload_n cx dL_shift_198 rfl rfl ?_
            refine a_iload cx dL_shift_199 rfl ?_
            refine a_callSH cx 2 (sp_L_reason (b := nI b) hH hI) ml_L_109 st_L_reason ini_L cd_L_reason rfl rfl (by decide +kernel) rfl rfl ⟨(Nat.le_of_ble_eq_true rfl), (Nat.le_of_ble_eq_true rfl)⟩ (Nat.le_of_ble_eq_true rfl) dL_shift_201 ⟨show _ ≤ 600 by omega, show _ ≤ 6000 by omega⟩ (fun _ _ _ h => h.elim) (fun v9 ad9 τ9 hP => ?_)
            obtain ⟨rfl, h2, h3⟩ := hP
            replace h2 := h2.symm
            subst h2
            replace h3 := h3.symm
            subst h3
            rw [v_reason hS2 hb]
            refine a_bipush cx (v := 102) dL_shift_204 (by decide) ?_
            refine a_icmp_ne cx (tgt := 211) dL_shift_206 (by decide) (fun c_206 => ?_) (fun c_206 => absurd c_206 (pass_f hS hb))
            refine a_iinc7 cx (nI (b + 1)) dL_shift_211 (nI_1 b) (by decide) (by intro w h; first | (cases h; rfl) | (cases h; assumption) | (cases h; done)) ?_
            refine a_goto cx (tgt := 159) dL_shift_214 (by decide) ?_
            exact a_wide (by omega) (by omega) (ih f (b + 1) (Nat.lt_succ_self f) (by first | omega | (dsimp only; omega)))
          · obtain ⟨hv1, hv2, hv3⟩ := v16 hl9 (show j0 < 8 by omega)
            have hlv : lvB B b = nI (l0 + 16 * j0) := by unfold lvB; rw [hon, if_neg (nI_ne1 (by omega)), if_neg hw, tn_nI (by omega), h75, hv1]
            have hm3 : m3 B 75 j0 = nI l0 - 1 := by
              have h := pass_left hS hb e1 hw
              rw [htq, h75] at h
              exact h
            refine a_aload cx dL_shift_165 rfl ?_
            refine a_iload cx dL_shift_167 rfl ?_
            refine a_ild cx (b) (sh_92 hH) (rfl) (hb) (by decide) dL_shift_169 ?_
            rw [hf2 b hb, hlv]
            refine a_if_lt cx (tgt := 198) dL_shift_170 (by decide) (fun c_170 => absurd c_170 (nI_pos (by omega))) (fun c_170 => ?_)
            refine a_aload_n cx dL_shift_173 rfl rfl ?_
            refine a_aload cx dL_shift_174 rfl ?_
            refine a_iload cx dL_shift_176 rfl ?_
            refine a_ild cx (b) (sh_92 hH) (rfl) (hb) (by decide) dL_shift_178 ?_
            rw [hf2 b hb, hlv]
            refine a_bipush cx (v := 16) dL_shift_179 (by decide) ?_
            refine a_idiv cx (a := l0 + 16 * j0) (b := 16) rfl rfl (by omega) (by omega) (by omega) dL_shift_181 ?_
            rw [hv2]
            refine a_callSH cx 2 (sp_L_left (j := nI j0) hH hI) ml_L_98 st_L_left ini_L cd_L_left rfl rfl (by decide +kernel) rfl rfl ⟨(Nat.le_of_ble_eq_true rfl), (Nat.le_of_ble_eq_true rfl)⟩ (Nat.le_of_ble_eq_true rfl) dL_shift_182 ⟨show _ ≤ 600 by omega, show _ ≤ 6000 by omega⟩ (fun _ _ _ h => h.elim) (fun v9 ad9 τ9 hP => ?_)
            obtain ⟨rfl, h2, h3⟩ := hP
            replace h2 := h2.symm
            subst h2
            replace h3 := h3.symm
            subst h3
            rw [v_left hS2 hj0, hm3]
            refine a_aload cx dL_shift_185 rfl ?_
            refine a_iload cx dL_shift_187 rfl ?_
            refine a_ild cx (b) (sh_92 hH) (rfl) (hb) (by decide) dL_shift_189 ?_
            rw [hf2 b hb, hlv]
            refine a_bipush cx (v := 16) dL_shift_190 (by decide) ?_
            refine a_irem cx (a := l0 + 16 * j0) (b := 16) rfl rfl (by omega) (by omega) (by omega) dL_shift_192 ?_
            rw [hv3]
            refine a_iconst cx (v := 1) dL_shift_193 (by decide) ?_
            refine a_isub cx dL_shift_194 ?_
            refine a_icmp_ne cx (tgt := 209) dL_shift_195 (by decide) (fun c_195 => absurd rfl c_195) (fun c_195 => ?_)
            refine a_aload_n cx dL_shift_198 rfl rfl ?_
            refine a_iload cx dL_shift_199 rfl ?_
            refine a_callSH cx 2 (sp_L_reason (b := nI b) hH hI) ml_L_109 st_L_reason ini_L cd_L_reason rfl rfl (by decide +kernel) rfl rfl ⟨(Nat.le_of_ble_eq_true rfl), (Nat.le_of_ble_eq_true rfl)⟩ (Nat.le_of_ble_eq_true rfl) dL_shift_201 ⟨show _ ≤ 600 by omega, show _ ≤ 6000 by omega⟩ (fun _ _ _ h => h.elim) (fun v9 ad9 τ9 hP => ?_)
            obtain ⟨rfl, h2, h3⟩ := hP
            replace h2 := h2.symm
            subst h2
            replace h3 := h3.symm
            subst h3
            rw [v_reason hS2 hb]
            refine a_bipush cx (v := 102) dL_shift_204 (by decide) ?_
            refine a_icmp_ne cx (tgt := 211) dL_shift_206 (by decide) (fun c_206 => ?_) (fun c_206 => absurd c_206 (pass_f hS hb))
            refine a_iinc7 cx (nI (b + 1)) dL_shift_211 (nI_1 b) (by decide) (by intro w h; first | (cases h; rfl) | (cases h; assumption) | (cases h; done)) ?_
            refine a_goto cx (tgt := 159) dL_shift_214 (by decide) ?_
            exact a_wide (by omega) (by omega) (ih f (b + 1) (Nat.lt_succ_self f) (by first | omega | (dsimp only; omega)))
    · have hb : b < 2 := int_lt (b := b) (a := 2) (by omega) (by omega) c_43
      obtain ⟨f, rfl⟩ : ∃ f9, f = f9 + 1 := ⟨f - 1, by omega⟩
      rcases hS.cur (Nat.le_of_lt hT) hb with ⟨e1, e2, e3⟩ | ⟨k0, j0, l0, t, e1, htq, hj0, hon, h70, hl1, hl9, h75, hwhy, -⟩
      · have hlv : lvB B b = -1 := if_pos e2
        refine a_iload cx dL_shift_46 rfl ?_
        refine a_aload_n cx dL_shift_48 rfl rfl ?_
        refine a_iload cx dL_shift_49 rfl ?_
        refine a_callSH cx 2 (sp_L_reason (b := nI b) hH hI) ml_L_109 st_L_reason ini_L cd_L_reason rfl rfl (by decide +kernel) rfl rfl ⟨(Nat.le_of_ble_eq_true rfl), (Nat.le_of_ble_eq_true rfl)⟩ (Nat.le_of_ble_eq_true rfl) dL_shift_51 ⟨show _ ≤ 600 by omega, show _ ≤ 6000 by omega⟩ (fun _ _ _ h => h.elim) (fun v9 ad9 τ9 hP => ?_)
        obtain ⟨rfl, h2, h3⟩ := hP
        replace h2 := h2.symm
        subst h2
        replace h3 := h3.symm
        subst h3
        rw [v_reason hS hb]
        refine a_bipush cx (v := 45) dL_shift_54 (by decide) ?_
        refine a_icmp_ne cx (tgt := 63) dL_shift_56 (by decide) (fun c_56 => ?_) (fun c_56 => ?_)
        · refine a_iconst cx (v := 0) dL_shift_63 (by decide) ?_
          refine a_iadd cx dL_shift_64 ?_
          refine a_istore4 cx dL_shift_65 (by decide) (by intro w h; first | (cases h; rfl) | (cases h; assumption) | (cases h; done)) ?_
          refine a_aload cx dL_shift_67 rfl ?_
          refine a_iload cx dL_shift_69 rfl ?_
          refine a_aload_n cx dL_shift_71 rfl rfl ?_
          refine a_iload cx dL_shift_72 rfl ?_
          refine a_callSH cx 2 (sp_L_on (b := nI b) hH hI) ml_L_107 st_L_on ini_L cd_L_on rfl rfl (by decide +kernel) rfl rfl ⟨(Nat.le_of_ble_eq_true rfl), (Nat.le_of_ble_eq_true rfl)⟩ (Nat.le_of_ble_eq_true rfl) dL_shift_74 ⟨show _ ≤ 600 by omega, show _ ≤ 6000 by omega⟩ (fun _ _ _ h => h.elim) (fun v9 ad9 τ9 hP => ?_)
          obtain ⟨rfl, h2, h3⟩ := hP
          replace h2 := h2.symm
          subst h2
          replace h3 := h3.symm
          subst h3
          rw [v_on hS hb, if_pos e2]
          refine a_if_ge cx (tgt := 84) dL_shift_77 (by decide) (fun c_77 => absurd c_77 (by decide)) (fun c_77 => ?_)
          refine a_iconst cx (v := -1) dL_shift_80 (by decide) ?_
          refine a_goto cx (tgt := 120) dL_shift_81 (by decide) ?_
          refine a_ist cx (b) (sh_92 hH) (rfl) (hb) (by decide)  dL_shift_120 ?_
          refine a_iinc6 cx (nI (b + 1)) dL_shift_121 (nI_1 b) (by decide) (by intro w h; first | (cases h; rfl) | (cases h; assumption) | (cases h; done)) ?_
          refine a_goto cx (tgt := 40) dL_shift_124 (by decide) ?_
          refine a_wide (by omega) (by omega) (ih f (b + 1, _, _, _) (Nat.lt_succ_self f) ⟨by first | omega | (dsimp only; omega), sh_p92 hH _, (did_s b x hx).2 c_56, fun k hk => ?_⟩)
          by_cases hkb : k = b
          · subst hkb; exact (va_up_self _ _ _).trans hlv.symm
          · exact (va_up_ne _ _ hkb).trans (hf2 k (by first | omega | (dsimp only at hk; omega)))
        · refine a_iconst cx (v := 1) dL_shift_59 (by decide) ?_
          refine a_goto cx (tgt := 64) dL_shift_60 (by decide) ?_
          refine a_iadd cx dL_shift_64 ?_
          refine a_istore4 cx dL_shift_65 (by decide) (by intro w h; first | (cases h; rfl) | (cases h; assumption) | (cases h; done)) ?_
          refine a_aload cx dL_shift_67 rfl ?_
          refine a_iload cx dL_shift_69 rfl ?_
          refine a_aload_n cx dL_shift_71 rfl rfl ?_
          refine a_iload cx dL_shift_72 rfl ?_
          refine a_callSH cx 2 (sp_L_on (b := nI b) hH hI) ml_L_107 st_L_on ini_L cd_L_on rfl rfl (by decide +kernel) rfl rfl ⟨(Nat.le_of_ble_eq_true rfl), (Nat.le_of_ble_eq_true rfl)⟩ (Nat.le_of_ble_eq_true rfl) dL_shift_74 ⟨show _ ≤ 600 by omega, show _ ≤ 6000 by omega⟩ (fun _ _ _ h => h.elim) (fun v9 ad9 τ9 hP => ?_)
          obtain ⟨rfl, h2, h3⟩ := hP
          replace h2 := h2.symm
          subst h2
          replace h3 := h3.symm
          subst h3
          rw [v_on hS hb, if_pos e2]
          refine a_if_ge cx (tgt := 84) dL_shift_77 (by decide) (fun c_77 => absurd c_77 (by decide)) (fun c_77 => ?_)
          refine a_iconst cx (v := -1) dL_shift_80 (by decide) ?_
          refine a_goto cx (tgt := 120) dL_shift_81 (by decide) ?_
          refine a_ist cx (b) (sh_92 hH) (rfl) (hb) (by decide)  dL_shift_120 ?_
          refine a_iinc6 cx (nI (b + 1)) dL_shift_121 (nI_1 b) (by decide) (by intro w h; first | (cases h; rfl) | (cases h; assumption) | (cases h; done)) ?_
          refine a_goto cx (tgt := 40) dL_shift_124 (by decide) ?_
          refine a_wide (by omega) (by omega) (ih f (b + 1, _, _, _) (Nat.lt_succ_self f) ⟨by first | omega | (dsimp only; omega), sh_p92 hH _, (did_s b x hx).1 c_56, fun k hk => ?_⟩)
          by_cases hkb : k = b
          · subst hkb; exact (va_up_self _ _ _).trans hlv.symm
          · exact (va_up_ne _ _ hkb).trans (hf2 k (by first | omega | (dsimp only at hk; omega)))
      · by_cases hw : mWhy B b = 102
        · have hlv : lvB B b = -2 := by unfold lvB; rw [hon, if_neg (nI_ne1 (by omega)), if_pos hw]
          refine a_iload cx dL_shift_46 rfl ?_
          refine a_aload_n cx dL_shift_48 rfl rfl ?_
          refine a_iload cx dL_shift_49 rfl ?_
          refine a_callSH cx 2 (sp_L_reason (b := nI b) hH hI) ml_L_109 st_L_reason ini_L cd_L_reason rfl rfl (by decide +kernel) rfl rfl ⟨(Nat.le_of_ble_eq_true rfl), (Nat.le_of_ble_eq_true rfl)⟩ (Nat.le_of_ble_eq_true rfl) dL_shift_51 ⟨show _ ≤ 600 by omega, show _ ≤ 6000 by omega⟩ (fun _ _ _ h => h.elim) (fun v9 ad9 τ9 hP => ?_)
          obtain ⟨rfl, h2, h3⟩ := hP
          replace h2 := h2.symm
          subst h2
          replace h3 := h3.symm
          subst h3
          rw [v_reason hS hb]
          refine a_bipush cx (v := 45) dL_shift_54 (by decide) ?_
          refine a_icmp_ne cx (tgt := 63) dL_shift_56 (by decide) (fun c_56 => ?_) (fun c_56 => ?_)
          · refine a_iconst cx (v := 0) dL_shift_63 (by decide) ?_
            refine a_iadd cx dL_shift_64 ?_
            refine a_istore4 cx dL_shift_65 (by decide) (by intro w h; first | (cases h; rfl) | (cases h; assumption) | (cases h; done)) ?_
            refine a_aload cx dL_shift_67 rfl ?_
            refine a_iload cx dL_shift_69 rfl ?_
            refine a_aload_n cx dL_shift_71 rfl rfl ?_
            refine a_iload cx dL_shift_72 rfl ?_
            refine a_callSH cx 2 (sp_L_on (b := nI b) hH hI) ml_L_107 st_L_on ini_L cd_L_on rfl rfl (by decide +kernel) rfl rfl ⟨(Nat.le_of_ble_eq_true rfl), (Nat.le_of_ble_eq_true rfl)⟩ (Nat.le_of_ble_eq_true rfl) dL_shift_74 ⟨show _ ≤ 600 by omega, show _ ≤ 6000 by omega⟩ (fun _ _ _ h => h.elim) (fun v9 ad9 τ9 hP => ?_)
            obtain ⟨rfl, h2, h3⟩ := hP
            replace h2 := h2.symm
            subst h2
            replace h3 := h3.symm
            subst h3
            rw [v_on hS hb, hon, if_neg (nI_ne1 (by omega))]
            refine a_if_ge cx (tgt := 84) dL_shift_77 (by decide) (fun c_77 => ?_) (fun c_77 => absurd (nI_pos' (by omega)) c_77)
            refine a_aload_n cx dL_shift_84 rfl rfl ?_
            refine a_iload cx dL_shift_85 rfl ?_
            refine a_callSH cx 2 (sp_L_reason (b := nI b) hH hI) ml_L_109 st_L_reason ini_L cd_L_reason rfl rfl (by decide +kernel) rfl rfl ⟨(Nat.le_of_ble_eq_true rfl), (Nat.le_of_ble_eq_true rfl)⟩ (Nat.le_of_ble_eq_true rfl) dL_shift_87 ⟨show _ ≤ 600 by omega, show _ ≤ 6000 by omega⟩ (fun _ _ _ h => h.elim) (fun v9 ad9 τ9 hP => ?_)
            obtain ⟨rfl, h2, h3⟩ := hP
            replace h2 := h2.symm
            subst h2
            replace h3 := h3.symm
            subst h3
            rw [v_reason hS hb]
            refine a_bipush cx (v := 102) dL_shift_90 (by decide) ?_
            refine a_icmp_ne cx (tgt := 100) dL_shift_92 (by decide) (fun c_92 => absurd hw c_92) (fun c_92 => ?_)
            refine a_bipush cx (v := -2) dL_shift_95 (by decide) ?_
            refine a_goto cx (tgt := 120) dL_shift_97 (by decide) ?_
            refine a_ist cx (b) (sh_92 hH) (rfl) (hb) (by decide)  dL_shift_120 ?_
            refine a_iinc6 cx (nI (b + 1)) dL_shift_121 (nI_1 b) (by decide) (by intro w h; first | (cases h; rfl) | (cases h; assumption) | (cases h; done)) ?_
            refine a_goto cx (tgt := 40) dL_shift_124 (by decide) ?_
            refine a_wide (by omega) (by omega) (ih f (b + 1, _, _, _) (Nat.lt_succ_self f) ⟨by first | omega | (dsimp only; omega), sh_p92 hH _, (did_s b x hx).2 c_56, fun k hk => ?_⟩)
            by_cases hkb : k = b
            · subst hkb; exact (va_up_self _ _ _).trans hlv.symm
            · exact (va_up_ne _ _ hkb).trans (hf2 k (by first | omega | (dsimp only at hk; omega)))
          · refine a_iconst cx (v := 1) dL_shift_59 (by decide) ?_
            refine a_goto cx (tgt := 64) dL_shift_60 (by decide) ?_
            refine a_iadd cx dL_shift_64 ?_
            refine a_istore4 cx dL_shift_65 (by decide) (by intro w h; first | (cases h; rfl) | (cases h; assumption) | (cases h; done)) ?_
            refine a_aload cx dL_shift_67 rfl ?_
            refine a_iload cx dL_shift_69 rfl ?_
            refine a_aload_n cx dL_shift_71 rfl rfl ?_
            refine a_iload cx dL_shift_72 rfl ?_
            refine a_callSH cx 2 (sp_L_on (b := nI b) hH hI) ml_L_107 st_L_on ini_L cd_L_on rfl rfl (by decide +kernel) rfl rfl ⟨(Nat.le_of_ble_eq_true rfl), (Nat.le_of_ble_eq_true rfl)⟩ (Nat.le_of_ble_eq_true rfl) dL_shift_74 ⟨show _ ≤ 600 by omega, show _ ≤ 6000 by omega⟩ (fun _ _ _ h => h.elim) (fun v9 ad9 τ9 hP => ?_)
            obtain ⟨rfl, h2, h3⟩ := hP
            replace h2 := h2.symm
            subst h2
            replace h3 := h3.symm
            subst h3
            rw [v_on hS hb, hon, if_neg (nI_ne1 (by omega))]
            refine a_if_ge cx (tgt := 84) dL_shift_77 (by decide) (fun c_77 => ?_) (fun c_77 => absurd (nI_pos' (by omega)) c_77)
            refine a_aload_n cx dL_shift_84 rfl rfl ?_
            refine a_iload cx dL_shift_85 rfl ?_
            refine a_callSH cx 2 (sp_L_reason (b := nI b) hH hI) ml_L_109 st_L_reason ini_L cd_L_reason rfl rfl (by decide +kernel) rfl rfl ⟨(Nat.le_of_ble_eq_true rfl), (Nat.le_of_ble_eq_true rfl)⟩ (Nat.le_of_ble_eq_true rfl) dL_shift_87 ⟨show _ ≤ 600 by omega, show _ ≤ 6000 by omega⟩ (fun _ _ _ h => h.elim) (fun v9 ad9 τ9 hP => ?_)
            obtain ⟨rfl, h2, h3⟩ := hP
            replace h2 := h2.symm
            subst h2
            replace h3 := h3.symm
            subst h3
            rw [v_reason hS hb]
            refine a_bipush cx (v := 102) dL_shift_90 (by decide) ?_
            refine a_icmp_ne cx (tgt := 100) dL_shift_92 (by decide) (fun c_92 => absurd hw c_92) (fun c_92 => ?_)
            refine a_bipush cx (v := -2) dL_shift_95 (by decide) ?_
            refine a_goto cx (tgt := 120) dL_shift_97 (by decide) ?_
            refine a_ist cx (b) (sh_92 hH) (rfl) (hb) (by decide)  dL_shift_120 ?_
            refine a_iinc6 cx (nI (b + 1)) dL_shift_121 (nI_1 b) (by decide) (by intro w h; first | (cases h; rfl) | (cases h; assumption) | (cases h; done)) ?_
            refine a_goto cx (tgt := 40) dL_shift_124 (by decide) ?_
            refine a_wide (by omega) (by omega) (ih f (b + 1, _, _, _) (Nat.lt_succ_self f) ⟨by first | omega | (dsimp only; omega), sh_p92 hH _, (did_s b x hx).1 c_56, fun k hk => ?_⟩)
            by_cases hkb : k = b
            · subst hkb; exact (va_up_self _ _ _).trans hlv.symm
            · exact (va_up_ne _ _ hkb).trans (hf2 k (by first | omega | (dsimp only at hk; omega)))
        · have hlv : lvB B b = nI l0 + 16 * nI j0 := by unfold lvB; rw [hon, if_neg (nI_ne1 (by omega)), if_neg hw, tn_nI (by omega), h75]
          refine a_iload cx dL_shift_46 rfl ?_
          refine a_aload_n cx dL_shift_48 rfl rfl ?_
          refine a_iload cx dL_shift_49 rfl ?_
          refine a_callSH cx 2 (sp_L_reason (b := nI b) hH hI) ml_L_109 st_L_reason ini_L cd_L_reason rfl rfl (by decide +kernel) rfl rfl ⟨(Nat.le_of_ble_eq_true rfl), (Nat.le_of_ble_eq_true rfl)⟩ (Nat.le_of_ble_eq_true rfl) dL_shift_51 ⟨show _ ≤ 600 by omega, show _ ≤ 6000 by omega⟩ (fun _ _ _ h => h.elim) (fun v9 ad9 τ9 hP => ?_)
          obtain ⟨rfl, h2, h3⟩ := hP
          replace h2 := h2.symm
          subst h2
          replace h3 := h3.symm
          subst h3
          rw [v_reason hS hb]
          refine a_bipush cx (v := 45) dL_shift_54 (by decide) ?_
          refine a_icmp_ne cx (tgt := 63) dL_shift_56 (by decide) (fun c_56 => ?_) (fun c_56 => ?_)
          · refine a_iconst cx (v := 0) dL_shift_63 (by decide) ?_
            refine a_iadd cx dL_shift_64 ?_
            refine a_istore4 cx dL_shift_65 (by decide) (by intro w h; first | (cases h; rfl) | (cases h; assumption) | (cases h; done)) ?_
            refine a_aload cx dL_shift_67 rfl ?_
            refine a_iload cx dL_shift_69 rfl ?_
            refine a_aload_n cx dL_shift_71 rfl rfl ?_
            refine a_iload cx dL_shift_72 rfl ?_
            refine a_callSH cx 2 (sp_L_on (b := nI b) hH hI) ml_L_107 st_L_on ini_L cd_L_on rfl rfl (by decide +kernel) rfl rfl ⟨(Nat.le_of_ble_eq_true rfl), (Nat.le_of_ble_eq_true rfl)⟩ (Nat.le_of_ble_eq_true rfl) dL_shift_74 ⟨show _ ≤ 600 by omega, show _ ≤ 6000 by omega⟩ (fun _ _ _ h => h.elim) (fun v9 ad9 τ9 hP => ?_)
            obtain ⟨rfl, h2, h3⟩ := hP
            replace h2 := h2.symm
            subst h2
            replace h3 := h3.symm
            subst h3
            rw [v_on hS hb, hon, if_neg (nI_ne1 (by omega))]
            refine a_if_ge cx (tgt := 84) dL_shift_77 (by decide) (fun c_77 => ?_) (fun c_77 => absurd (nI_pos' (by omega)) c_77)
            refine a_aload_n cx dL_shift_84 rfl rfl ?_
            refine a_iload cx dL_shift_85 rfl ?_
            refine a_callSH cx 2 (sp_L_reason (b := nI b) hH hI) ml_L_109 st_L_reason ini_L cd_L_reason rfl rfl (by decide +kernel) rfl rfl ⟨(Nat.le_of_ble_eq_true rfl), (Nat.le_of_ble_eq_true rfl)⟩ (Nat.le_of_ble_eq_true rfl) dL_shift_87 ⟨show _ ≤ 600 by omega, show _ ≤ 6000 by omega⟩ (fun _ _ _ h => h.elim) (fun v9 ad9 τ9 hP => ?_)
            obtain ⟨rfl, h2, h3⟩ := hP
            replace h2 := h2.symm
            subst h2
            replace h3 := h3.symm
            subst h3
            rw [v_reason hS hb]
            refine a_bipush cx (v := 102) dL_shift_90 (by decide) ?_
            refine a_icmp_ne cx (tgt := 100) dL_shift_92 (by decide) (fun c_92 => ?_) (fun c_92 => absurd c_92 hw)
            refine a_aload_n cx dL_shift_100 rfl rfl ?_
            refine a_aload_n cx dL_shift_101 rfl rfl ?_
            refine a_iload cx dL_shift_102 rfl ?_
            refine a_callSH cx 2 (sp_L_on (b := nI b) hH hI) ml_L_107 st_L_on ini_L cd_L_on rfl rfl (by decide +kernel) rfl rfl ⟨(Nat.le_of_ble_eq_true rfl), (Nat.le_of_ble_eq_true rfl)⟩ (Nat.le_of_ble_eq_true rfl) dL_shift_104 ⟨show _ ≤ 600 by omega, show _ ≤ 6000 by omega⟩ (fun _ _ _ h => h.elim) (fun v9 ad9 τ9 hP => ?_)
            obtain ⟨rfl, h2, h3⟩ := hP
            replace h2 := h2.symm
            subst h2
            replace h3 := h3.symm
            subst h3
            rw [v_on hS hb, hon, if_neg (nI_ne1 (by omega))]
            refine a_callSH cx 2 (sp_L_left (j := nI j0) hH hI) ml_L_98 st_L_left ini_L cd_L_left rfl rfl (by decide +kernel) rfl rfl ⟨(Nat.le_of_ble_eq_true rfl), (Nat.le_of_ble_eq_true rfl)⟩ (Nat.le_of_ble_eq_true rfl) dL_shift_107 ⟨show _ ≤ 600 by omega, show _ ≤ 6000 by omega⟩ (fun _ _ _ h => h.elim) (fun v9 ad9 τ9 hP => ?_)
            obtain ⟨rfl, h2, h3⟩ := hP
            replace h2 := h2.symm
            subst h2
            replace h3 := h3.symm
            subst h3
            rw [v_left hS hj0, h75]
            refine a_bipush cx (v := 16) dL_shift_110 (by decide) ?_
            refine a_aload_n cx dL_shift_112 rfl rfl ?_
            refine a_iload cx dL_shift_113 rfl ?_
            refine a_callSH cx 2 (sp_L_on (b := nI b) hH hI) ml_L_107 st_L_on ini_L cd_L_on rfl rfl (by decide +kernel) rfl rfl ⟨(Nat.le_of_ble_eq_true rfl), (Nat.le_of_ble_eq_true rfl)⟩ (Nat.le_of_ble_eq_true rfl) dL_shift_115 ⟨show _ ≤ 600 by omega, show _ ≤ 6000 by omega⟩ (fun _ _ _ h => h.elim) (fun v9 ad9 τ9 hP => ?_)
            obtain ⟨rfl, h2, h3⟩ := hP
            replace h2 := h2.symm
            subst h2
            replace h3 := h3.symm
            subst h3
            rw [v_on hS hb, hon, if_neg (nI_ne1 (by omega))]
            refine a_imul cx dL_shift_118 ?_
            refine a_iadd cx dL_shift_119 ?_
            refine a_ist cx (b) (sh_92 hH) (rfl) (hb) (by decide)  dL_shift_120 ?_
            refine a_iinc6 cx (nI (b + 1)) dL_shift_121 (nI_1 b) (by decide) (by intro w h; first | (cases h; rfl) | (cases h; assumption) | (cases h; done)) ?_
            refine a_goto cx (tgt := 40) dL_shift_124 (by decide) ?_
            refine a_wide (by omega) (by omega) (ih f (b + 1, _, _, _) (Nat.lt_succ_self f) ⟨by first | omega | (dsimp only; omega), sh_p92 hH _, (did_s b x hx).2 c_56, fun k hk => ?_⟩)
            by_cases hkb : k = b
            · subst hkb; exact (va_up_self _ _ _).trans hlv.symm
            · exact (va_up_ne _ _ hkb).trans (hf2 k (by first | omega | (dsimp only at hk; omega)))
          · refine a_iconst cx (v := 1) dL_shift_59 (by decide) ?_
            refine a_goto cx (tgt := 64) dL_shift_60 (by decide) ?_
            refine a_iadd cx dL_shift_64 ?_
            refine a_istore4 cx dL_shift_65 (by decide) (by intro w h; first | (cases h; rfl) | (cases h; assumption) | (cases h; done)) ?_
            refine a_aload cx dL_shift_67 rfl ?_
            refine a_iload cx dL_shift_69 rfl ?_
            refine a_aload_n cx dL_shift_71 rfl rfl ?_
            refine a_iload cx dL_shift_72 rfl ?_
            refine a_callSH cx 2 (sp_L_on (b := nI b) hH hI) ml_L_107 st_L_on ini_L cd_L_on rfl rfl (by decide +kernel) rfl rfl ⟨(Nat.le_of_ble_eq_true rfl), (Nat.le_of_ble_eq_true rfl)⟩ (Nat.le_of_ble_eq_true rfl) dL_shift_74 ⟨show _ ≤ 600 by omega, show _ ≤ 6000 by omega⟩ (fun _ _ _ h => h.elim) (fun v9 ad9 τ9 hP => ?_)
            obtain ⟨rfl, h2, h3⟩ := hP
            replace h2 := h2.symm
            subst h2
            replace h3 := h3.symm
            subst h3
            rw [v_on hS hb, hon, if_neg (nI_ne1 (by omega))]
            refine a_if_ge cx (tgt := 84) dL_shift_77 (by decide) (fun c_77 => ?_) (fun c_77 => absurd (nI_pos' (by omega)) c_77)
            refine a_aload_n cx dL_shift_84 rfl rfl ?_
            refine a_iload cx dL_shift_85 rfl ?_
            refine a_callSH cx 2 (sp_L_reason (b := nI b) hH hI) ml_L_109 st_L_reason ini_L cd_L_reason rfl rfl (by decide +kernel) rfl rfl ⟨(Nat.le_of_ble_eq_true rfl), (Nat.le_of_ble_eq_true rfl)⟩ (Nat.le_of_ble_eq_true rfl) dL_shift_87 ⟨show _ ≤ 600 by omega, show _ ≤ 6000 by omega⟩ (fun _ _ _ h => h.elim) (fun v9 ad9 τ9 hP => ?_)
            obtain ⟨rfl, h2, h3⟩ := hP
            replace h2 := h2.symm
            subst h2
            replace h3 := h3.symm
            subst h3
            rw [v_reason hS hb]
            refine a_bipush cx (v := 102) dL_shift_90 (by decide) ?_
            refine a_icmp_ne cx (tgt := 100) dL_shift_92 (by decide) (fun c_92 => ?_) (fun c_92 => absurd c_92 hw)
            refine a_aload_n cx dL_shift_100 rfl rfl ?_
            refine a_aload_n cx dL_shift_101 rfl rfl ?_
            refine a_iload cx dL_shift_102 rfl ?_
            refine a_callSH cx 2 (sp_L_on (b := nI b) hH hI) ml_L_107 st_L_on ini_L cd_L_on rfl rfl (by decide +kernel) rfl rfl ⟨(Nat.le_of_ble_eq_true rfl), (Nat.le_of_ble_eq_true rfl)⟩ (Nat.le_of_ble_eq_true rfl) dL_shift_104 ⟨show _ ≤ 600 by omega, show _ ≤ 6000 by omega⟩ (fun _ _ _ h => h.elim) (fun v9 ad9 τ9 hP => ?_)
            obtain ⟨rfl, h2, h3⟩ := hP
            replace h2 := h2.symm
            subst h2
            replace h3 := h3.symm
            subst h3
            rw [v_on hS hb, hon, if_neg (nI_ne1 (by omega))]
            refine a_callSH cx 2 (sp_L_left (j := nI j0) hH hI) ml_L_98 st_L_left ini_L cd_L_left rfl rfl (by decide +kernel) rfl rfl ⟨(Nat.le_of_ble_eq_true rfl), (Nat.le_of_ble_eq_true rfl)⟩ (Nat.le_of_ble_eq_true rfl) dL_shift_107 ⟨show _ ≤ 600 by omega, show _ ≤ 6000 by omega⟩ (fun _ _ _ h => h.elim) (fun v9 ad9 τ9 hP => ?_)
            obtain ⟨rfl, h2, h3⟩ := hP
            replace h2 := h2.symm
            subst h2
            replace h3 := h3.symm
            subst h3
            rw [v_left hS hj0, h75]
            refine a_bipush cx (v := 16) dL_shift_110 (by decide) ?_
            refine a_aload_n cx dL_shift_112 rfl rfl ?_
            refine a_iload cx dL_shift_113 rfl ?_
            refine a_callSH cx 2 (sp_L_on (b := nI b) hH hI) ml_L_107 st_L_on ini_L cd_L_on rfl rfl (by decide +kernel) rfl rfl ⟨(Nat.le_of_ble_eq_true rfl), (Nat.le_of_ble_eq_true rfl)⟩ (Nat.le_of_ble_eq_true rfl) dL_shift_115 ⟨show _ ≤ 600 by omega, show _ ≤ 6000 by omega⟩ (fun _ _ _ h => h.elim) (fun v9 ad9 τ9 hP => ?_)
            obtain ⟨rfl, h2, h3⟩ := hP
            replace h2 := h2.symm
            subst h2
            replace h3 := h3.symm
            subst h3
            rw [v_on hS hb, hon, if_neg (nI_ne1 (by omega))]
            refine a_imul cx dL_shift_118 ?_
            refine a_iadd cx dL_shift_119 ?_
            refine a_ist cx (b) (sh_92 hH) (rfl) (hb) (by decide)  dL_shift_120 ?_
            refine a_iinc6 cx (nI (b + 1)) dL_shift_121 (nI_1 b) (by decide) (by intro w h; first | (cases h; rfl) | (cases h; assumption) | (cases h; done)) ?_
            refine a_goto cx (tgt := 40) dL_shift_124 (by decide) ?_
            refine a_wide (by omega) (by omega) (ih f (b + 1, _, _, _) (Nat.lt_succ_self f) ⟨by first | omega | (dsimp only; omega), sh_p92 hH _, (did_s b x hx).1 c_56, fun k hk => ?_⟩)
            by_cases hkb : k = b
            · subst hkb; exact (va_up_self _ _ _).trans hlv.symm
            · exact (va_up_ne _ _ hkb).trans (hf2 k (by first | omega | (dsimp only at hk; omega)))
  · have hi : i < n := int_lt (by omega) (by omega) c_18
    obtain ⟨f, rfl⟩ : ∃ f9, f = f9 + 1 := ⟨f - 1, by omega⟩
    refine a_aload_n cx dL_shift_21 rfl rfl ?_
    refine a_iload cx dL_shift_22 rfl ?_
    refine a_aload_n cx dL_shift_24 rfl rfl ?_
    refine a_iload cx dL_shift_25 rfl ?_
    refine a_callSH cx 2 (sp_L_life (j := nI i) hH hI) ml_L_114 st_L_life ini_L cd_L_life rfl rfl (by decide +kernel) rfl rfl ⟨(Nat.le_of_ble_eq_true rfl), (Nat.le_of_ble_eq_true rfl)⟩ (Nat.le_of_ble_eq_true rfl) dL_shift_27 ⟨show _ ≤ 600 by omega, show _ ≤ 6000 by omega⟩ (fun _ _ _ h => h.elim) (fun v9 ad9 τ9 hP => ?_)
    obtain ⟨rfl, h2, h3⟩ := hP
    replace h2 := h2.symm
    subst h2
    replace h3 := h3.symm
    subst h3
    rw [v_life hS hi]
    refine a_ist cx (i) (sh_91 hH) (rfl) (hi) (by omega)  dL_shift_30 ?_
    refine a_iinc6 cx (nI (i + 1)) dL_shift_31 (nI_1 i) (by decide) (by intro w h; first | (cases h; rfl) | (cases h; assumption) | (cases h; done)) ?_
    refine a_goto cx (tgt := 15) dL_shift_34 (by decide) ?_
    refine a_wide (by omega) (by omega) (ih f (i + 1, _, _) (Nat.lt_succ_self f) ⟨by first | omega | (dsimp only; omega), sh_p91 hH _, fun k hk => ?_⟩)
    by_cases hki : k = i
    · subst hki; exact va_up_self _ _ _
    · exact (va_up_ne _ _ hki).trans (hf1 k (by first | omega | (dsimp only at hk; omega)))

