/-! the law's rows: 84 runs, 85 lines, 86 wanted, 87 users, 88 trained, 89 there, 90 places */ -/
def laR (g : GW) (n : Nat) (W : ME) : RH := fun r => if r = 84 then some (arI g 2 (W 84)) else if r = 85 then some (arI g n (W 85)) else if r = 86 then some (arI g n (W 86)) else if r = 87 then some (arI g n (W 87)) else if r = 88 then some (arZ g 10 (W 88)) else if r = 89 then some (arZ g 10 (W 89)) else if r = 90 then some (arC g n (W 90)) else none
section LAR
variable {g : GW} {ad : AD} {τ : RH} {Lv : Nat → Bool} {C B W : ME} {n T i b : Nat}
theorem la_84 (hH : HH g ad Lv C (laR g n W) τ) : τ 84 = some (arI g 2 (W 84)) := hH.2 84 (by decide)
theorem la_85 (hH : HH g ad Lv C (laR g n W) τ) : τ 85 = some (arI g n (W 85)) := hH.2 85 (by decide)
theorem la_86 (hH : HH g ad Lv C (laR g n W) τ) : τ 86 = some (arI g n (W 86)) := hH.2 86 (by decide)
theorem la_87 (hH : HH g ad Lv C (laR g n W) τ) : τ 87 = some (arI g n (W 87)) := hH.2 87 (by decide)
theorem la_88 (hH : HH g ad Lv C (laR g n W) τ) : τ 88 = some (arZ g 10 (W 88)) := hH.2 88 (by decide)
theorem la_89 (hH : HH g ad Lv C (laR g n W) τ) : τ 89 = some (arZ g 10 (W 89)) := hH.2 89 (by decide)
theorem la_90 (hH : HH g ad Lv C (laR g n W) τ) : τ 90 = some (arC g n (W 90)) := hH.2 90 (by decide)
theorem v_c100 (h : lwS n T W Lv C B) (hj : i < n) : rr (kCount C (nI i) 100) (cCount C (tn (nI i)) 100) = B 76 i := by rw [v_count h hj (Or.inl rfl)]; unfold mCount; rw [if_pos rfl]
theorem v_c109 (h : lwS n T W Lv C B) (hj : i < n) : rr (kCount C (nI i) 109) (cCount C (tn (nI i)) 109) = B 77 i := by rw [v_count h hj (Or.inr (Or.inl rfl))]; unfold mCount; rw [if_neg (by decide), if_pos rfl]
theorem v_c108 (h : lwS n T W Lv C B) (hj : i < n) : rr (kCount C (nI i) 108) (cCount C (tn (nI i)) 108) = B 78 i := by rw [v_count h hj (Or.inr (Or.inr (Or.inl rfl)))]; unfold mCount; rw [if_neg (by decide), if_neg (by decide), if_pos rfl]
theorem v_c111 (h : lwS n T W Lv C B) (hj : i < n) : rr (kCount C (nI i) 111) (cCount C (tn (nI i)) 111) = B 79 i := by rw [v_count h hj (Or.inr (Or.inr (Or.inr rfl)))]; unfold mCount; rw [if_neg (by decide), if_neg (by decide), if_neg (by decide)]
def suF (B : ME) (b : Nat) : Nat → Int32 := fun p => if B 70 p = nI b then B 75 p + B 76 p + B 77 p + B 79 p else 0
def suL (B : ME) (b : Nat) : Nat → Int32 := fun p => if B 70 p = nI b then B 78 p else 0
def suO (B : ME) (b : Nat) : Nat → Int32 := fun p => if B 70 p = nI b then B 79 p else 0
theorem psum_s (f : Nat → Int32) (k : Nat) : psum f (k + 1) = psum f k + f k := rfl
theorem lwS.w85 (h : lwS n T W Lv C B) (hi : i < n) : B 70 i = W 85 i := by
  obtain ⟨⟨b, h1, h2, h3⟩, -⟩ := h.2.2.1 i hi
  rw [h2, h3]
theorem su_ok (h : lwS n T W Lv C B) (hb : b < 2) {x y z : Int32} (hx : x = B 65 b + psum (suF B b) n) (hy : y = psum (suL B b) n) (hz : z = psum (suO B b) n) : x + y - z = W 84 b := by
  have h1 := h.2.2.2.2.2.2.2.1 b hb
  rw [← (h.2.2.2.2.2.1 b hb).2, ← h1]
  have e : psum (acG B b) n = psum (suF B b) n + psum (suL B b) n - psum (suO B b) n := by
    rw [← psum_add, ← psum_sub]
    refine psum_cong (fun k _ => ?_)
    unfold acG suF suL suO
    by_cases q : B 70 k = nI b
    · rw [if_pos q, if_pos q, if_pos q, if_pos q]; grind
    · rw [if_neg q, if_neg q, if_neg q, if_neg q]; rfl
  rw [e, hx, hy, hz]
  grind
theorem nx_a (h : lwS n T W Lv C B) (hT : T ≤ 200) (hi : i < n) (h1 : B 75 i ≤ 0) (h2 : ¬ rr (kNext C (nI i)) (cNext C (tn (nI i))) < 0) : False := by
  obtain ⟨l, l1, l2, ⟨hl, hv⟩ | ⟨hl, v, v1, v2⟩⟩ := h.nx hT hi
  · rw [hv] at h2; exact h2 (by decide)
  · rw [l2, show (0 : Int32) = nI 0 from rfl] at h1
    have := le_nI h1 (by omega) (by omega)
    omega
theorem nx_b (h : lwS n T W Lv C B) (hT : T ≤ 200) (hi : i < n) (h1 : ¬ B 75 i ≤ 0) (h2 : rr (kNext C (nI i)) (cNext C (tn (nI i))) < 0) : False := by
  obtain ⟨l, l1, l2, ⟨hl, hv⟩ | ⟨hl, v, v1, v2⟩⟩ := h.nx hT hi
  · subst hl
    rw [l2] at h1; exact h1 (by decide)
  · rw [v2] at h2
    exact nI_pos (by omega) h2
end LAR
set_option maxHeartbeats 4000000 in
set_option maxRecDepth 100000 in
/-- sums -/
theorem sp_L_sums {l : Launch} {g : GW} {ad : AD} {τ : RH} {Lv : Nat → Bool} {C B W : ME} {n T : Nat} (hH : HH g ad Lv C (laR g n W) τ) (hS : lwS n T W Lv C B) (hT : T ≤ 200) : Sp l g yL_sums (.code yL_sums cL_sums 11 (some .boolean)) (rmv 10 600 6000) [.ref (ad 0), .ref (ad 85), .ref (ad 86), .int (nI n), .ref (ad 84)] ad τ 600 6000 (fun v ad' τ' => v = some (.int 1) ∧ ad' = ad ∧ ∃ C', HH g ad Lv C' (laR g n W) τ' ∧ lwS n T W Lv C' B) (NoX) := by
  refine Sp.of 6 [some (.ref (ad 0)), some (.ref (ad 85)), some (.ref (ad 86)), some (.int (nI n)), some (.ref (ad 84)), none, none, none, none, none, none] (by decide +kernel) (Nat.le_of_ble_eq_true rfl) rfl ?_
  intro p e s m args below meth c A cx hout hr hnm
  refine a_iconst cx (v := 0) dL_sums_0 (by decide) ?_
  refine a_istore5 cx dL_sums_1 (by decide) (by intro w h; first | (cases h; rfl) | (cases h; assumption) | (cases h; done)) ?_
  refine a_loopG (σ := Nat × RH × ME × Option Value × Option Value × Option Value × Option Value × Option Value) (fun f s => s.1 + f = 2 ∧ HH g ad Lv s.2.2.1 (laR g n W) s.2.1 ∧ lwS n T W Lv s.2.2.1 B) (fun _ => ad) (fun s => s.2.1) (fun s => [some (.ref (ad 0)), some (.ref (ad 85)), some (.ref (ad 86)), some (.int (nI n)), some (.ref (ad 84)), some (.int (nI s.1)), s.2.2.2.1, s.2.2.2.2.1, s.2.2.2.2.2.1, s.2.2.2.2.2.2.1, s.2.2.2.2.2.2.2]) (fun s => 250 * s.1) (fun s => 2500 * s.1) 2 (0, _, _, none, none, none, none, none) ⟨rfl, hH, hS⟩ rfl rfl rfl (Nat.le_refl _) (Nat.le_refl _) ?_
  have h8 := hS.n8
  clear hH hS
  rintro f0 ⟨b, τ, C, z6, z7, z8, z9, z10⟩ ⟨hb0, hH, hS⟩ ih0
  dsimp only at hb0 hH hS ⊢
  have hI := hS.I
  refine a_iload cx dL_sums_3 rfl ?_
  refine a_iconst cx (v := 2) dL_sums_5 (by decide) ?_
  refine a_icmp_ge cx (tgt := 221) dL_sums_6 (by decide) (fun c_6 => ?_) (fun c_6 => ?_)
  · refine a_iconst cx (v := 1) dL_sums_221 (by decide) ?_
    exact a_zret cx hr dL_sums_222 (by first | rfl | decide) (by omega) (by omega) ⟨rfl, rfl, _, hH, hS⟩
  · have hb : b < 2 := int_lt (b := b) (a := 2) (by omega) (by omega) c_6
    obtain ⟨f0, rfl⟩ : ∃ f9, f0 = f9 + 1 := ⟨f0 - 1, by omega⟩
    refine a_aload_n cx dL_sums_9 rfl rfl ?_
    refine a_iload cx dL_sums_10 rfl ?_
    refine a_callSH cx 2 (sp_L_reserve (b := nI b) hH hI) ml_L_95 st_L_reserve ini_L cd_L_reserve rfl rfl (by decide +kernel) rfl rfl ⟨(Nat.le_of_ble_eq_true rfl), (Nat.le_of_ble_eq_true rfl)⟩ (Nat.le_of_ble_eq_true rfl) dL_sums_12 ⟨show _ ≤ 600 by omega, show _ ≤ 6000 by omega⟩ (fun _ _ _ h => h.elim) (fun v9 ad9 τ9 hP => ?_)
    obtain ⟨rfl, h2, h3⟩ := hP
    replace h2 := h2.symm
    subst h2
    replace h3 := h3.symm
    subst h3
    rw [v_reserve hS hb]
    refine a_sipush cx (v := -1002) dL_sums_15 (by decide) ?_
    refine a_icmp_ne cx (tgt := 24) dL_sums_18 (by decide) (fun c_18 => ?_) (fun c_18 => ?_)
    · refine a_aload_n cx dL_sums_24 rfl rfl ?_
      refine a_iload cx dL_sums_25 rfl ?_
      refine a_callSH cx 2 (sp_L_reserve (b := nI b) hH hI) ml_L_95 st_L_reserve ini_L cd_L_reserve rfl rfl (by decide +kernel) rfl rfl ⟨(Nat.le_of_ble_eq_true rfl), (Nat.le_of_ble_eq_true rfl)⟩ (Nat.le_of_ble_eq_true rfl) dL_sums_27 ⟨show _ ≤ 600 by omega, show _ ≤ 6000 by omega⟩ (fun _ _ _ h => h.elim) (fun v9 ad9 τ9 hP => ?_)
      obtain ⟨rfl, h2, h3⟩ := hP
      replace h2 := h2.symm
      subst h2
      replace h3 := h3.symm
      subst h3
      rw [v_reserve hS hb]
      refine a_istore6 cx dL_sums_30 (by decide) (by intro w h; first | (cases h; rfl) | (cases h; assumption) | (cases h; done)) ?_
      refine a_iconst cx (v := 0) dL_sums_32 (by decide) ?_
      refine a_istore7 cx dL_sums_33 (by decide) (by intro w h; first | (cases h; rfl) | (cases h; assumption) | (cases h; done)) ?_
      refine a_iconst cx (v := 0) dL_sums_35 (by decide) ?_
      refine a_istore8 cx dL_sums_36 (by decide) (by intro w h; first | (cases h; rfl) | (cases h; assumption) | (cases h; done)) ?_
      refine a_iconst cx (v := 0) dL_sums_38 (by decide) ?_
      refine a_istore9 cx dL_sums_39 (by decide) (by intro w h; first | (cases h; rfl) | (cases h; assumption) | (cases h; done)) ?_
      refine a_loopG (σ := Nat × RH × ME × Int32 × Int32 × Int32 × Option Value) (fun f s => s.1 + f = n ∧ HH g ad Lv s.2.2.1 (laR g n W) s.2.1 ∧ lwS n T W Lv s.2.2.1 B ∧ s.2.2.2.1 = B 65 b + psum (suF B b) s.1 ∧ s.2.2.2.2.1 = psum (suL B b) s.1 ∧ s.2.2.2.2.2.1 = psum (suO B b) s.1) (fun _ => ad) (fun s => s.2.1) (fun s => [some (.ref (ad 0)), some (.ref (ad 85)), some (.ref (ad 86)), some (.int (nI n)), some (.ref (ad 84)), some (.int (nI b)), some (.int s.2.2.2.1), some (.int s.2.2.2.2.1), some (.int s.2.2.2.2.2.1), some (.int (nI s.1)), s.2.2.2.2.2.2]) (fun s => 250 * b + 4 + 24 * s.1) (fun s => 2500 * b + 24 + 144 * s.1) n (0, _, _, _, 0, 0, _) ⟨Nat.zero_add _, hH, hS, (Int32.add_zero _).symm, rfl, rfl⟩ rfl rfl rfl (by dsimp only; omega) (by dsimp only; omega) ?_
      clear hH hS hI
      rintro f ⟨i, τ, C, x, y, z, z10⟩ ⟨hi0, hH, hS, hx, hy, hz⟩ ih
      dsimp only at hi0 hH hS hx hy hz ⊢
      have hI := hS.I
      refine a_iload cx dL_sums_41 rfl ?_
      refine a_iload_n cx dL_sums_43 rfl rfl ?_
      refine a_icmp_ge cx (tgt := 197) dL_sums_44 (by decide) (fun c_44 => ?_) (fun c_44 => ?_)
      · have hin : i = n := by have := le_nI c_44 (by omega) (by omega); omega
        subst hin
        have hsu := su_ok hS hb hx hy hz
        refine a_iload cx dL_sums_197 rfl ?_
        refine a_iload cx dL_sums_199 rfl ?_
        refine a_iadd cx dL_sums_201 ?_
        refine a_iload cx dL_sums_202 rfl ?_
        refine a_isub cx dL_sums_204 ?_
        refine a_aload cx dL_sums_205 rfl ?_
        refine a_iload cx dL_sums_207 rfl ?_
        refine a_ild cx (b) (la_84 hH) (rfl) (hb) (by omega) dL_sums_209 ?_
        refine a_icmp_eq cx (tgt := 215) dL_sums_210 (by decide) (fun c_210 => ?_) (fun c_210 => absurd hsu c_210)
        refine a_iinc5 cx (nI (b + 1)) dL_sums_215 (nI_1 b) (by decide) (by intro w h; first | (cases h; rfl) | (cases h; assumption) | (cases h; done)) ?_
        refine a_goto cx (tgt := 3) dL_sums_218 (by decide) ?_
        exact a_wide (by omega) (by omega) (ih0 f0 (b + 1, _, _, _, _, _, _, _) (Nat.lt_succ_self f0) ⟨by first | omega | (dsimp only; omega), hH, hS⟩)
      · have hi : i < n := int_lt (by omega) (by omega) c_44
        obtain ⟨f, rfl⟩ : ∃ f9, f = f9 + 1 := ⟨f - 1, by omega⟩
        refine a_aload_n cx dL_sums_47 rfl rfl ?_
        refine a_iload cx dL_sums_48 rfl ?_
        refine a_ild cx (i) (la_85 hH) (rfl) (hi) (by omega) dL_sums_50 ?_
        refine a_iload cx dL_sums_51 rfl ?_
        refine a_icmp_eq cx (tgt := 59) dL_sums_53 (by decide) (fun c_53 => ?_) (fun c_53 => ?_)
        · refine a_aload_n cx dL_sums_59 rfl rfl ?_
          refine a_iload cx dL_sums_60 rfl ?_
          have h70 : B 70 i = nI b := (hS.w85 hi).trans c_53
          refine a_callSH cx 2 (sp_L_left (j := nI i) hH hI) ml_L_98 st_L_left ini_L cd_L_left rfl rfl (by decide +kernel) rfl rfl ⟨(Nat.le_of_ble_eq_true rfl), (Nat.le_of_ble_eq_true rfl)⟩ (Nat.le_of_ble_eq_true rfl) dL_sums_62 ⟨show _ ≤ 600 by omega, show _ ≤ 6000 by omega⟩ (fun _ _ _ h => h.elim) (fun v9 ad9 τ9 hP => ?_)
          obtain ⟨rfl, h2, h3⟩ := hP
          replace h2 := h2.symm
          subst h2
          replace h3 := h3.symm
          subst h3
          rw [v_left hS hi]
          refine a_aload_n cx dL_sums_65 rfl rfl ?_
          refine a_iload cx dL_sums_66 rfl ?_
          refine a_bipush cx (v := 100) dL_sums_68 (by decide) ?_
          refine a_callSH cx 3 (sp_L_count (j := nI i) (x := 100) hH hI) ml_L_100 st_L_count ini_L cd_L_count rfl rfl (by decide +kernel) rfl rfl ⟨(Nat.le_of_ble_eq_true rfl), (Nat.le_of_ble_eq_true rfl)⟩ (Nat.le_of_ble_eq_true rfl) dL_sums_70 ⟨show _ ≤ 600 by omega, show _ ≤ 6000 by omega⟩ (fun _ _ _ h => h.elim) (fun v9 ad9 τ9 hP => ?_)
          obtain ⟨rfl, h2, h3⟩ := hP
          replace h2 := h2.symm
          subst h2
          replace h3 := h3.symm
          subst h3
          rw [v_c100 hS hi]
          refine a_iadd cx dL_sums_73 ?_
          refine a_aload_n cx dL_sums_74 rfl rfl ?_
          refine a_iload cx dL_sums_75 rfl ?_
          refine a_bipush cx (v := 109) dL_sums_77 (by decide) ?_
          refine a_callSH cx 3 (sp_L_count (j := nI i) (x := 109) hH hI) ml_L_100 st_L_count ini_L cd_L_count rfl rfl (by decide +kernel) rfl rfl ⟨(Nat.le_of_ble_eq_true rfl), (Nat.le_of_ble_eq_true rfl)⟩ (Nat.le_of_ble_eq_true rfl) dL_sums_79 ⟨show _ ≤ 600 by omega, show _ ≤ 6000 by omega⟩ (fun _ _ _ h => h.elim) (fun v9 ad9 τ9 hP => ?_)
          obtain ⟨rfl, h2, h3⟩ := hP
          replace h2 := h2.symm
          subst h2
          replace h3 := h3.symm
          subst h3
          rw [v_c109 hS hi]
          refine a_iadd cx dL_sums_82 ?_
          refine a_aload_n cx dL_sums_83 rfl rfl ?_
          refine a_iload cx dL_sums_84 rfl ?_
          refine a_bipush cx (v := 111) dL_sums_86 (by decide) ?_
          refine a_callSH cx 3 (sp_L_count (j := nI i) (x := 111) hH hI) ml_L_100 st_L_count ini_L cd_L_count rfl rfl (by decide +kernel) rfl rfl ⟨(Nat.le_of_ble_eq_true rfl), (Nat.le_of_ble_eq_true rfl)⟩ (Nat.le_of_ble_eq_true rfl) dL_sums_88 ⟨show _ ≤ 600 by omega, show _ ≤ 6000 by omega⟩ (fun _ _ _ h => h.elim) (fun v9 ad9 τ9 hP => ?_)
          obtain ⟨rfl, h2, h3⟩ := hP
          replace h2 := h2.symm
          subst h2
          replace h3 := h3.symm
          subst h3
          rw [v_c111 hS hi]
          refine a_iadd cx dL_sums_91 ?_
          refine a_istore10 cx dL_sums_92 (by decide) (by intro w h; first | (cases h; rfl) | (cases h; assumption) | (cases h; done)) ?_
          refine a_aload_n cx dL_sums_94 rfl rfl ?_
          refine a_iload cx dL_sums_95 rfl ?_
          refine a_callSH cx 2 (sp_L_left (j := nI i) hH hI) ml_L_98 st_L_left ini_L cd_L_left rfl rfl (by decide +kernel) rfl rfl ⟨(Nat.le_of_ble_eq_true rfl), (Nat.le_of_ble_eq_true rfl)⟩ (Nat.le_of_ble_eq_true rfl) dL_sums_97 ⟨show _ ≤ 600 by omega, show _ ≤ 6000 by omega⟩ (fun _ _ _ h => h.elim) (fun v9 ad9 τ9 hP => ?_)
          obtain ⟨rfl, h2, h3⟩ := hP
          replace h2 := h2.symm
          subst h2
          replace h3 := h3.symm
          subst h3
          rw [v_left hS hi]
          refine a_aload_n cx dL_sums_100 rfl rfl ?_
          refine a_iload cx dL_sums_101 rfl ?_
          refine a_callSH cx 2 (sp_L_leftAnew (j := nI i) hH hI) ml_L_103 st_L_leftAnew ini_L cd_L_leftAnew rfl rfl (by decide +kernel) rfl rfl ⟨(Nat.le_of_ble_eq_true rfl), (Nat.le_of_ble_eq_true rfl)⟩ (Nat.le_of_ble_eq_true rfl) dL_sums_103 ⟨show _ ≤ 600 by omega, show _ ≤ 6000 by omega⟩ (fun _ _ _ h => h.elim) (fun v9 ad9 τ9 hP => ?_)
          obtain ⟨rfl, hP⟩ := hP
          rw [v_anew hS hi]
          obtain ⟨-, h2, hH9⟩ : _ ∧ _ ∧ _ := hP.resolve_right (fun q => q.1 (k_prop hS hi))
          replace h2 := h2.symm
          subst h2
          replace hH := hH9
          clear hH9
          replace hS := hS.anew hi
          have hI := hS.I
          refine a_icmp_ne cx (tgt := 123) dL_sums_106 (by decide) (fun c_106 => absurd rfl c_106) (fun c_106 => ?_)
          refine a_iload cx dL_sums_109 rfl ?_
          refine a_if_eq cx (tgt := 125) dL_sums_111 (by decide) (fun c_111 => ?_) (fun c_111 => ?_)
          · refine a_aload_n cx dL_sums_125 rfl rfl ?_
            refine a_iload cx dL_sums_126 rfl ?_
            refine a_callSH cx 2 (sp_L_left (j := nI i) hH hI) ml_L_98 st_L_left ini_L cd_L_left rfl rfl (by decide +kernel) rfl rfl ⟨(Nat.le_of_ble_eq_true rfl), (Nat.le_of_ble_eq_true rfl)⟩ (Nat.le_of_ble_eq_true rfl) dL_sums_128 ⟨show _ ≤ 600 by omega, show _ ≤ 6000 by omega⟩ (fun _ _ _ h => h.elim) (fun v9 ad9 τ9 hP => ?_)
            obtain ⟨rfl, h2, h3⟩ := hP
            replace h2 := h2.symm
            subst h2
            replace h3 := h3.symm
            subst h3
            rw [v_left hS hi]
            refine a_if_le cx (tgt := 138) dL_sums_131 (by decide) (fun c_131 => ?_) (fun c_131 => ?_)
            · refine a_iconst cx (v := 0) dL_sums_138 (by decide) ?_
              refine a_aload_n cx dL_sums_139 rfl rfl ?_
              refine a_iload cx dL_sums_140 rfl ?_
              refine a_callSH cx 2 (sp_L_nextAt (j := nI i) hH hI) ml_L_105 st_L_nextAt ini_L cd_L_nextAt rfl rfl (by decide +kernel) rfl rfl ⟨(Nat.le_of_ble_eq_true rfl), (Nat.le_of_ble_eq_true rfl)⟩ (Nat.le_of_ble_eq_true rfl) dL_sums_142 ⟨show _ ≤ 600 by omega, show _ ≤ 6000 by omega⟩ (fun _ _ _ h => h.elim) (fun v9 ad9 τ9 hP => ?_)
              obtain ⟨rfl, h2, h3⟩ := hP
              replace h2 := h2.symm
              subst h2
              replace h3 := h3.symm
              subst h3
              refine a_if_lt cx (tgt := 152) dL_sums_145 (by decide) (fun c_145 => ?_) (fun c_145 => (nx_a hS hT hi c_131 c_145).elim)
              refine a_iconst cx (v := 0) dL_sums_152 (by decide) ?_
              refine a_icmp_eq cx (tgt := 158) dL_sums_153 (by decide) (fun c_153 => ?_) (fun c_153 => absurd rfl c_153)
              refine a_iload cx dL_sums_158 rfl ?_
              refine a_iload cx dL_sums_160 rfl ?_
              refine a_iadd cx dL_sums_162 ?_
              refine a_istore6 cx dL_sums_163 (by decide) (by intro w h; first | (cases h; rfl) | (cases h; assumption) | (cases h; done)) ?_
              refine a_iload cx dL_sums_165 rfl ?_
              refine a_aload_n cx dL_sums_167 rfl rfl ?_
              refine a_iload cx dL_sums_168 rfl ?_
              refine a_bipush cx (v := 108) dL_sums_170 (by decide) ?_
              refine a_callSH cx 3 (sp_L_count (j := nI i) (x := 108) hH hI) ml_L_100 st_L_count ini_L cd_L_count rfl rfl (by decide +kernel) rfl rfl ⟨(Nat.le_of_ble_eq_true rfl), (Nat.le_of_ble_eq_true rfl)⟩ (Nat.le_of_ble_eq_true rfl) dL_sums_172 ⟨show _ ≤ 600 by omega, show _ ≤ 6000 by omega⟩ (fun _ _ _ h => h.elim) (fun v9 ad9 τ9 hP => ?_)
              obtain ⟨rfl, h2, h3⟩ := hP
              replace h2 := h2.symm
              subst h2
              replace h3 := h3.symm
              subst h3
              rw [v_c108 hS hi]
              refine a_iadd cx dL_sums_175 ?_
              refine a_istore7 cx dL_sums_176 (by decide) (by intro w h; first | (cases h; rfl) | (cases h; assumption) | (cases h; done)) ?_
              refine a_iload cx dL_sums_178 rfl ?_
              refine a_aload_n cx dL_sums_180 rfl rfl ?_
              refine a_iload cx dL_sums_181 rfl ?_
              refine a_bipush cx (v := 111) dL_sums_183 (by decide) ?_
              refine a_callSH cx 3 (sp_L_count (j := nI i) (x := 111) hH hI) ml_L_100 st_L_count ini_L cd_L_count rfl rfl (by decide +kernel) rfl rfl ⟨(Nat.le_of_ble_eq_true rfl), (Nat.le_of_ble_eq_true rfl)⟩ (Nat.le_of_ble_eq_true rfl) dL_sums_185 ⟨show _ ≤ 600 by omega, show _ ≤ 6000 by omega⟩ (fun _ _ _ h => h.elim) (fun v9 ad9 τ9 hP => ?_)
              obtain ⟨rfl, h2, h3⟩ := hP
              replace h2 := h2.symm
              subst h2
              replace h3 := h3.symm
              subst h3
              rw [v_c111 hS hi]
              refine a_iadd cx dL_sums_188 ?_
              refine a_istore8 cx dL_sums_189 (by decide) (by intro w h; first | (cases h; rfl) | (cases h; assumption) | (cases h; done)) ?_
              refine a_iinc9 cx (nI (i + 1)) dL_sums_191 (nI_1 i) (by decide) (by intro w h; first | (cases h; rfl) | (cases h; assumption) | (cases h; done)) ?_
              refine a_goto cx (tgt := 41) dL_sums_194 (by decide) ?_
              exact a_wide (by omega) (by omega) (ih f (i + 1, _, _, _, _, _, _) (Nat.lt_succ_self f) ⟨by first | omega | (dsimp only; omega), hH, hS, by first | rw [hx, psum_s, show suF B b i = _ from if_pos h70, Int32.add_assoc] | (dsimp only; rw [hx, psum_s, show suF B b i = _ from if_pos h70, Int32.add_assoc]), by first | rw [hy, psum_s, show suL B b i = _ from if_pos h70] | (dsimp only; rw [hy, psum_s, show suL B b i = _ from if_pos h70]), by first | rw [hz, psum_s, show suO B b i = _ from if_pos h70] | (dsimp only; rw [hz, psum_s, show suO B b i = _ from if_pos h70])⟩)
            · refine a_iconst cx (v := 1) dL_sums_134 (by decide) ?_
              refine a_goto cx (tgt := 139) dL_sums_135 (by decide) ?_
              refine a_aload_n cx dL_sums_139 rfl rfl ?_
              refine a_iload cx dL_sums_140 rfl ?_
              refine a_callSH cx 2 (sp_L_nextAt (j := nI i) hH hI) ml_L_105 st_L_nextAt ini_L cd_L_nextAt rfl rfl (by decide +kernel) rfl rfl ⟨(Nat.le_of_ble_eq_true rfl), (Nat.le_of_ble_eq_true rfl)⟩ (Nat.le_of_ble_eq_true rfl) dL_sums_142 ⟨show _ ≤ 600 by omega, show _ ≤ 6000 by omega⟩ (fun _ _ _ h => h.elim) (fun v9 ad9 τ9 hP => ?_)
              obtain ⟨rfl, h2, h3⟩ := hP
              replace h2 := h2.symm
              subst h2
              replace h3 := h3.symm
              subst h3
              refine a_if_lt cx (tgt := 152) dL_sums_145 (by decide) (fun c_145 => (nx_b hS hT hi c_131 c_145).elim) (fun c_145 => ?_)
              refine a_iconst cx (v := 1) dL_sums_148 (by decide) ?_
              refine a_goto cx (tgt := 153) dL_sums_149 (by decide) ?_
              refine a_icmp_eq cx (tgt := 158) dL_sums_153 (by decide) (fun c_153 => ?_) (fun c_153 => absurd rfl c_153)
              refine a_iload cx dL_sums_158 rfl ?_
              refine a_iload cx dL_sums_160 rfl ?_
              refine a_iadd cx dL_sums_162 ?_
              refine a_istore6 cx dL_sums_163 (by decide) (by intro w h; first | (cases h; rfl) | (cases h; assumption) | (cases h; done)) ?_
              refine a_iload cx dL_sums_165 rfl ?_
              refine a_aload_n cx dL_sums_167 rfl rfl ?_
              refine a_iload cx dL_sums_168 rfl ?_
              refine a_bipush cx (v := 108) dL_sums_170 (by decide) ?_
              refine a_callSH cx 3 (sp_L_count (j := nI i) (x := 108) hH hI) ml_L_100 st_L_count ini_L cd_L_count rfl rfl (by decide +kernel) rfl rfl ⟨(Nat.le_of_ble_eq_true rfl), (Nat.le_of_ble_eq_true rfl)⟩ (Nat.le_of_ble_eq_true rfl) dL_sums_172 ⟨show _ ≤ 600 by omega, show _ ≤ 6000 by omega⟩ (fun _ _ _ h => h.elim) (fun v9 ad9 τ9 hP => ?_)
              obtain ⟨rfl, h2, h3⟩ := hP
              replace h2 := h2.symm
              subst h2
              replace h3 := h3.symm
              subst h3
              rw [v_c108 hS hi]
              refine a_iadd cx dL_sums_175 ?_
              refine a_istore7 cx dL_sums_176 (by decide) (by intro w h; first | (cases h; rfl) | (cases h; assumption) | (cases h; done)) ?_
              refine a_iload cx dL_sums_178 rfl ?_
              refine a_aload_n cx dL_sums_180 rfl rfl ?_
              refine a_iload cx dL_sums_181 rfl ?_
              refine a_bipush cx (v := 111) dL_sums_183 (by decide) ?_
              refine a_callSH cx 3 (sp_L_count (j := nI i) (x := 111) hH hI) ml_L_100 st_L_count ini_L cd_L_count rfl rfl (by decide +kernel) rfl rfl ⟨(Nat.le_of_ble_eq_true rfl), (Nat.le_of_ble_eq_true rfl)⟩ (Nat.le_of_ble_eq_true rfl) dL_sums_185 ⟨show _ ≤ 600 by omega, show _ ≤ 6000 by omega⟩ (fun _ _ _ h => h.elim) (fun v9 ad9 τ9 hP => ?_)
              obtain ⟨rfl, h2, h3⟩ := hP
              replace h2 := h2.symm
              subst h2
              replace h3 := h3.symm
              subst h3
              rw [v_c111 hS hi]
              refine a_iadd cx dL_sums_188 ?_
              refine a_istore8 cx dL_sums_189 (by decide) (by intro w h; first | (cases h; rfl) | (cases h; assumption) | (cases h; done)) ?_
              refine a_iinc9 cx (nI (i + 1)) dL_sums_191 (nI_1 i) (by decide) (by intro w h; first | (cases h; rfl) | (cases h; assumption) | (cases h; done)) ?_
              refine a_goto cx (tgt := 41) dL_sums_194 (by decide) ?_
              exact a_wide (by omega) (by omega) (ih f (i + 1, _, _, _, _, _, _) (Nat.lt_succ_self f) ⟨by first | omega | (dsimp only; omega), hH, hS, by first | rw [hx, psum_s, show suF B b i = _ from if_pos h70, Int32.add_assoc] | (dsimp only; rw [hx, psum_s, show suF B b i = _ from if_pos h70, Int32.add_assoc]), by first | rw [hy, psum_s, show suL B b i = _ from if_pos h70] | (dsimp only; rw [hy, psum_s, show suL B b i = _ from if_pos h70]), by first | rw [hz, psum_s, show suO B b i = _ from if_pos h70] | (dsimp only; rw [hz, psum_s, show suO B b i = _ from if_pos h70])⟩)
          · refine a_iload cx dL_sums_114 rfl ?_
            refine a_aload_n cx dL_sums_116 rfl rfl ?_
            refine a_iload cx dL_sums_117 rfl ?_
            refine a_ild cx (i) (la_86 hH) (rfl) (hi) (by omega) dL_sums_119 ?_
            refine a_icmp_eq cx (tgt := 125) dL_sums_120 (by decide) (fun c_120 => ?_) (fun c_120 => (hS.2.2.2.2.2.2.1 i hi).elim (fun q => absurd q c_111) (fun q => absurd (q.trans (hS.2.2.1 i hi).2.2) c_120))
            refine a_aload_n cx dL_sums_125 rfl rfl ?_
            refine a_iload cx dL_sums_126 rfl ?_
            refine a_callSH cx 2 (sp_L_left (j := nI i) hH hI) ml_L_98 st_L_left ini_L cd_L_left rfl rfl (by decide +kernel) rfl rfl ⟨(Nat.le_of_ble_eq_true rfl), (Nat.le_of_ble_eq_true rfl)⟩ (Nat.le_of_ble_eq_true rfl) dL_sums_128 ⟨show _ ≤ 600 by omega, show _ ≤ 6000 by omega⟩ (fun _ _ _ h => h.elim) (fun v9 ad9 τ9 hP => ?_)
            obtain ⟨rfl, h2, h3⟩ := hP
            replace h2 := h2.symm
            subst h2
            replace h3 := h3.symm
            subst h3
            rw [v_left hS hi]
            refine a_if_le cx (tgt := 138) dL_sums_131 (by decide) (fun c_131 => ?_) (fun c_131 => ?_)
            · refine a_iconst cx (v := 0) dL_sums_138 (by decide) ?_
              refine a_aload_n cx dL_sums_139 rfl rfl ?_
              refine a_iload cx dL_sums_140 rfl ?_
              refine a_callSH cx 2 (sp_L_nextAt (j := nI i) hH hI) ml_L_105 st_L_nextAt ini_L cd_L_nextAt rfl rfl (by decide +kernel) rfl rfl ⟨(Nat.le_of_ble_eq_true rfl), (Nat.le_of_ble_eq_true rfl)⟩ (Nat.le_of_ble_eq_true rfl) dL_sums_142 ⟨show _ ≤ 600 by omega, show _ ≤ 6000 by omega⟩ (fun _ _ _ h => h.elim) (fun v9 ad9 τ9 hP => ?_)
              obtain ⟨rfl, h2, h3⟩ := hP
              replace h2 := h2.symm
              subst h2
              replace h3 := h3.symm
              subst h3
              refine a_if_lt cx (tgt := 152) dL_sums_145 (by decide) (fun c_145 => ?_) (fun c_145 => (nx_a hS hT hi c_131 c_145).elim)
              refine a_iconst cx (v := 0) dL_sums_152 (by decide) ?_
              refine a_icmp_eq cx (tgt := 158) dL_sums_153 (by decide) (fun c_153 => ?_) (fun c_153 => absurd rfl c_153)
              refine a_iload cx dL_sums_158 rfl ?_
              refine a_iload cx dL_sums_160 rfl ?_
              refine a_iadd cx dL_sums_162 ?_
              refine a_istore6 cx dL_sums_163 (by decide) (by intro w h; first | (cases h; rfl) | (cases h; assumption) | (cases h; done)) ?_
              refine a_iload cx dL_sums_165 rfl ?_
              refine a_aload_n cx dL_sums_167 rfl rfl ?_
              refine a_iload cx dL_sums_168 rfl ?_
              refine a_bipush cx (v := 108) dL_sums_170 (by decide) ?_
              refine a_callSH cx 3 (sp_L_count (j := nI i) (x := 108) hH hI) ml_L_100 st_L_count ini_L cd_L_count rfl rfl (by decide +kernel) rfl rfl ⟨(Nat.le_of_ble_eq_true rfl), (Nat.le_of_ble_eq_true rfl)⟩ (Nat.le_of_ble_eq_true rfl) dL_sums_172 ⟨show _ ≤ 600 by omega, show _ ≤ 6000 by omega⟩ (fun _ _ _ h => h.elim) (fun v9 ad9 τ9 hP => ?_)
              obtain ⟨rfl, h2, h3⟩ := hP
              replace h2 := h2.symm
              subst h2
              replace h3 := h3.symm
              subst h3
              rw [v_c108 hS hi]
              refine a_iadd cx dL_sums_175 ?_
              refine a_istore7 cx dL_sums_176 (by decide) (by intro w h; first | (cases h; rfl) | (cases h; assumption) | (cases h; done)) ?_
              refine a_iload cx dL_sums_178 rfl ?_
              refine a_aload_n cx dL_sums_180 rfl rfl ?_
              refine a_iload cx dL_sums_181 rfl ?_
              refine a_bipush cx (v := 111) dL_sums_183 (by decide) ?_
              refine a_callSH cx 3 (sp_L_count (j := nI i) (x := 111) hH hI) ml_L_100 st_L_count ini_L cd_L_count rfl rfl (by decide +kernel) rfl rfl ⟨(Nat.le_of_ble_eq_true rfl), (Nat.le_of_ble_eq_true rfl)⟩ (Nat.le_of_ble_eq_true rfl) dL_sums_185 ⟨show _ ≤ 600 by omega, show _ ≤ 6000 by omega⟩ (fun _ _ _ h => h.elim) (fun v9 ad9 τ9 hP => ?_)
              obtain ⟨rfl, h2, h3⟩ := hP
              replace h2 := h2.symm
              subst h2
              replace h3 := h3.symm
              subst h3
              rw [v_c111 hS hi]
              refine a_iadd cx dL_sums_188 ?_
              refine a_istore8 cx dL_sums_189 (by decide) (by intro w h; first | (cases h; rfl) | (cases h; assumption) | (cases h; done)) ?_
              refine a_iinc9 cx (nI (i + 1)) dL_sums_191 (nI_1 i) (by decide) (by intro w h; first | (cases h; rfl) | (cases h; assumption) | (cases h; done)) ?_
              refine a_goto cx (tgt := 41) dL_sums_194 (by decide) ?_
              exact a_wide (by omega) (by omega) (ih f (i + 1, _, _, _, _, _, _) (Nat.lt_succ_self f) ⟨by first | omega | (dsimp only; omega), hH, hS, by first | rw [hx, psum_s, show suF B b i = _ from if_pos h70, Int32.add_assoc] | (dsimp only; rw [hx, psum_s, show suF B b i = _ from if_pos h70, Int32.add_assoc]), by first | rw [hy, psum_s, show suL B b i = _ from if_pos h70] | (dsimp only; rw [hy, psum_s, show suL B b i = _ from if_pos h70]), by first | rw [hz, psum_s, show suO B b i = _ from if_pos h70] | (dsimp only; rw [hz, psum_s, show suO B b i = _ from if_pos h70])⟩)
            · refine a_iconst cx (v := 1) dL_sums_134 (by decide) ?_
              refine a_goto cx (tgt := 139) dL_sums_135 (by decide) ?_
              refine a_aload_n cx dL_sums_139 rfl rfl ?_
              refine a_iload cx dL_sums_140 rfl ?_
              refine a_callSH cx 2 (sp_L_nextAt (j := nI i) hH hI) ml_L_105 st_L_nextAt ini_L cd_L_nextAt rfl rfl (by decide +kernel) rfl rfl ⟨(Nat.le_of_ble_eq_true rfl), (Nat.le_of_ble_eq_true rfl)⟩ (Nat.le_of_ble_eq_true rfl) dL_sums_142 ⟨show _ ≤ 600 by omega, show _ ≤ 6000 by omega⟩ (fun _ _ _ h => h.elim) (fun v9 ad9 τ9 hP => ?_)
              obtain ⟨rfl, h2, h3⟩ := hP
              replace h2 := h2.symm
              subst h2
              replace h3 := h3.symm
              subst h3
              refine a_if_lt cx (tgt := 152) dL_sums_145 (by decide) (fun c_145 => (nx_b hS hT hi c_131 c_145).elim) (fun c_145 => ?_)
              refine a_iconst cx (v := 1) dL_sums_148 (by decide) ?_
              refine a_goto cx (tgt := 153) dL_sums_149 (by decide) ?_
              refine a_icmp_eq cx (tgt := 158) dL_sums_153 (by decide) (fun c_153 => ?_) (fun c_153 => absurd rfl c_153)
              refine a_iload cx dL_sums_158 rfl ?_
              refine a_iload cx dL_sums_160 rfl ?_
              refine a_iadd cx dL_sums_162 ?_
              refine a_istore6 cx dL_sums_163 (by decide) (by intro w h; first | (cases h; rfl) | (cases h; assumption) | (cases h; done)) ?_
              refine a_iload cx dL_sums_165 rfl ?_
              refine a_aload_n cx dL_sums_167 rfl rfl ?_
              refine a_iload cx dL_sums_168 rfl ?_
              refine a_bipush cx (v := 108) dL_sums_170 (by decide) ?_
              refine a_callSH cx 3 (sp_L_count (j := nI i) (x := 108) hH hI) ml_L_100 st_L_count ini_L cd_L_count rfl rfl (by decide +kernel) rfl rfl ⟨(Nat.le_of_ble_eq_true rfl), (Nat.le_of_ble_eq_true rfl)⟩ (Nat.le_of_ble_eq_true rfl) dL_sums_172 ⟨show _ ≤ 600 by omega, show _ ≤ 6000 by omega⟩ (fun _ _ _ h => h.elim) (fun v9 ad9 τ9 hP => ?_)
              obtain ⟨rfl, h2, h3⟩ := hP
              replace h2 := h2.symm
              subst h2
              replace h3 := h3.symm
              subst h3
              rw [v_c108 hS hi]
              refine a_iadd cx dL_sums_175 ?_
              refine a_istore7 cx dL_sums_176 (by decide) (by intro w h; first | (cases h; rfl) | (cases h; assumption) | (cases h; done)) ?_
              refine a_iload cx dL_sums_178 rfl ?_
              refine a_aload_n cx dL_sums_180 rfl rfl ?_
              refine a_iload cx dL_sums_181 rfl ?_
              refine a_bipush cx (v := 111) dL_sums_183 (by decide) ?_
              refine a_callSH cx 3 (sp_L_count (j := nI i) (x := 111) hH hI) ml_L_100 st_L_count ini_L cd_L_count rfl rfl (by decide +kernel) rfl rfl ⟨(Nat.le_of_ble_eq_true rfl), (Nat.le_of_ble_eq_true rfl)⟩ (Nat.le_of_ble_eq_true rfl) dL_sums_185 ⟨show _ ≤ 600 by omega, show _ ≤ 6000 by omega⟩ (fun _ _ _ h => h.elim) (fun v9 ad9 τ9 hP => ?_)
              obtain ⟨rfl, h2, h3⟩ := hP
              replace h2 := h2.symm
              subst h2
              replace h3 := h3.symm
              subst h3
              rw [v_c111 hS hi]
              refine a_iadd cx dL_sums_188 ?_
              refine a_istore8 cx dL_sums_189 (by decide) (by intro w h; first | (cases h; rfl) | (cases h; assumption) | (cases h; done)) ?_
              refine a_iinc9 cx (nI (i + 1)) dL_sums_191 (nI_1 i) (by decide) (by intro w h; first | (cases h; rfl) | (cases h; assumption) | (cases h; done)) ?_
              refine a_goto cx (tgt := 41) dL_sums_194 (by decide) ?_
              exact a_wide (by omega) (by omega) (ih f (i + 1, _, _, _, _, _, _) (Nat.lt_succ_self f) ⟨by first | omega | (dsimp only; omega), hH, hS, by first | rw [hx, psum_s, show suF B b i = _ from if_pos h70, Int32.add_assoc] | (dsimp only; rw [hx, psum_s, show suF B b i = _ from if_pos h70, Int32.add_assoc]), by first | rw [hy, psum_s, show suL B b i = _ from if_pos h70] | (dsimp only; rw [hy, psum_s, show suL B b i = _ from if_pos h70]), by first | rw [hz, psum_s, show suO B b i = _ from if_pos h70] | (dsimp only; rw [hz, psum_s, show suO B b i = _ from if_pos h70])⟩)
        · have h70 : ¬ B 70 i = nI b := fun q => c_53 ((hS.w85 hi).symm.trans q)
          refine a_goto cx (tgt := 191) dL_sums_56 (by decide) ?_
          refine a_iinc9 cx (nI (i + 1)) dL_sums_191 (nI_1 i) (by decide) (by intro w h; first | (cases h; rfl) | (cases h; assumption) | (cases h; done)) ?_
          refine a_goto cx (tgt := 41) dL_sums_194 (by decide) ?_
          exact a_wide (by omega) (by omega) (ih f (i + 1, _, _, _, _, _, _) (Nat.lt_succ_self f) ⟨by first | omega | (dsimp only; omega), hH, hS, by first | rw [hx, psum_s, show suF B b i = 0 from if_neg h70, Int32.add_zero] | (dsimp only; rw [hx, psum_s, show suF B b i = 0 from if_neg h70, Int32.add_zero]), by first | rw [hy, psum_s, show suL B b i = 0 from if_neg h70, Int32.add_zero] | (dsimp only; rw [hy, psum_s, show suL B b i = 0 from if_neg h70, Int32.add_zero]), by first | rw [hz, psum_s, show suO B b i = 0 from if_neg h70, Int32.add_zero] | (dsimp only; rw [hz, psum_s, show suO B b i = 0 from if_neg h70, Int32.add_zero])⟩)
    · refine a_goto cx (tgt := 215) dL_sums_21 (by decide) ?_
      refine a_iinc5 cx (nI (b + 1)) dL_sums_215 (nI_1 b) (by decide) (by intro w h; first | (cases h; rfl) | (cases h; assumption) | (cases h; done)) ?_
      refine a_goto cx (tgt := 3) dL_sums_218 (by decide) ?_
      exact a_wide (by omega) (by omega) (ih0 f0 (b + 1, _, _, _, _, _, _, _) (Nat.lt_succ_self f0) ⟨by first | omega | (dsimp only; omega), hH, hS⟩)

