/-- a new proposal's numbers -/
def pW (n b us sc w d : Int32) : Nat → Int32
  | 0 => n
  | 1 => b
  | 2 => us
  | 3 => sc
  | 4 => w
  | 5 => d
  | 6 => -1
  | 7 => -1
  | 8 => 114
  | _ => 0
def oPrp0 (C : ME) (b us sc w d : Int32) : ME := va_up C (40 + cNp C) (pW (nI (cNp C)) b us sc w d)
def oPrp (C : ME) (b us sc w d : Int32) : ME := oAdd (oPrp0 C b us sc w d) 3 (cNp C) (cNp C)
def lPrp (Lv : Nat → Bool) (C : ME) : Nat → Bool := va_up (va_up Lv (40 + cNp C) true) 4 true
section PRP
variable {Lv : Nat → Bool} {C : ME} {b us sc w d : Int32}
theorem prp_cl (hI : cI Lv C) : cLis (va_up Lv (40 + cNp C) true) (oPrp0 C b us sc w d) 3 (cNp C) := by
  have h := hI.2.2.2.2.2.2.1
  unfold cLis oPrp0 at *
  rw [va_up_ne _ _ (by omega), va_up_ne _ _ (by omega), va_up_ne _ _ (by omega), va_up_ne _ _ (by omega)]
  exact h
theorem oPrp_ne {r : Nat} (h : r ≠ 40 + cNp C) (h1 : r ≠ 3) (h2 : r ≠ 4) : oPrp C b us sc w d r = C r := by
  unfold oPrp oAdd oPrp0
  rw [va_up_ne _ _ h1, va_up_ne _ _ h2, va_up_ne _ _ h]
theorem lPrp_ne {r : Nat} (h : r ≠ 40 + cNp C) (h2 : r ≠ 4) : lPrp Lv C r = Lv r := by
  unfold lPrp
  rw [va_up_ne _ _ h2, va_up_ne _ _ h]
theorem oPrp_p : oPrp C b us sc w d (40 + cNp C) = pW (nI (cNp C)) b us sc w d := by
  unfold oPrp oAdd oPrp0
  rw [va_up_ne _ _ (by omega), va_up_ne _ _ (by omega), va_up_self]
theorem oPrp_3 : oPrp C b us sc w d 3 = va_up (va_up (va_up (C 3) 0 (C 3 0 + 1)) 1 1) 2 (nI (cNp C + 1)) := by
  unfold oPrp oAdd oPrp0
  rw [va_up_self, va_up_ne _ _ (by omega)]
theorem oPrp_np (h : cNp C < 8) : cNp (oPrp C b us sc w d) = cNp C + 1 := by
  unfold cNp
  rw [oPrp_3, va_up_self, tn_nI (by omega)]
  rfl
theorem oPrp_nb : cNb (oPrp C b us sc w d) = cNb C := by
  unfold cNb
  rw [oPrp_ne (by omega) (by omega) (by omega)]
theorem oPrp_row (hI : cI Lv C) (hn : cNp C < 8) (k : Nat) : oPrp C b us sc w d 4 k = if k ≤ cNp C then nI k else -1 := by
  unfold oPrp oAdd
  rw [va_up_ne _ _ (by decide), va_up_self]
  by_cases h0 : cNp C = 0
  · rw [if_pos h0, h0]
    by_cases hk : k = 0
    · rw [if_pos hk, if_pos (by omega), hk]
    · rw [if_neg hk, if_neg (by omega)]
  · rw [if_neg h0, show oPrp0 C b us sc w d (3 + 1) = C 4 from va_up_ne _ _ (by omega)]
    by_cases hk : k = cNp C
    · rw [hk, va_up_self, if_pos (Nat.le_refl _)]
    · rw [va_up_ne _ _ hk]
      by_cases hk2 : k < cNp C
      · rw [if_pos (by omega)]; exact hI.2.2.2.2.2.2.2.2.1 k hk2
      · rw [if_neg (by omega)]; exact hI.2.2.2.2.2.2.1.2.2.2.2 k (by omega) (by omega)
theorem cI_prp' (hI : cI Lv C) (hn : cNp C < 8) (hb : okL C b) : cI (lPrp Lv C) (oPrp C b us sc w d) := by
  have hrow := oPrp_row (b := b) (us := us) (sc := sc) (w := w) (d := d) hI hn
  obtain ⟨hb1, hb2⟩ := okL_ix hI hb
  obtain ⟨h1, h2, h3, h4, h5, h6, h7, h8, h9, h10, h11, h12, h13⟩ := hI
  have ne : ∀ r, r ≠ 40 + cNp C → r ≠ 3 → r ≠ 4 → oPrp C b us sc w d r = C r := fun r a b c => oPrp_ne a b c
  have lv : ∀ x, x ≠ 40 + cNp C → x ≠ 4 → lPrp Lv C x = Lv x := fun x a b => lPrp_ne a b
  have lis : ∀ r n, r < 39 → r ≠ 3 → r ≠ 4 → r + 1 ≠ 3 → r + 1 ≠ 4 → cLis Lv C r n → cLis (lPrp Lv C) (oPrp C b us sc w d) r n := by
    intro r n a0 a1 a2 a3 a4 hc
    unfold cLis at hc ⊢
    rw [ne r (by omega) a1 a2, ne (r + 1) (by omega) a3 a4, lv r (by omega) a2, lv (r + 1) (by omega) a4]
    exact hc
  unfold cI
  rw [oPrp_np hn, oPrp_nb]
  refine ⟨h1, by omega, by rw [lv 0 (by omega) (by omega)]; exact h3, by rw [lv 5 (by omega) (by omega)]; exact h4, by rw [lv 6 (by omega) (by omega)]; exact h5, lis 1 _ (by omega) (by omega) (by omega) (by omega) (by omega) h6, ?_, fun i hi => ?_, fun i hi => by rw [hrow, if_pos (by omega)], fun b' hb' => ?_, fun b' k hb' hb2' hk => ?_, fun j' hj' => ?_, fun j' hj' hj2' => ?_⟩
  · refine ⟨by rw [oPrp_3, va_up_self], by rw [oPrp_3, va_up_ne _ _ (by decide), va_up_self, if_neg (by omega)], by rw [lv 3 (by omega) (by omega)]; exact h7.2.2.1, by rw [show lPrp Lv C (3 + 1) = true from va_up_self _ _ _]; exact (decide_eq_true (by omega)).symm, fun k hk _ => ?_⟩
    rw [show 3 + 1 = 4 by rfl, hrow, if_neg (by omega)]
  · rw [ne 2 (by omega) (by omega) (by omega)]; exact h8 i hi
  · obtain ⟨a1, a2, a3, a4, a5, a6, a7, a8, a9, a10, a11, a12⟩ := h10 b' hb'
    have en : cNq (oPrp C b us sc w d) b' = cNq C b' := by unfold cNq; rw [ne _ (by omega) (by omega) (by omega)]
    unfold cLin
    rw [oPrp_np hn, en, lv _ (by omega) (by omega), lv _ (by omega) (by omega), lv _ (by omega) (by omega), lv _ (by omega) (by omega), lv _ (by omega) (by omega), lv _ (by omega) (by omega), ne (13 + 10 * b') (by omega) (by omega) (by omega), ne (15 + 10 * b') (by omega) (by omega) (by omega), ne (10 + 10 * b') (by omega) (by omega) (by omega), ne (12 + 10 * b') (by omega) (by omega) (by omega)]
    exact ⟨a1, a2, a3, a4, a5, a6, a7, lis _ _ (by omega) (by omega) (by omega) (by omega) (by omega) a8, a9, a10, a11, fun k hk => by
      obtain ⟨q, c1, c2⟩ := a12 k hk
      exact ⟨q, by omega, c2⟩⟩
  · rw [lv _ (by omega) (by omega)]; exact h11 b' k hb' hb2' hk
  · by_cases hjj : j' = cNp C
    · rw [hjj, oPrp_p]
      refine ⟨?_, rfl, tn b, hb2, hb1⟩
      unfold lPrp
      rw [va_up_ne _ _ (by omega), va_up_self]
    · have hj8' : j' < cNp C := by omega
      rw [lv _ (by omega) (by omega), ne (40 + j') (by omega) (by omega) (by omega)]
      exact h12 j' hj8'
  · rw [lv _ (by omega) (by omega)]; exact h13 j' (by omega) hj2'
theorem lJ_prp (hJ : lJ Lv) (hn : cNp C < 8) : lJ (lPrp Lv C) := fun x hx => by
  rw [lPrp_ne (by omega) (by omega)]; exact hJ x hx
end PRP
def kPrp (C : ME) (b us sc w d : Int32) : Int32 := if okL C b then (if win us 0 9 then (if win sc 0 100 then (if win w 1 9 then (if win d 0 99 then (if C (10 + 10 * tn b) 9 = 0 then (if cNp C < 8 then (0) else 3) else 3) else 2) else 2) else 2) else 2) else 1
set_option maxHeartbeats 4000000 in
set_option maxRecDepth 100000 in
/-- propose -/
theorem sp_X3_propose {l : Launch} {g : GW} {ad : AD} {τ : RH} {Lv : Nat → Bool} {C : ME} {ρ : RH} {b us sc w d9 : Int32} (hH : HH g ad Lv C ρ τ) (hI : cI Lv C) (hJ : lJ Lv) : Sp l g yX3_propose (.code yX3_propose cX3_propose 8 (some .int)) (rmv 8 4 48) [.ref (ad 0), .int b, .int us, .int sc, .int w, .int d9] ad τ 4 48 (fun v ad' τ' => kPrp C b us sc w d9 = 0 ∧ v = some (.int (nI (cNp C))) ∧ (∀ y, y ≠ 40 + cNp C → y ≠ 4 → ad' y = ad y) ∧ HH g ad' (lPrp Lv C) (oPrp C b us sc w d9) ρ τ') (fun E ad' τ' => ((kPrp C b us sc w d9 = 1 ∧ E = "java/lang/IndexOutOfBoundsException") ∨ (kPrp C b us sc w d9 = 2 ∧ E = "java/lang/IllegalArgumentException") ∨ (kPrp C b us sc w d9 = 3 ∧ E = "java/lang/IllegalStateException")) ∧ ad' = ad ∧ τ' = τ) := by
  refine Sp.of 2 [some (.ref (ad 0)), some (.int b), some (.int us), some (.int sc), some (.int w), some (.int d9), none, none] (by decide +kernel) (Nat.le_of_ble_eq_true rfl) rfl ?_
  intro p e s m args below meth c A cx hout hr hnm
  obtain ⟨hO, hL1, hL3, hs1, hs3⟩ := H_lines hH hI
  refine a_aload_n cx dX3_propose_0 rfl rfl ?_
  refine a_iload_n cx dX3_propose_1 rfl rfl ?_
  refine a_callV cx 1 (sp_X3_beamlineNumbered (b := b) hH hI) hO rfl ml_X3_61 im_X3_beamlineNumbered se_X3_beamlineNumbered ini_X3 cd_X3_beamlineNumbered rfl rfl (by decide +kernel) rfl rfl ⟨(Nat.le_of_ble_eq_true rfl), (Nat.le_of_ble_eq_true rfl)⟩ (Nat.le_of_ble_eq_true rfl) dX3_propose_2 ⟨(Nat.le_of_ble_eq_true rfl), (Nat.le_of_ble_eq_true rfl)⟩ (fun E9 ad9 τ9 hX => a_out cx hout (Nat.le_of_ble_eq_true rfl) (Nat.le_of_ble_eq_true rfl) (⟨Or.inl ⟨(by unfold kPrp; rw [if_neg (hX.1)]), hX.2.1⟩, hX.2.2.1, hX.2.2.2⟩)) (fun v9 ad9 τ9 hP => ?_)
  obtain ⟨hok, rfl, h2, h3⟩ := hP
  replace h2 := h2.symm
  subst h2
  replace h3 := h3.symm
  subst h3
  have hb := (okL_ix hI hok).2
  have hB := H_beam hH hI hb
  obtain ⟨hL, hb2⟩ := cI_lin hI hb
  refine a_astore6 cx dX3_propose_5 (by decide) (by intro w h; first | (cases h; rfl) | (cases h; assumption) | (cases h; done)) ?_
  refine a_iload_n cx dX3_propose_7 rfl rfl ?_
  refine a_iconst cx (v := 0) dX3_propose_8 (by decide) ?_
  refine a_bipush cx (v := 9) dX3_propose_9 (by decide) ?_
  refine a_callS cx 3 (sp_X3_isWithin (x := us) (lo := 0) (hi := 9)) ml_X3_30 st_X3_isWithin ini_X3 cd_X3_isWithin rfl rfl (by decide +kernel) rfl rfl ⟨(Nat.le_of_ble_eq_true rfl), (Nat.le_of_ble_eq_true rfl)⟩ (Nat.le_of_ble_eq_true rfl) dX3_propose_11 ⟨(Nat.le_of_ble_eq_true rfl), (Nat.le_of_ble_eq_true rfl)⟩ (fun _ _ _ h => h.elim) (fun v9 ad9 τ9 hP => ?_)
  obtain ⟨⟨w11, rfl, hw11⟩, h2, h3⟩ := hP
  replace h2 := h2.symm
  subst h2
  replace h3 := h3.symm
  subst h3
  replace hw11 := win_if hw11
  refine a_if_ne cx (tgt := 27) dX3_propose_14 (by decide) (fun c_14 => ?_) (fun c_14 => ?_)
  · refine a_iload_n cx dX3_propose_27 rfl rfl ?_
    refine a_iconst cx (v := 0) dX3_propose_28 (by decide) ?_
    refine a_bipush cx (v := 100) dX3_propose_29 (by decide) ?_
    refine a_callS cx 3 (sp_X3_isWithin (x := sc) (lo := 0) (hi := 100)) ml_X3_30 st_X3_isWithin ini_X3 cd_X3_isWithin rfl rfl (by decide +kernel) rfl rfl ⟨(Nat.le_of_ble_eq_true rfl), (Nat.le_of_ble_eq_true rfl)⟩ (Nat.le_of_ble_eq_true rfl) dX3_propose_31 ⟨(Nat.le_of_ble_eq_true rfl), (Nat.le_of_ble_eq_true rfl)⟩ (fun _ _ _ h => h.elim) (fun v9 ad9 τ9 hP => ?_)
    obtain ⟨⟨w31, rfl, hw31⟩, h2, h3⟩ := hP
    replace h2 := h2.symm
    subst h2
    replace h3 := h3.symm
    subst h3
    replace hw31 := win_if hw31
    refine a_if_ne cx (tgt := 47) dX3_propose_34 (by decide) (fun c_34 => ?_) (fun c_34 => ?_)
    · refine a_iload cx dX3_propose_47 rfl ?_
      refine a_iconst cx (v := 1) dX3_propose_49 (by decide) ?_
      refine a_bipush cx (v := 9) dX3_propose_50 (by decide) ?_
      refine a_callS cx 3 (sp_X3_isWithin (x := w) (lo := 1) (hi := 9)) ml_X3_30 st_X3_isWithin ini_X3 cd_X3_isWithin rfl rfl (by decide +kernel) rfl rfl ⟨(Nat.le_of_ble_eq_true rfl), (Nat.le_of_ble_eq_true rfl)⟩ (Nat.le_of_ble_eq_true rfl) dX3_propose_52 ⟨(Nat.le_of_ble_eq_true rfl), (Nat.le_of_ble_eq_true rfl)⟩ (fun _ _ _ h => h.elim) (fun v9 ad9 τ9 hP => ?_)
      obtain ⟨⟨w52, rfl, hw52⟩, h2, h3⟩ := hP
      replace h2 := h2.symm
      subst h2
      replace h3 := h3.symm
      subst h3
      replace hw52 := win_if hw52
      refine a_if_ne cx (tgt := 68) dX3_propose_55 (by decide) (fun c_55 => ?_) (fun c_55 => ?_)
      · refine a_iload cx dX3_propose_68 rfl ?_
        refine a_iconst cx (v := 0) dX3_propose_70 (by decide) ?_
        refine a_bipush cx (v := 99) dX3_propose_71 (by decide) ?_
        refine a_callS cx 3 (sp_X3_isWithin (x := d9) (lo := 0) (hi := 99)) ml_X3_30 st_X3_isWithin ini_X3 cd_X3_isWithin rfl rfl (by decide +kernel) rfl rfl ⟨(Nat.le_of_ble_eq_true rfl), (Nat.le_of_ble_eq_true rfl)⟩ (Nat.le_of_ble_eq_true rfl) dX3_propose_73 ⟨(Nat.le_of_ble_eq_true rfl), (Nat.le_of_ble_eq_true rfl)⟩ (fun _ _ _ h => h.elim) (fun v9 ad9 τ9 hP => ?_)
        obtain ⟨⟨w73, rfl, hw73⟩, h2, h3⟩ := hP
        replace h2 := h2.symm
        subst h2
        replace h3 := h3.symm
        subst h3
        replace hw73 := win_if hw73
        refine a_if_ne cx (tgt := 89) dX3_propose_76 (by decide) (fun c_76 => ?_) (fun c_76 => ?_)
        · refine a_aload cx dX3_propose_89 rfl ?_
          refine gf_X3_78 cx hB dX3_propose_91 ?_
          refine a_if_eq cx (tgt := 107) dX3_propose_94 (by decide) (fun c_94 => ?_) (fun c_94 => ?_)
          · refine a_aload_n cx dX3_propose_107 rfl rfl ?_
            refine gf_X3_16 cx hO dX3_propose_108 ?_
            refine a_callV cx 0 (sp_Jx4a65c_size_8abf5 hL3) hL3 rfl ml_X3_43 im_Jx4a65c_size_8abf5 se_Jx4a65c_size_8abf5 ini_Jx4a65c cd_Jx4a65c_size_8abf5 rfl rfl (by decide +kernel) rfl rfl ⟨(Nat.le_of_ble_eq_true rfl), (Nat.le_of_ble_eq_true rfl)⟩ (Nat.le_of_ble_eq_true rfl) dX3_propose_111 ⟨(Nat.le_of_ble_eq_true rfl), (Nat.le_of_ble_eq_true rfl)⟩ (fun _ _ _ h => h.elim) (fun v9 ad9 τ9 hP => ?_)
            obtain ⟨rfl, h2, h3⟩ := hP
            replace h2 := h2.symm
            subst h2
            replace h3 := h3.symm
            subst h3
            refine a_bipush cx (v := 8) dX3_propose_114 (by decide) ?_
            refine a_icmp_lt cx (tgt := 129) dX3_propose_116 (by decide) (fun c_116 => ?_) (fun c_116 => ?_)
            · have hn : cNp C < 8 := (nI_ltI (by have := hI.2.1; omega) (by decide)).mp c_116
              have hd := hH.no (show 40 + cNp C < 84 by omega) (dead_prop hI (Nat.le_refl _) hn)
              refine a_aload_n cx dX3_propose_129 rfl rfl ?_
              refine gf_X3_16 cx hO dX3_propose_130 ?_
              refine a_callV cx 0 (sp_Jx4a65c_size_8abf5 hL3) hL3 rfl ml_X3_43 im_Jx4a65c_size_8abf5 se_Jx4a65c_size_8abf5 ini_Jx4a65c cd_Jx4a65c_size_8abf5 rfl rfl (by decide +kernel) rfl rfl ⟨(Nat.le_of_ble_eq_true rfl), (Nat.le_of_ble_eq_true rfl)⟩ (Nat.le_of_ble_eq_true rfl) dX3_propose_133 ⟨(Nat.le_of_ble_eq_true rfl), (Nat.le_of_ble_eq_true rfl)⟩ (fun _ _ _ h => h.elim) (fun v9 ad9 τ9 hP => ?_)
              obtain ⟨rfl, h2, h3⟩ := hP
              replace h2 := h2.symm
              subst h2
              replace h3 := h3.symm
              subst h3
              refine a_istore7 cx dX3_propose_136 (by decide) (by intro w h; first | (cases h; rfl) | (cases h; assumption) | (cases h; done)) ?_
              refine a_aload_n cx dX3_propose_138 rfl rfl ?_
              refine gf_X3_16 cx hO dX3_propose_139 ?_
              refine a_newG cx (fs := dvX2) (ci := 5) (40 + cNp C) (hd) uw_X2 tyX2 tyX2_ok cl_X3_86 ins_X2 ini_X2 rfl dvX2_ok (Nat.le_of_ble_eq_true rfl) (Nat.le_of_ble_eq_true rfl) dX3_propose_142 (fun ad8 had_142 => ?_)
              simp (disch := omega) only [← had_142]
              refine a_dup cx dX3_propose_145 rfl ?_
              refine a_iload cx dX3_propose_146 rfl ?_
              refine a_aload cx dX3_propose_148 rfl ?_
              refine a_iload_n cx dX3_propose_150 rfl rfl ?_
              refine a_iload_n cx dX3_propose_151 rfl rfl ?_
              refine a_iload cx dX3_propose_152 rfl ?_
              refine a_iload cx dX3_propose_154 rfl ?_
              refine a_callI cx 6 (sp_X2_init (r0 := 40 + cNp C) (q := ad8 (10 + 10 * tn b)) (nu := nI (cNp C)) (us := us) (sc := sc) (wa := w) (da := d9) (va_up_self _ _ _)) ml_X3_88 im_X2_init ini_X2 cd_X2_init rfl rfl rfl (by decide +kernel) rfl rfl ⟨(Nat.le_of_ble_eq_true rfl), (Nat.le_of_ble_eq_true rfl)⟩ (Nat.le_of_ble_eq_true rfl) dX3_propose_156 ⟨(Nat.le_of_ble_eq_true rfl), (Nat.le_of_ble_eq_true rfl)⟩ (fun v9 ad9 τ9 hP9 => ?_)
              obtain ⟨rfl, h2, h3⟩ := hP9
              replace h2 := h2.symm
              subst h2
              replace h3 := h3.symm
              subst h3
              rw [up_up]
              have hH9 := hH.push (ad' := ad8) (r := 40 + cNp C) (w := pW (nI (cNp C)) b us sc w d9) (e := prO (nI (cNp C)) (.ref (ad8 (10 + 10 * tn b))) us sc w d9 (-1) (-1) 114 0 0 0 0) (by omega) (fun x hx hl _ => ob_live hI hJ (fun y _ h1 => had_142 y (fun q => h1 ⟨q, hn⟩)) hx hl) (by rw [ob_prop hn]; rfl)
              have hcl := prp_cl (b := b) (us := us) (sc := sc) (w := w) (d := d9) hI
              have hQ9 := H_lis hH9 (by decide) rfl hcl
              refine a_callV cx 1 (sp_addH (C := oPrp0 C b us sc w d9) hH9 (r := 3) (n := cNp C) (x := cNp C) (F := fun i => 40 + i) (Or.inr (Or.inl rfl)) (fun a w => rfl) (by omega) hcl (by omega) (by omega) (va_up_self _ _ _) ca_BeamOffice_Proposal_Object rfl) hQ9 rfl ml_X3_57 im_Jx4a65c_add_9ea2d se_Jx4a65c_add_9ea2d ini_Jx4a65c cd_Jx4a65c_add_9ea2d rfl rfl (by decide +kernel) rfl rfl ⟨(Nat.le_of_ble_eq_true rfl), (Nat.le_of_ble_eq_true rfl)⟩ (Nat.le_of_ble_eq_true rfl) dX3_propose_159 ⟨(Nat.le_of_ble_eq_true rfl), (Nat.le_of_ble_eq_true rfl)⟩ (fun _ _ _ h => h.elim) (fun v9 ad7 τ9 hP9 => ?_)
              obtain ⟨had_159, rfl, hH7⟩ := hP9
              refine a_pop cx dX3_propose_162 rfl ?_
              refine a_iload cx dX3_propose_163 rfl ?_
              exact a_iret cx hr dX3_propose_165 (Nat.le_of_ble_eq_true rfl) (Nat.le_of_ble_eq_true rfl) ⟨(by unfold kPrp; rw [if_pos (hok), if_pos (hw11.2 c_14), if_pos (hw31.2 c_34), if_pos (hw52.2 c_55), if_pos (hw73.2 c_76), if_pos (c_94), if_pos (hn)]), rfl, fun y h1 h2 => (had_159 y h2).trans (had_142 y h1), hH7⟩
            · exact a_throw cx "no more proposals" ["java/lang/RuntimeException", "java/lang/Exception"] hout (by decide +kernel) fit_names cl_X3_47 ini_IllegalStateException th_51.1 th_51.2 (by decide +kernel) dX3_propose_119 dX3_propose_122 dX3_propose_123 dX3_propose_125 dX3_propose_128 (Nat.le_of_ble_eq_true rfl) (Nat.le_of_ble_eq_true rfl) (Nat.le_of_ble_eq_true rfl) (Nat.le_of_ble_eq_true rfl) (Nat.le_of_ble_eq_true rfl) (Nat.le_of_ble_eq_true rfl) ⟨Or.inr (Or.inr (⟨(by unfold kPrp; rw [if_pos (hok), if_pos (hw11.2 c_14), if_pos (hw31.2 c_34), if_pos (hw52.2 c_55), if_pos (hw73.2 c_76), if_pos (c_94), if_neg (fun h => c_116 (nI_lt h (by decide)))]), rfl⟩)), rfl, rfl⟩
          · exact a_throw cx "the panel has met" ["java/lang/RuntimeException", "java/lang/Exception"] hout (by decide +kernel) fit_names cl_X3_47 ini_IllegalStateException th_51.1 th_51.2 (by decide +kernel) dX3_propose_97 dX3_propose_100 dX3_propose_101 dX3_propose_103 dX3_propose_106 (Nat.le_of_ble_eq_true rfl) (Nat.le_of_ble_eq_true rfl) (Nat.le_of_ble_eq_true rfl) (Nat.le_of_ble_eq_true rfl) (Nat.le_of_ble_eq_true rfl) (Nat.le_of_ble_eq_true rfl) ⟨Or.inr (Or.inr (⟨(by unfold kPrp; rw [if_pos (hok), if_pos (hw11.2 c_14), if_pos (hw31.2 c_34), if_pos (hw52.2 c_55), if_pos (hw73.2 c_76), if_neg (c_94)]), rfl⟩)), rfl, rfl⟩
        · exact a_throw cx "the data is out of range" ["java/lang/RuntimeException", "java/lang/Exception"] hout (by decide +kernel) fit_names cl_X3_34 ini_IllegalArgumentException th_38.1 th_38.2 (by decide +kernel) dX3_propose_79 dX3_propose_82 dX3_propose_83 dX3_propose_85 dX3_propose_88 (Nat.le_of_ble_eq_true rfl) (Nat.le_of_ble_eq_true rfl) (Nat.le_of_ble_eq_true rfl) (Nat.le_of_ble_eq_true rfl) (Nat.le_of_ble_eq_true rfl) (Nat.le_of_ble_eq_true rfl) ⟨Or.inr (Or.inl ⟨(by unfold kPrp; rw [if_pos (hok), if_pos (hw11.2 c_14), if_pos (hw31.2 c_34), if_pos (hw52.2 c_55), if_neg (hw73.1 c_76)]), rfl⟩), rfl, rfl⟩
      · exact a_throw cx "the wanted shifts are out of range" ["java/lang/RuntimeException", "java/lang/Exception"] hout (by decide +kernel) fit_names cl_X3_34 ini_IllegalArgumentException th_38.1 th_38.2 (by decide +kernel) dX3_propose_58 dX3_propose_61 dX3_propose_62 dX3_propose_64 dX3_propose_67 (Nat.le_of_ble_eq_true rfl) (Nat.le_of_ble_eq_true rfl) (Nat.le_of_ble_eq_true rfl) (Nat.le_of_ble_eq_true rfl) (Nat.le_of_ble_eq_true rfl) (Nat.le_of_ble_eq_true rfl) ⟨Or.inr (Or.inl ⟨(by unfold kPrp; rw [if_pos (hok), if_pos (hw11.2 c_14), if_pos (hw31.2 c_34), if_neg (hw52.1 c_55)]), rfl⟩), rfl, rfl⟩
    · exact a_throw cx "the score is out of range" ["java/lang/RuntimeException", "java/lang/Exception"] hout (by decide +kernel) fit_names cl_X3_34 ini_IllegalArgumentException th_38.1 th_38.2 (by decide +kernel) dX3_propose_37 dX3_propose_40 dX3_propose_41 dX3_propose_43 dX3_propose_46 (Nat.le_of_ble_eq_true rfl) (Nat.le_of_ble_eq_true rfl) (Nat.le_of_ble_eq_true rfl) (Nat.le_of_ble_eq_true rfl) (Nat.le_of_ble_eq_true rfl) (Nat.le_of_ble_eq_true rfl) ⟨Or.inr (Or.inl ⟨(by unfold kPrp; rw [if_pos (hok), if_pos (hw11.2 c_14), if_neg (hw31.1 c_34)]), rfl⟩), rfl, rfl⟩
  · exact a_throw cx "the user is out of range" ["java/lang/RuntimeException", "java/lang/Exception"] hout (by decide +kernel) fit_names cl_X3_34 ini_IllegalArgumentException th_38.1 th_38.2 (by decide +kernel) dX3_propose_17 dX3_propose_20 dX3_propose_21 dX3_propose_23 dX3_propose_26 (Nat.le_of_ble_eq_true rfl) (Nat.le_of_ble_eq_true rfl) (Nat.le_of_ble_eq_true rfl) (Nat.le_of_ble_eq_true rfl) (Nat.le_of_ble_eq_true rfl) (Nat.le_of_ble_eq_true rfl) ⟨Or.inr (Or.inl ⟨(by unfold kPrp; rw [if_pos (hok), if_neg (hw11.1 c_14)]), rfl⟩), rfl, rfl⟩

/-- an office made at 0 -/
def tOff (g : GW) (ad' : AD) (τ : RH) : RH := va_up (va_up (va_up (va_up (va_up τ 1 (some (liO 0 (.ref g.2.2.1) 0))) 3 (some (liO 0 (.ref g.2.2.1) 0))) 5 (some (arZ g 10 (fun _ => 0)))) 6 (some (arZ g 10 (fun _ => 0)))) 0 (some (offO ad' (fun _ => 0)))
set_option maxHeartbeats 4000000 in
set_option maxRecDepth 100000 in
/-- BeamOffice() -/
theorem sp_X3_init {l : Launch} {g : GW} {ad : AD} {τ : RH} {v0 v1 v2 v3 v4 : Value} (h0 : τ 0 = some (.inr (6, [v0, v1, v2, v3, v4]))) (n1 : τ 1 = none) (n3 : τ 3 = none) (n5 : τ 5 = none) (n6 : τ 6 = none) : Sp l g yX3_init (.code yX3_init cX3_init 1 none) (rmv 4 4 26) [.ref (ad 0)] ad τ 4 26 (fun v ad' τ' => (∀ x, x ≠ 1 → x ≠ 3 → x ≠ 5 → x ≠ 6 → ad' x = ad x) ∧ v = none ∧ τ' = tOff g ad' τ) (NoX) := by
  refine Sp.of 0 [some (.ref (ad 0))] (by decide +kernel) (Nat.le_of_ble_eq_true rfl) rfl ?_
  intro p e s m args below meth c A cx hout hr hnm
  refine a_aload_n cx dX3_init_0 rfl rfl ?_
  refine a_objInit cx ml_X3_1 (Nat.le_of_ble_eq_true rfl) (Nat.le_of_ble_eq_true rfl) dX3_init_1 ?_
  refine a_aload_n cx dX3_init_4 rfl rfl ?_
  refine a_newG cx (fs := dvJx4a65c) (ci := 2) (1) (n1) uw_Jx4a65c tyJx4a65c tyJx4a65c_ok cl_X3_7 ins_Jx4a65c ini_Jx4a65c rfl dvJx4a65c_ok (Nat.le_of_ble_eq_true rfl) (Nat.le_of_ble_eq_true rfl) dX3_init_5 (fun ad9 had_5 => ?_)
  try simp (disch := omega) only [← had_5]
  refine a_dup cx dX3_init_8 rfl ?_
  refine a_callI cx 0 (sp_Jx4a65c_init_da8c8 (va_up_self _ _ _)) ml_X3_9 im_Jx4a65c_init_da8c8 ini_Jx4a65c cd_Jx4a65c_init_da8c8 rfl rfl rfl (by decide +kernel) rfl rfl ⟨(Nat.le_of_ble_eq_true rfl), (Nat.le_of_ble_eq_true rfl)⟩ (Nat.le_of_ble_eq_true rfl) dX3_init_9 ⟨(Nat.le_of_ble_eq_true rfl), (Nat.le_of_ble_eq_true rfl)⟩ (fun v9 ad9 τ9 hP => ?_)
  obtain ⟨rfl, h2, h3⟩ := hP
  replace h2 := h2.symm
  subst h2
  replace h3 := h3.symm
  subst h3
  refine pf_X3_10 cx hnm (by first | exact va_up_self _ _ _ | assumption | (repeat rw [va_up_ne _ _ (by decide)]); first | exact va_up_self _ _ _ | assumption) dX3_init_12 ?_
  refine a_aload_n cx dX3_init_15 rfl rfl ?_
  refine a_newG cx (fs := dvJx4a65c) (ci := 2) (3) ((by first | exact va_up_self _ _ _ | assumption | (repeat rw [va_up_ne _ _ (by decide)]); first | exact va_up_self _ _ _ | assumption)) uw_Jx4a65c tyJx4a65c tyJx4a65c_ok cl_X3_7 ins_Jx4a65c ini_Jx4a65c rfl dvJx4a65c_ok (Nat.le_of_ble_eq_true rfl) (Nat.le_of_ble_eq_true rfl) dX3_init_16 (fun ad9 had_16 => ?_)
  try simp (disch := omega) only [← had_16]
  refine a_dup cx dX3_init_19 rfl ?_
  refine a_callI cx 0 (sp_Jx4a65c_init_da8c8 (va_up_self _ _ _)) ml_X3_9 im_Jx4a65c_init_da8c8 ini_Jx4a65c cd_Jx4a65c_init_da8c8 rfl rfl rfl (by decide +kernel) rfl rfl ⟨(Nat.le_of_ble_eq_true rfl), (Nat.le_of_ble_eq_true rfl)⟩ (Nat.le_of_ble_eq_true rfl) dX3_init_20 ⟨(Nat.le_of_ble_eq_true rfl), (Nat.le_of_ble_eq_true rfl)⟩ (fun v9 ad9 τ9 hP => ?_)
  obtain ⟨rfl, h2, h3⟩ := hP
  replace h2 := h2.symm
  subst h2
  replace h3 := h3.symm
  subst h3
  refine pf_X3_16 cx hnm (by first | exact va_up_self _ _ _ | assumption | (repeat rw [va_up_ne _ _ (by decide)]); first | exact va_up_self _ _ _ | assumption) dX3_init_23 ?_
  refine a_aload_n cx dX3_init_26 rfl rfl ?_
  refine a_bipush cx (v := 10) dX3_init_27 (by decide) ?_
  refine a_newaG cx (atype := .boolean) (t0 := 2) (N := 10) (5) ((by first | exact va_up_self _ _ _ | assumption | (repeat rw [va_up_ne _ _ (by decide)]); first | exact va_up_self _ _ _ | assumption)) (.inl (fun _ => 0)) ac_boolean rfl rfl rfl (fun _ => rfl) (by decide) (by decide) (Nat.le_of_ble_eq_true rfl) (Nat.le_of_ble_eq_true rfl) (Nat.le_of_ble_eq_true rfl) dX3_init_29 (fun ad9 had_29 => ?_)
  try simp (disch := omega) only [← had_29]
  refine pf_X3_19 cx hnm (by first | exact va_up_self _ _ _ | assumption | (repeat rw [va_up_ne _ _ (by decide)]); first | exact va_up_self _ _ _ | assumption) dX3_init_31 ?_
  refine a_aload_n cx dX3_init_34 rfl rfl ?_
  refine a_bipush cx (v := 10) dX3_init_35 (by decide) ?_
  refine a_newaG cx (atype := .boolean) (t0 := 2) (N := 10) (6) ((by first | exact va_up_self _ _ _ | assumption | (repeat rw [va_up_ne _ _ (by decide)]); first | exact va_up_self _ _ _ | assumption)) (.inl (fun _ => 0)) ac_boolean rfl rfl rfl (fun _ => rfl) (by decide) (by decide) (Nat.le_of_ble_eq_true rfl) (Nat.le_of_ble_eq_true rfl) (Nat.le_of_ble_eq_true rfl) dX3_init_37 (fun ad9 had_37 => ?_)
  try simp (disch := omega) only [← had_37]
  refine pf_X3_23 cx hnm (by first | exact va_up_self _ _ _ | assumption | (repeat rw [va_up_ne _ _ (by decide)]); first | exact va_up_self _ _ _ | assumption) dX3_init_39 ?_
  refine a_aload_n cx dX3_init_42 rfl rfl ?_
  refine a_iconst cx (v := 0) dX3_init_43 (by decide) ?_
  refine pf_X3_26 cx (by first | exact va_up_self _ _ _ | assumption | (repeat rw [va_up_ne _ _ (by decide)]); first | exact va_up_self _ _ _ | assumption) dX3_init_44 ?_
  exact a_vret cx hr dX3_init_47 (Nat.le_of_ble_eq_true rfl) (Nat.le_of_ble_eq_true rfl) ⟨fun x h1 h2 h3 h4 => by simp (disch := omega) only [had_37, had_29, had_16, had_5], rfl, by funext x; rcases (show x = 0 ∨ x = 1 ∨ x = 3 ∨ x = 5 ∨ x = 6 ∨ (x ≠ 0 ∧ x ≠ 1 ∧ x ≠ 3 ∧ x ≠ 5 ∧ x ≠ 6) by omega) with q | q | q | q | q | ⟨q0, q1, q3, q5, q6⟩ <;> simp [tOff, up_eval, *]⟩

