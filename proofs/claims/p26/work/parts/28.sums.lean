def isC (C : ME) (j : Nat) : Int32 := if ¬ C (40 + j) 7 = -1 ∧ C (40 + j) 8 = 99 then 1 else 0
def cCold (C : ME) : Int32 := sumf (isC C) (cNp C) 0 0
def owJ (C : ME) (u : Int32) (j : Nat) : Int32 := if C (40 + j) 2 = u then C (40 + j) 12 else 0
def cOwed (C : ME) (u : Int32) : Int32 := sumf (owJ C u) (cNp C) 0 0
def moF (C : ME) : Nat → Nat → Int32 → Int32 → Int32 × Int32
  | 0, _, m, fd => (m, fd)
  | f + 1, i, m, fd => if m < cOwed C (nI i) then moF C f (i + 1) (cOwed C (nI i)) (nI i) else moF C f (i + 1) m fd
def cMost (C : ME) : Int32 := (moF C 10 0 0 (-1)).2
def cDone (C : ME) : Int32 := sumf (fun j => C (40 + j) 9) (cNp C) 0 0
def cAllD (C : ME) : Int32 := sumf (fun j => C (40 + j) 9 + C (40 + j) 10 + C (40 + j) 11) (cNp C) 0 0
def cSum (C : ME) : Int32 := sumf (fun j => if C (40 + j) 6 = -1 then 0 else C (40 + j) 3) (cNp C) 0 0
def cNum (C : ME) : Int32 := sumf (fun j => if C (40 + j) 6 = -1 then 0 else 1) (cNp C) 0 0
theorem add_0 (x : Int32) : x + 0 = x := Int32.add_zero x
set_option maxHeartbeats 4000000 in
set_option maxRecDepth 100000 in
/-- countCold() -/
theorem sp_X3_countCold {l : Launch} {g : GW} {ad : AD} {τ : RH} {Lv : Nat → Bool} {C : ME} {ρ : RH} (hH : HH g ad Lv C ρ τ) (hI : cI Lv C) : Sp l g yX3_countCold (.code yX3_countCold cX3_countCold 3 (some .int)) (rmv 3 0 0) [.ref (ad 0)] ad τ 0 0 (fun v ad' τ' => v = some (.int (cCold C)) ∧ ad' = ad ∧ τ' = τ) (NoX) := by
  refine Sp.of 2 [some (.ref (ad 0)), none, none] (by decide +kernel) (Nat.le_of_ble_eq_true rfl) rfl ?_
  intro p e s m args below meth c A cx hout hr hnm
  obtain ⟨hO, hL1, hL3, hs1, hs3⟩ := H_lines hH hI
  refine a_iconst cx (v := 0) dX3_countCold_0 (by decide) ?_
  refine a_istore_n1 cx dX3_countCold_1 rfl (by decide) (by intro w h; first | (cases h; rfl) | (cases h; assumption) | (cases h; done)) ?_
  refine a_iconst cx (v := 0) dX3_countCold_2 (by decide) ?_
  refine a_istore_n2 cx dX3_countCold_3 rfl (by decide) (by intro w h; first | (cases h; rfl) | (cases h; assumption) | (cases h; done)) ?_
  refine a_loop (σ := Nat × Int32) (fun f s => s.1 + f = cNp C ∧ sumf (isC C) f s.1 s.2 = cCold C) (fun _ => ad) (fun _ => τ) (fun s => [some (.ref (ad 0)), some (.int s.2), some (.int (nI s.1))]) (cNp C) (0, 0) ⟨Nat.zero_add _, rfl⟩ rfl rfl rfl ?_
  rintro f ⟨i, x⟩ ⟨hi, hx⟩ ih
  dsimp only at hi hx ⊢
  refine a_iload_n cx dX3_countCold_4 rfl rfl ?_
  refine a_aload_n cx dX3_countCold_5 rfl rfl ?_
  refine gf_X3_16 cx hO dX3_countCold_6 ?_
  refine a_callV cx 0 (sp_Jx4a65c_size_8abf5 hL3) hL3 rfl ml_X3_43 im_Jx4a65c_size_8abf5 se_Jx4a65c_size_8abf5 ini_Jx4a65c cd_Jx4a65c_size_8abf5 rfl rfl (by decide +kernel) rfl rfl ⟨(Nat.le_of_ble_eq_true rfl), (Nat.le_of_ble_eq_true rfl)⟩ (Nat.le_of_ble_eq_true rfl) dX3_countCold_9 ⟨(Nat.le_of_ble_eq_true rfl), (Nat.le_of_ble_eq_true rfl)⟩ (fun _ _ _ h => h.elim) (fun v9 ad9 τ9 hP => ?_)
  obtain ⟨rfl, h2, h3⟩ := hP
  replace h2 := h2.symm
  subst h2
  replace h3 := h3.symm
  subst h3
  refine a_icmp_ge cx (tgt := 41) dX3_countCold_12 (by decide) (fun c_12 => ?_) (fun c_12 => ?_)
  · refine a_iload_n cx dX3_countCold_41 rfl rfl ?_
    exact a_iret cx hr dX3_countCold_42 (Nat.le_of_ble_eq_true rfl) (Nat.le_of_ble_eq_true rfl) ⟨vI (by have hz : f = 0 := (by have := le_nI c_12 (by have := hI.2.1; omega) (by have := hI.2.1; omega); omega); subst hz; exact hx), rfl, rfl⟩
  · have hin : i < cNp C := by
      rcases Nat.lt_or_ge i (cNp C) with h9 | h9
      · exact h9
      · exact absurd (nI_le h9 (by have := hI.2.1; omega)) c_12
    obtain ⟨f, rfl⟩ : ∃ f9, f = f9 + 1 := ⟨f - 1, by omega⟩
    have hsp := sp_get_prop (l := l) hH hI hin
    have hP := H_prop2 hH hI hin
    refine a_aload_n cx dX3_countCold_15 rfl rfl ?_
    refine gf_X3_16 cx hO dX3_countCold_16 ?_
    refine a_iload_n cx dX3_countCold_19 rfl rfl ?_
    refine a_callV cx 1 (hsp) hL3 rfl ml_X3_224 im_Jx4a65c_get_915e3 se_Jx4a65c_get_915e3 ini_Jx4a65c cd_Jx4a65c_get_915e3 rfl rfl (by decide +kernel) rfl rfl ⟨(Nat.le_of_ble_eq_true rfl), (Nat.le_of_ble_eq_true rfl)⟩ (Nat.le_of_ble_eq_true rfl) dX3_countCold_20 ⟨(Nat.le_of_ble_eq_true rfl), (Nat.le_of_ble_eq_true rfl)⟩ (fun _ _ _ h => h.elim) (fun v9 ad9 τ9 hP => ?_)
    obtain ⟨rfl, h2, h3⟩ := hP
    replace h2 := h2.symm
    subst h2
    replace h3 := h3.symm
    subst h3
    refine a_castS cx hP rfl cl_X3_86 dX3_countCold_23 ?_
    refine a_callV cx 0 (sp_X2_isCold hP) hP rfl ml_X3_140 im_X2_isCold se_X2_isCold ini_X2 cd_X2_isCold rfl rfl (by decide +kernel) rfl rfl ⟨(Nat.le_of_ble_eq_true rfl), (Nat.le_of_ble_eq_true rfl)⟩ (Nat.le_of_ble_eq_true rfl) dX3_countCold_26 ⟨(Nat.le_of_ble_eq_true rfl), (Nat.le_of_ble_eq_true rfl)⟩ (fun _ _ _ h => h.elim) (fun v9 ad9 τ9 hP => ?_)
    obtain ⟨rfl, h2, h3⟩ := hP
    replace h2 := h2.symm
    subst h2
    replace h3 := h3.symm
    subst h3
    refine a_if_eq cx (tgt := 35) dX3_countCold_29 (by decide) (fun c_29 => ?_) (fun c_29 => ?_)
    · refine a_iinc2 cx (nI (i + 1)) dX3_countCold_35 (nI_1 i) (by decide) (by intro w h; first | (cases h; rfl) | (cases h; assumption) | (cases h; done)) ?_
      refine a_goto cx (tgt := 4) dX3_countCold_38 (by decide) ?_
      have hx9 : sumf (isC C) f (i + 1) (x) = cCold C := by rw [← hx]; show _ = sumf (isC C) f (i + 1) (x + isC C i); rw [show isC C i = 0 from if_neg (i10_0 c_29)]; rw [add_0]
      exact ih f (i + 1, x) (Nat.lt_succ_self f) ⟨by omega, hx9⟩
    · refine a_iinc1 cx (x + 1) dX3_countCold_32 (rfl) (by decide) (by intro w h; first | (cases h; rfl) | (cases h; assumption) | (cases h; done)) ?_
      refine a_iinc2 cx (nI (i + 1)) dX3_countCold_35 (nI_1 i) (by decide) (by intro w h; first | (cases h; rfl) | (cases h; assumption) | (cases h; done)) ?_
      refine a_goto cx (tgt := 4) dX3_countCold_38 (by decide) ?_
      have hx9 : sumf (isC C) f (i + 1) (x + 1) = cCold C := by rw [← hx]; show _ = sumf (isC C) f (i + 1) (x + isC C i); rw [show isC C i = 1 from if_pos (i10_1 c_29)]
      exact ih f (i + 1, x + 1) (Nat.lt_succ_self f) ⟨by omega, hx9⟩

def kPut (C : ME) (j x : Int32) : Int32 := if okP C j then (if x = 114 ∨ x = 99 ∨ x = 98 then (if ¬ C (40 + tn j) 7 = -1 then (if x = 99 ∧ ¬ (¬ C (40 + tn j) 7 = -1 ∧ C (40 + tn j) 8 = 99) ∧ 3 ≤ cCold C then 4 else 0) else 3) else 2) else 1
theorem pl_nar {x : Int32} (h : x = 114 ∨ x = 99 ∨ x = 98) : narrow .char (.int x) = .int x ∧ fits .char (.int x) = true := by
  rcases h with rfl | rfl | rfl <;> exact ⟨by decide +kernel, by decide +kernel⟩
set_option maxHeartbeats 4000000 in
set_option maxRecDepth 100000 in
/-- put -/
theorem sp_X3_put {l : Launch} {g : GW} {ad : AD} {τ : RH} {Lv : Nat → Bool} {C : ME} {ρ : RH} {j x : Int32} (hH : HH g ad Lv C ρ τ) (hI : cI Lv C) (hx : vp_nar .char x = x) (h8 : ∀ j, j < cNp C → narrow .char (.int (C (40 + j) 8)) = .int (C (40 + j) 8)) : Sp l g yX3_put (.code yX3_put cX3_put 5 (some .char)) (rmv 8 2 12) [.ref (ad 0), .int j, .int x] ad τ 2 12 (fun v ad' τ' => kPut C j x = 0 ∧ v = some (.int (C (40 + tn j) 8)) ∧ ad' = ad ∧ HH g ad Lv (up2 C (40 + tn j) 8 x) ρ τ') (fun E ad' τ' => ((kPut C j x = 1 ∧ E = "java/lang/IndexOutOfBoundsException") ∨ (kPut C j x = 2 ∧ E = "java/lang/IllegalArgumentException") ∨ (kPut C j x = 3 ∧ E = "java/util/NoSuchElementException") ∨ (kPut C j x = 4 ∧ E = "java/lang/UnsupportedOperationException")) ∧ ad' = ad ∧ τ' = τ) := by
  refine Sp.of 2 [some (.ref (ad 0)), some (.int j), some (.int x), none, none] (by decide +kernel) (Nat.le_of_ble_eq_true rfl) rfl ?_
  intro p e s m args below meth c A cx hout hr hnm
  have hO := (H_lines hH hI).1
  refine a_aload_n cx dX3_put_0 rfl rfl ?_
  refine a_iload_n cx dX3_put_1 rfl rfl ?_
  refine a_callV cx 1 (sp_X3_proposalNumbered (b := j) hH hI) hO rfl ml_X3_116 im_X3_proposalNumbered se_X3_proposalNumbered ini_X3 cd_X3_proposalNumbered rfl rfl (by decide +kernel) rfl rfl ⟨(Nat.le_of_ble_eq_true rfl), (Nat.le_of_ble_eq_true rfl)⟩ (Nat.le_of_ble_eq_true rfl) dX3_put_2 ⟨(Nat.le_of_ble_eq_true rfl), (Nat.le_of_ble_eq_true rfl)⟩ (fun E9 ad9 τ9 hX => a_out cx hout (Nat.le_of_ble_eq_true rfl) (Nat.le_of_ble_eq_true rfl) (⟨Or.inl ⟨(by unfold kPut; rw [if_neg (hX.1)]), hX.2.1⟩, hX.2.2.1, hX.2.2.2⟩)) (fun v9 ad9 τ9 hP => ?_)
  obtain ⟨hok, rfl, h2, h3⟩ := hP
  replace h2 := h2.symm
  subst h2
  replace h3 := h3.symm
  subst h3
  have hj := (okP_ix hI hok).2
  have hP := H_prop2 hH hI hj
  obtain ⟨hLj, hj8⟩ := cI_prp hI hj
  refine a_astore_n3 cx dX3_put_5 rfl (by decide) (by intro w h; first | (cases h; rfl) | (cases h; assumption) | (cases h; done)) ?_
  refine a_iload_n cx dX3_put_6 rfl rfl ?_
  refine a_bipush cx (v := 114) dX3_put_7 (by decide) ?_
  refine a_icmp_eq cx (tgt := 34) dX3_put_9 (by decide) (fun c_9 => ?_) (fun c_9 => ?_)
  · refine a_aload_n cx dX3_put_34 rfl rfl ?_
    refine a_callV cx 0 (sp_X2_hasSample hP) hP rfl ml_X3_131 im_X2_hasSample se_X2_hasSample ini_X2 cd_X2_hasSample rfl rfl (by decide +kernel) rfl rfl ⟨(Nat.le_of_ble_eq_true rfl), (Nat.le_of_ble_eq_true rfl)⟩ (Nat.le_of_ble_eq_true rfl) dX3_put_35 ⟨(Nat.le_of_ble_eq_true rfl), (Nat.le_of_ble_eq_true rfl)⟩ (fun _ _ _ h => h.elim) (fun v9 ad9 τ9 hP => ?_)
    obtain ⟨rfl, h2, h3⟩ := hP
    replace h2 := h2.symm
    subst h2
    replace h3 := h3.symm
    subst h3
    refine a_if_ne cx (tgt := 51) dX3_put_38 (by decide) (fun c_38 => ?_) (fun c_38 => ?_)
    · refine a_iload_n cx dX3_put_51 rfl rfl ?_
      refine a_bipush cx (v := 99) dX3_put_52 (by decide) ?_
      refine a_icmp_ne cx (tgt := 82) dX3_put_54 (by decide) (fun c_54 => ?_) (fun c_54 => ?_)
      · refine a_aload_n cx dX3_put_82 rfl rfl ?_
        refine gf_X3_125 cx hP dX3_put_83 ?_
        refine a_istore4 cx dX3_put_86 (by decide) (by intro w h; first | (cases h; rfl) | (cases h; assumption) | (cases h; done)) ?_
        refine a_aload_n cx dX3_put_88 rfl rfl ?_
        refine a_iload_n cx dX3_put_89 rfl rfl ?_
        refine pf_X3_125 cx hP (pl_nar (Or.inl c_9)) dX3_put_90 ?_
        refine a_iload cx dX3_put_93 rfl ?_
        exact a_zret cx hr dX3_put_95 (h8 _ hj) (Nat.le_of_ble_eq_true rfl) (Nat.le_of_ble_eq_true rfl) ⟨(by unfold kPut; rw [if_pos hok, if_pos (Or.inl c_9), if_pos (i10_1 c_38), if_neg (fun h => c_54 h.1)]), rfl, rfl, hH.prop hj8 hLj.1 (w := va_up (C (40 + tn j)) 8 x) rfl⟩
      · refine a_aload_n cx dX3_put_57 rfl rfl ?_
        refine a_callV cx 0 (sp_X2_isCold hP) hP rfl ml_X3_140 im_X2_isCold se_X2_isCold ini_X2 cd_X2_isCold rfl rfl (by decide +kernel) rfl rfl ⟨(Nat.le_of_ble_eq_true rfl), (Nat.le_of_ble_eq_true rfl)⟩ (Nat.le_of_ble_eq_true rfl) dX3_put_58 ⟨(Nat.le_of_ble_eq_true rfl), (Nat.le_of_ble_eq_true rfl)⟩ (fun _ _ _ h => h.elim) (fun v9 ad9 τ9 hP => ?_)
        obtain ⟨rfl, h2, h3⟩ := hP
        replace h2 := h2.symm
        subst h2
        replace h3 := h3.symm
        subst h3
        refine a_if_ne cx (tgt := 82) dX3_put_61 (by decide) (fun c_61 => ?_) (fun c_61 => ?_)
        · refine a_aload_n cx dX3_put_82 rfl rfl ?_
          refine gf_X3_125 cx hP dX3_put_83 ?_
          refine a_istore4 cx dX3_put_86 (by decide) (by intro w h; first | (cases h; rfl) | (cases h; assumption) | (cases h; done)) ?_
          refine a_aload_n cx dX3_put_88 rfl rfl ?_
          refine a_iload_n cx dX3_put_89 rfl rfl ?_
          refine pf_X3_125 cx hP (pl_nar (Or.inl c_9)) dX3_put_90 ?_
          refine a_iload cx dX3_put_93 rfl ?_
          exact a_zret cx hr dX3_put_95 (h8 _ hj) (Nat.le_of_ble_eq_true rfl) (Nat.le_of_ble_eq_true rfl) ⟨(by unfold kPut; rw [if_pos hok, if_pos (Or.inl c_9), if_pos (i10_1 c_38), if_neg (fun h => h.2.1 (i10_1 c_61))]), rfl, rfl, hH.prop hj8 hLj.1 (w := va_up (C (40 + tn j)) 8 x) rfl⟩
        · refine a_aload_n cx dX3_put_64 rfl rfl ?_
          refine a_callV cx 0 (sp_X3_countCold hH hI) hO rfl ml_X3_143 im_X3_countCold se_X3_countCold ini_X3 cd_X3_countCold rfl rfl (by decide +kernel) rfl rfl ⟨(Nat.le_of_ble_eq_true rfl), (Nat.le_of_ble_eq_true rfl)⟩ (Nat.le_of_ble_eq_true rfl) dX3_put_65 ⟨(Nat.le_of_ble_eq_true rfl), (Nat.le_of_ble_eq_true rfl)⟩ (fun _ _ _ h => h.elim) (fun v9 ad9 τ9 hP => ?_)
          obtain ⟨rfl, h2, h3⟩ := hP
          replace h2 := h2.symm
          subst h2
          replace h3 := h3.symm
          subst h3
          refine a_iconst cx (v := 3) dX3_put_68 (by decide) ?_
          refine a_icmp_lt cx (tgt := 82) dX3_put_69 (by decide) (fun c_69 => ?_) (fun c_69 => ?_)
          · refine a_aload_n cx dX3_put_82 rfl rfl ?_
            refine gf_X3_125 cx hP dX3_put_83 ?_
            refine a_istore4 cx dX3_put_86 (by decide) (by intro w h; first | (cases h; rfl) | (cases h; assumption) | (cases h; done)) ?_
            refine a_aload_n cx dX3_put_88 rfl rfl ?_
            refine a_iload_n cx dX3_put_89 rfl rfl ?_
            refine pf_X3_125 cx hP (pl_nar (Or.inl c_9)) dX3_put_90 ?_
            refine a_iload cx dX3_put_93 rfl ?_
            exact a_zret cx hr dX3_put_95 (h8 _ hj) (Nat.le_of_ble_eq_true rfl) (Nat.le_of_ble_eq_true rfl) ⟨(by unfold kPut; rw [if_pos hok, if_pos (Or.inl c_9), if_pos (i10_1 c_38), if_neg (fun h => lt_ge c_69 h.2.2)]), rfl, rfl, hH.prop hj8 hLj.1 (w := va_up (C (40 + tn j)) 8 x) rfl⟩
          · exact a_throw cx "the cold is full" ["java/lang/RuntimeException", "java/lang/Exception"] hout (by decide +kernel) fit_names cl_X3_146 ini_UnsupportedOperationException th_150.1 th_150.2 (by decide +kernel) dX3_put_72 dX3_put_75 dX3_put_76 dX3_put_78 dX3_put_81 (Nat.le_of_ble_eq_true rfl) (Nat.le_of_ble_eq_true rfl) (Nat.le_of_ble_eq_true rfl) (Nat.le_of_ble_eq_true rfl) (Nat.le_of_ble_eq_true rfl) (Nat.le_of_ble_eq_true rfl) ⟨Or.inr (Or.inr (Or.inr (⟨(by unfold kPut; rw [if_pos hok, if_pos (Or.inl c_9), if_pos (i10_1 c_38), if_pos ⟨c_54, i10_0 c_61, ge_lt c_69⟩]), rfl⟩))), rfl, rfl⟩
    · exact a_throwN cx "no sample" hout (by decide +kernel) dX3_put_41 dX3_put_44 dX3_put_45 dX3_put_47 dX3_put_50 (Nat.le_of_ble_eq_true rfl) (Nat.le_of_ble_eq_true rfl) (Nat.le_of_ble_eq_true rfl) (Nat.le_of_ble_eq_true rfl) (Nat.le_of_ble_eq_true rfl) (Nat.le_of_ble_eq_true rfl) ⟨Or.inr (Or.inr (Or.inl ⟨(by unfold kPut; rw [if_pos hok, if_pos (Or.inl c_9), if_neg (i10_0 c_38)]), rfl⟩)), rfl, rfl⟩
  · refine a_iload_n cx dX3_put_12 rfl rfl ?_
    refine a_bipush cx (v := 99) dX3_put_13 (by decide) ?_
    refine a_icmp_eq cx (tgt := 34) dX3_put_15 (by decide) (fun c_15 => ?_) (fun c_15 => ?_)
    · refine a_aload_n cx dX3_put_34 rfl rfl ?_
      refine a_callV cx 0 (sp_X2_hasSample hP) hP rfl ml_X3_131 im_X2_hasSample se_X2_hasSample ini_X2 cd_X2_hasSample rfl rfl (by decide +kernel) rfl rfl ⟨(Nat.le_of_ble_eq_true rfl), (Nat.le_of_ble_eq_true rfl)⟩ (Nat.le_of_ble_eq_true rfl) dX3_put_35 ⟨(Nat.le_of_ble_eq_true rfl), (Nat.le_of_ble_eq_true rfl)⟩ (fun _ _ _ h => h.elim) (fun v9 ad9 τ9 hP => ?_)
      obtain ⟨rfl, h2, h3⟩ := hP
      replace h2 := h2.symm
      subst h2
      replace h3 := h3.symm
      subst h3
      refine a_if_ne cx (tgt := 51) dX3_put_38 (by decide) (fun c_38 => ?_) (fun c_38 => ?_)
      · refine a_iload_n cx dX3_put_51 rfl rfl ?_
        refine a_bipush cx (v := 99) dX3_put_52 (by decide) ?_
        refine a_icmp_ne cx (tgt := 82) dX3_put_54 (by decide) (fun c_54 => ?_) (fun c_54 => ?_)
        · refine a_aload_n cx dX3_put_82 rfl rfl ?_
          refine gf_X3_125 cx hP dX3_put_83 ?_
          refine a_istore4 cx dX3_put_86 (by decide) (by intro w h; first | (cases h; rfl) | (cases h; assumption) | (cases h; done)) ?_
          refine a_aload_n cx dX3_put_88 rfl rfl ?_
          refine a_iload_n cx dX3_put_89 rfl rfl ?_
          refine pf_X3_125 cx hP (pl_nar (Or.inr (Or.inl c_15))) dX3_put_90 ?_
          refine a_iload cx dX3_put_93 rfl ?_
          exact a_zret cx hr dX3_put_95 (h8 _ hj) (Nat.le_of_ble_eq_true rfl) (Nat.le_of_ble_eq_true rfl) ⟨(by unfold kPut; rw [if_pos hok, if_pos (Or.inr (Or.inl c_15)), if_pos (i10_1 c_38), if_neg (fun h => c_54 h.1)]), rfl, rfl, hH.prop hj8 hLj.1 (w := va_up (C (40 + tn j)) 8 x) rfl⟩
        · refine a_aload_n cx dX3_put_57 rfl rfl ?_
          refine a_callV cx 0 (sp_X2_isCold hP) hP rfl ml_X3_140 im_X2_isCold se_X2_isCold ini_X2 cd_X2_isCold rfl rfl (by decide +kernel) rfl rfl ⟨(Nat.le_of_ble_eq_true rfl), (Nat.le_of_ble_eq_true rfl)⟩ (Nat.le_of_ble_eq_true rfl) dX3_put_58 ⟨(Nat.le_of_ble_eq_true rfl), (Nat.le_of_ble_eq_true rfl)⟩ (fun _ _ _ h => h.elim) (fun v9 ad9 τ9 hP => ?_)
          obtain ⟨rfl, h2, h3⟩ := hP
          replace h2 := h2.symm
          subst h2
          replace h3 := h3.symm
          subst h3
          refine a_if_ne cx (tgt := 82) dX3_put_61 (by decide) (fun c_61 => ?_) (fun c_61 => ?_)
          · refine a_aload_n cx dX3_put_82 rfl rfl ?_
            refine gf_X3_125 cx hP dX3_put_83 ?_
            refine a_istore4 cx dX3_put_86 (by decide) (by intro w h; first | (cases h; rfl) | (cases h; assumption) | (cases h; done)) ?_
            refine a_aload_n cx dX3_put_88 rfl rfl ?_
            refine a_iload_n cx dX3_put_89 rfl rfl ?_
            refine pf_X3_125 cx hP (pl_nar (Or.inr (Or.inl c_15))) dX3_put_90 ?_
            refine a_iload cx dX3_put_93 rfl ?_
            exact a_zret cx hr dX3_put_95 (h8 _ hj) (Nat.le_of_ble_eq_true rfl) (Nat.le_of_ble_eq_true rfl) ⟨(by unfold kPut; rw [if_pos hok, if_pos (Or.inr (Or.inl c_15)), if_pos (i10_1 c_38), if_neg (fun h => h.2.1 (i10_1 c_61))]), rfl, rfl, hH.prop hj8 hLj.1 (w := va_up (C (40 + tn j)) 8 x) rfl⟩
          · refine a_aload_n cx dX3_put_64 rfl rfl ?_
            refine a_callV cx 0 (sp_X3_countCold hH hI) hO rfl ml_X3_143 im_X3_countCold se_X3_countCold ini_X3 cd_X3_countCold rfl rfl (by decide +kernel) rfl rfl ⟨(Nat.le_of_ble_eq_true rfl), (Nat.le_of_ble_eq_true rfl)⟩ (Nat.le_of_ble_eq_true rfl) dX3_put_65 ⟨(Nat.le_of_ble_eq_true rfl), (Nat.le_of_ble_eq_true rfl)⟩ (fun _ _ _ h => h.elim) (fun v9 ad9 τ9 hP => ?_)
            obtain ⟨rfl, h2, h3⟩ := hP
            replace h2 := h2.symm
            subst h2
            replace h3 := h3.symm
            subst h3
            refine a_iconst cx (v := 3) dX3_put_68 (by decide) ?_
            refine a_icmp_lt cx (tgt := 82) dX3_put_69 (by decide) (fun c_69 => ?_) (fun c_69 => ?_)
            · refine a_aload_n cx dX3_put_82 rfl rfl ?_
              refine gf_X3_125 cx hP dX3_put_83 ?_
              refine a_istore4 cx dX3_put_86 (by decide) (by intro w h; first | (cases h; rfl) | (cases h; assumption) | (cases h; done)) ?_
              refine a_aload_n cx dX3_put_88 rfl rfl ?_
              refine a_iload_n cx dX3_put_89 rfl rfl ?_
              refine pf_X3_125 cx hP (pl_nar (Or.inr (Or.inl c_15))) dX3_put_90 ?_
              refine a_iload cx dX3_put_93 rfl ?_
              exact a_zret cx hr dX3_put_95 (h8 _ hj) (Nat.le_of_ble_eq_true rfl) (Nat.le_of_ble_eq_true rfl) ⟨(by unfold kPut; rw [if_pos hok, if_pos (Or.inr (Or.inl c_15)), if_pos (i10_1 c_38), if_neg (fun h => lt_ge c_69 h.2.2)]), rfl, rfl, hH.prop hj8 hLj.1 (w := va_up (C (40 + tn j)) 8 x) rfl⟩
            · exact a_throw cx "the cold is full" ["java/lang/RuntimeException", "java/lang/Exception"] hout (by decide +kernel) fit_names cl_X3_146 ini_UnsupportedOperationException th_150.1 th_150.2 (by decide +kernel) dX3_put_72 dX3_put_75 dX3_put_76 dX3_put_78 dX3_put_81 (Nat.le_of_ble_eq_true rfl) (Nat.le_of_ble_eq_true rfl) (Nat.le_of_ble_eq_true rfl) (Nat.le_of_ble_eq_true rfl) (Nat.le_of_ble_eq_true rfl) (Nat.le_of_ble_eq_true rfl) ⟨Or.inr (Or.inr (Or.inr (⟨(by unfold kPut; rw [if_pos hok, if_pos (Or.inr (Or.inl c_15)), if_pos (i10_1 c_38), if_pos ⟨c_54, i10_0 c_61, ge_lt c_69⟩]), rfl⟩))), rfl, rfl⟩
      · exact a_throwN cx "no sample" hout (by decide +kernel) dX3_put_41 dX3_put_44 dX3_put_45 dX3_put_47 dX3_put_50 (Nat.le_of_ble_eq_true rfl) (Nat.le_of_ble_eq_true rfl) (Nat.le_of_ble_eq_true rfl) (Nat.le_of_ble_eq_true rfl) (Nat.le_of_ble_eq_true rfl) (Nat.le_of_ble_eq_true rfl) ⟨Or.inr (Or.inr (Or.inl ⟨(by unfold kPut; rw [if_pos hok, if_pos (Or.inr (Or.inl c_15)), if_neg (i10_0 c_38)]), rfl⟩)), rfl, rfl⟩
    · refine a_iload_n cx dX3_put_18 rfl rfl ?_
      refine a_bipush cx (v := 98) dX3_put_19 (by decide) ?_
      refine a_icmp_eq cx (tgt := 34) dX3_put_21 (by decide) (fun c_21 => ?_) (fun c_21 => ?_)
      · refine a_aload_n cx dX3_put_34 rfl rfl ?_
        refine a_callV cx 0 (sp_X2_hasSample hP) hP rfl ml_X3_131 im_X2_hasSample se_X2_hasSample ini_X2 cd_X2_hasSample rfl rfl (by decide +kernel) rfl rfl ⟨(Nat.le_of_ble_eq_true rfl), (Nat.le_of_ble_eq_true rfl)⟩ (Nat.le_of_ble_eq_true rfl) dX3_put_35 ⟨(Nat.le_of_ble_eq_true rfl), (Nat.le_of_ble_eq_true rfl)⟩ (fun _ _ _ h => h.elim) (fun v9 ad9 τ9 hP => ?_)
        obtain ⟨rfl, h2, h3⟩ := hP
        replace h2 := h2.symm
        subst h2
        replace h3 := h3.symm
        subst h3
        refine a_if_ne cx (tgt := 51) dX3_put_38 (by decide) (fun c_38 => ?_) (fun c_38 => ?_)
        · refine a_iload_n cx dX3_put_51 rfl rfl ?_
          refine a_bipush cx (v := 99) dX3_put_52 (by decide) ?_
          refine a_icmp_ne cx (tgt := 82) dX3_put_54 (by decide) (fun c_54 => ?_) (fun c_54 => ?_)
          · refine a_aload_n cx dX3_put_82 rfl rfl ?_
            refine gf_X3_125 cx hP dX3_put_83 ?_
            refine a_istore4 cx dX3_put_86 (by decide) (by intro w h; first | (cases h; rfl) | (cases h; assumption) | (cases h; done)) ?_
            refine a_aload_n cx dX3_put_88 rfl rfl ?_
            refine a_iload_n cx dX3_put_89 rfl rfl ?_
            refine pf_X3_125 cx hP (pl_nar (Or.inr (Or.inr c_21))) dX3_put_90 ?_
            refine a_iload cx dX3_put_93 rfl ?_
            exact a_zret cx hr dX3_put_95 (h8 _ hj) (Nat.le_of_ble_eq_true rfl) (Nat.le_of_ble_eq_true rfl) ⟨(by unfold kPut; rw [if_pos hok, if_pos (Or.inr (Or.inr c_21)), if_pos (i10_1 c_38), if_neg (fun h => c_54 h.1)]), rfl, rfl, hH.prop hj8 hLj.1 (w := va_up (C (40 + tn j)) 8 x) rfl⟩
          · refine a_aload_n cx dX3_put_57 rfl rfl ?_
            refine a_callV cx 0 (sp_X2_isCold hP) hP rfl ml_X3_140 im_X2_isCold se_X2_isCold ini_X2 cd_X2_isCold rfl rfl (by decide +kernel) rfl rfl ⟨(Nat.le_of_ble_eq_true rfl), (Nat.le_of_ble_eq_true rfl)⟩ (Nat.le_of_ble_eq_true rfl) dX3_put_58 ⟨(Nat.le_of_ble_eq_true rfl), (Nat.le_of_ble_eq_true rfl)⟩ (fun _ _ _ h => h.elim) (fun v9 ad9 τ9 hP => ?_)
            obtain ⟨rfl, h2, h3⟩ := hP
            replace h2 := h2.symm
            subst h2
            replace h3 := h3.symm
            subst h3
            refine a_if_ne cx (tgt := 82) dX3_put_61 (by decide) (fun c_61 => ?_) (fun c_61 => ?_)
            · refine a_aload_n cx dX3_put_82 rfl rfl ?_
              refine gf_X3_125 cx hP dX3_put_83 ?_
              refine a_istore4 cx dX3_put_86 (by decide) (by intro w h; first | (cases h; rfl) | (cases h; assumption) | (cases h; done)) ?_
              refine a_aload_n cx dX3_put_88 rfl rfl ?_
              refine a_iload_n cx dX3_put_89 rfl rfl ?_
              refine pf_X3_125 cx hP (pl_nar (Or.inr (Or.inr c_21))) dX3_put_90 ?_
              refine a_iload cx dX3_put_93 rfl ?_
              exact a_zret cx hr dX3_put_95 (h8 _ hj) (Nat.le_of_ble_eq_true rfl) (Nat.le_of_ble_eq_true rfl) ⟨(by unfold kPut; rw [if_pos hok, if_pos (Or.inr (Or.inr c_21)), if_pos (i10_1 c_38), if_neg (fun h => h.2.1 (i10_1 c_61))]), rfl, rfl, hH.prop hj8 hLj.1 (w := va_up (C (40 + tn j)) 8 x) rfl⟩
            · refine a_aload_n cx dX3_put_64 rfl rfl ?_
              refine a_callV cx 0 (sp_X3_countCold hH hI) hO rfl ml_X3_143 im_X3_countCold se_X3_countCold ini_X3 cd_X3_countCold rfl rfl (by decide +kernel) rfl rfl ⟨(Nat.le_of_ble_eq_true rfl), (Nat.le_of_ble_eq_true rfl)⟩ (Nat.le_of_ble_eq_true rfl) dX3_put_65 ⟨(Nat.le_of_ble_eq_true rfl), (Nat.le_of_ble_eq_true rfl)⟩ (fun _ _ _ h => h.elim) (fun v9 ad9 τ9 hP => ?_)
              obtain ⟨rfl, h2, h3⟩ := hP
              replace h2 := h2.symm
              subst h2
              replace h3 := h3.symm
              subst h3
              refine a_iconst cx (v := 3) dX3_put_68 (by decide) ?_
              refine a_icmp_lt cx (tgt := 82) dX3_put_69 (by decide) (fun c_69 => ?_) (fun c_69 => ?_)
              · refine a_aload_n cx dX3_put_82 rfl rfl ?_
                refine gf_X3_125 cx hP dX3_put_83 ?_
                refine a_istore4 cx dX3_put_86 (by decide) (by intro w h; first | (cases h; rfl) | (cases h; assumption) | (cases h; done)) ?_
                refine a_aload_n cx dX3_put_88 rfl rfl ?_
                refine a_iload_n cx dX3_put_89 rfl rfl ?_
                refine pf_X3_125 cx hP (pl_nar (Or.inr (Or.inr c_21))) dX3_put_90 ?_
                refine a_iload cx dX3_put_93 rfl ?_
                exact a_zret cx hr dX3_put_95 (h8 _ hj) (Nat.le_of_ble_eq_true rfl) (Nat.le_of_ble_eq_true rfl) ⟨(by unfold kPut; rw [if_pos hok, if_pos (Or.inr (Or.inr c_21)), if_pos (i10_1 c_38), if_neg (fun h => lt_ge c_69 h.2.2)]), rfl, rfl, hH.prop hj8 hLj.1 (w := va_up (C (40 + tn j)) 8 x) rfl⟩
              · exact a_throw cx "the cold is full" ["java/lang/RuntimeException", "java/lang/Exception"] hout (by decide +kernel) fit_names cl_X3_146 ini_UnsupportedOperationException th_150.1 th_150.2 (by decide +kernel) dX3_put_72 dX3_put_75 dX3_put_76 dX3_put_78 dX3_put_81 (Nat.le_of_ble_eq_true rfl) (Nat.le_of_ble_eq_true rfl) (Nat.le_of_ble_eq_true rfl) (Nat.le_of_ble_eq_true rfl) (Nat.le_of_ble_eq_true rfl) (Nat.le_of_ble_eq_true rfl) ⟨Or.inr (Or.inr (Or.inr (⟨(by unfold kPut; rw [if_pos hok, if_pos (Or.inr (Or.inr c_21)), if_pos (i10_1 c_38), if_pos ⟨c_54, i10_0 c_61, ge_lt c_69⟩]), rfl⟩))), rfl, rfl⟩
        · exact a_throwN cx "no sample" hout (by decide +kernel) dX3_put_41 dX3_put_44 dX3_put_45 dX3_put_47 dX3_put_50 (Nat.le_of_ble_eq_true rfl) (Nat.le_of_ble_eq_true rfl) (Nat.le_of_ble_eq_true rfl) (Nat.le_of_ble_eq_true rfl) (Nat.le_of_ble_eq_true rfl) (Nat.le_of_ble_eq_true rfl) ⟨Or.inr (Or.inr (Or.inl ⟨(by unfold kPut; rw [if_pos hok, if_pos (Or.inr (Or.inr c_21)), if_neg (i10_0 c_38)]), rfl⟩)), rfl, rfl⟩
      · exact a_throw cx "no such place" ["java/lang/RuntimeException", "java/lang/Exception"] hout (by decide +kernel) fit_names cl_X3_34 ini_IllegalArgumentException th_38.1 th_38.2 (by decide +kernel) dX3_put_24 dX3_put_27 dX3_put_28 dX3_put_30 dX3_put_33 (Nat.le_of_ble_eq_true rfl) (Nat.le_of_ble_eq_true rfl) (Nat.le_of_ble_eq_true rfl) (Nat.le_of_ble_eq_true rfl) (Nat.le_of_ble_eq_true rfl) (Nat.le_of_ble_eq_true rfl) ⟨Or.inr (Or.inl ⟨(by unfold kPut; rw [if_pos (hok), if_neg (fun h => h.elim c_9 (fun h => h.elim c_15 c_21))]), rfl⟩), rfl, rfl⟩


def kMost (C : ME) : Int32 := if cMost C < 0 then 1 else 0
theorem lt_of_nge {x y : Int32} (h : ¬ y ≤ x) : x < y := le_gt h

def kShare (C : ME) : Int32 := if cAllD C = 0 then 1 else 0
def cShare (C : ME) : UInt32 := FP.fdiv (FP.i2f (cDone C)) (FP.i2f (cAllD C))
def kMean (C : ME) : Int32 := if cNum C = 0 then 1 else 0
def cMean (C : ME) : UInt64 := FP.ddiv (FP.i2d (cSum C)) (FP.i2d (cNum C))


