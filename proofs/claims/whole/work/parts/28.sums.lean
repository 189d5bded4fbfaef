def isC (C : ME) (j : Nat) : Int32 := if ¬ C (40 + j) 7 = -1 ∧ C (40 + j) 8 = 99 then 1 else 0
def cCold (C : ME) : Int32 := sumf (isC C) (cNp C) 0 0
def owJ (C : ME) (u : Int32) (j : Nat) : Int32 := if C (40 + j) 2 = u then C (40 + j) 12 else 0
def cOwed (C : ME) (u : Int32) : Int32 := sumf (owJ C u) (cNp C) 0 0
def moF (C : ME) : Nat → Nat → Int32 → Int32 → Int32 × Int32
  | 0, _, m, fd => (m, fd)
  | f + 1, i, m, fd => if m < cOwed C (nI i) then moF C f (i + 1) (cOwed C (nI i)) (nI i) else moF C f (i + 1) m fd
def cMost (C : ME) : Int32 := (moF C 10 0 0 (-1)).2
def cDone (C : ME) : Int32 := sumf (fun j => C (40 + j) 9) (cNp C) 0 0
def cAllD (C : ME) : Int32 := sumf (fun j => C (40 + j) 9 + C (40 + j) 10 + C (40 + j) 11) (cNp C) 0 0
def cSum (C : ME) : Int32 := sumf (fun j => if C (40 + j) 6 = -1 then 0 else C (40 + j) 3) (cNp C) 0 0
def cNum (C : ME) : Int32 := sumf (fun j => if C (40 + j) 6 = -1 then 0 else 1) (cNp C) 0 0
theorem add_0 (x : Int32) : x + 0 = x := Int32.add_zero x
set_option maxHeartbeats 4000000 in
set_option maxRecDepth 100000 in
/-- countCold() -/
theorem sp_X3_countCold {l : Launch} {g : GW} {ad : AD} {τ : RH} {Lv : Nat → Bool} {C : ME} {ρ : RH} (hH : HH g ad Lv C ρ τ) (hI : cI Lv C) : Sp l g yX3_countCold (.code yX3_countCold cX3_countCold 3 (some .int)) (rmv 3 0 0) [.ref (ad 0)] ad τ 0 0 (fun v ad' τ' => v = some (.int (cCold C)) ∧ ad' = ad ∧ τ' = τ) (NoX) := by
  refine Sp.of 2 [some (.ref (ad 0)), none, none] (by decide +kernel) (Nat.le_of_ble_eq_true rfl) rfl ?_
  intro p e s m args below meth c A cx hout hr hnm
  obtain ⟨hO, hL1, hL3, hs1, hs3⟩ := H_lines hH hI
  refine a_iconst cx (v := 0) dX3_countCold_0 (by decide) ?_
  refine a_istore_n1 cx dX3_countCold_1 rfl (by decide) (by intro w h; first | (cases h; rfl) | (cases h; assumption) | (cases h; done)) ?_
  refine a_iconst cx (v := 0) dX3_countCold_2 (by decide) ?_
  refine a_istore_n2 cx dX3_countCold_3 rfl (by decide) (by intro w h; first | (cases h; rfl) | (cases h; assumption) | (cases h; done)) ?_
  refine a_loop (σ := Nat × Int32) (fun f s => s.1 + f = cNp C ∧ sumf (isC C) f s.1 s.2 = cCold C) (fun _ => ad) (fun _ => τ) (fun s => [some (.ref (ad 0)), some (.int s.2), some (.int (nI s.1))]) (cNp C) (0, 0) ⟨Nat.zero_add _, rfl⟩ rfl rfl rfl ?_
  rintro f ⟨i, x⟩ ⟨hi, hx⟩ ih
  dsimp only at hi hx ⊢
  refine a_iload_n cx dX3_countCold_4 rfl rfl ?_
  refine a_aload_n cx dX3_countCold_5 rfl rfl ?_
  refine gf_X3_16 cx hO dX3_countCold_6 ?_
  refine a_callV cx 0 (sp_Jx4a65c_size_8abf5 hL3) hL3 rfl ml_X3_43 im_Jx4a65c_size_8abf5 se_Jx4a65c_size_8abf5 ini_Jx4a65c cd_Jx4a65c_size_8abf5 rfl rfl (by decide +kernel) rfl rfl ⟨(Nat.le_of_ble_eq_true rfl), (Nat.le_of_ble_eq_true rfl)⟩ (Nat.le_of_ble_eq_true rfl) dX3_countCold_9 ⟨(Nat.le_of_ble_eq_true rfl), (Nat.le_of_ble_eq_true rfl)⟩ (fun _ _ _ h => h.elim) (fun v9 ad9 τ9 hP => ?_)
  obtain ⟨rfl, h2, h3⟩ := hP
  replace h2 := h2.symm
  subst h2
  replace h3 := h3.symm
  subst h3
  refine a_icmp_ge cx (tgt := 41) dX3_countCold_12 (by decide) (fun c_12 => ?_) (fun c_12 => ?_)
  · refine a_iload_n cx dX3_countCold_41 rfl rfl ?_
    exact a_iret cx hr dX3_countCold_42 (Nat.le_of_ble_eq_true rfl) (Nat.le_of_ble_eq_true rfl) ⟨vI (by have hz : f = 0 := (by have := le_nI c_12 (by have := hI.2.1; omega) (by have := hI.2.1; omega); omega); subst hz; exact hx), rfl, rfl⟩
  · have hin : i < cNp C := by
      rcases Nat.lt_or_ge i (cNp C) with h9 | h9
      · exact h9
      · exact absurd (nI_le h9 (by have := hI.2.1; omega)) c_12
    obtain ⟨f, rfl⟩ : ∃ f9, f = f9 + 1 := ⟨f - 1, by omega⟩
    have hsp := sp_get_prop (l := l) hH hI hin
    have hP := H_prop2 hH hI hin
    refine a_aload_n cx dX3_countCold_15 rfl rfl ?_
    refine gf_X3_16 cx hO dX3_countCold_16 ?_
    refine a_iload_n cx dX3_countCold_19 rfl rfl ?_
    refine a_callV cx 1 (hsp) hL3 rfl ml_X3_224 im_Jx4a65c_get_915e3 se_Jx4a65c_get_915e3 ini_Jx4a65c cd_Jx4a65c_get_915e3 rfl rfl (by decide +kernel) rfl rfl ⟨(Nat.le_of_ble_eq_true rfl), (Nat.le_of_ble_eq_true rfl)⟩ (Nat.le_of_ble_eq_true rfl) dX3_countCold_20 ⟨(Nat.le_of_ble_eq_true rfl), (Nat.le_of_ble_eq_true rfl)⟩ (fun _ _ _ h => h.elim) (fun v9 ad9 τ9 hP => ?_)
    obtain ⟨rfl, h2, h3⟩ := hP
    replace h2 := h2.symm
    subst h2
    replace h3 := h3.symm
    subst h3
    refine a_castS cx hP rfl cl_X3_86 dX3_countCold_23 ?_
    refine a_callV cx 0 (sp_X2_isCold hP) hP rfl ml_X3_140 im_X2_isCold se_X2_isCold ini_X2 cd_X2_isCold rfl rfl (by decide +kernel) rfl rfl ⟨(Nat.le_of_ble_eq_true rfl), (Nat.le_of_ble_eq_true rfl)⟩ (Nat.le_of_ble_eq_true rfl) dX3_countCold_26 ⟨(Nat.le_of_ble_eq_true rfl), (Nat.le_of_ble_eq_true rfl)⟩ (fun _ _ _ h => h.elim) (fun v9 ad9 τ9 hP => ?_)
    obtain ⟨rfl, h2, h3⟩ := hP
    replace h2 := h2.symm
    subst h2
    replace h3 := h3.symm
    subst h3
    refine a_if_eq cx (tgt := 35) dX3_countCold_29 (by decide) (fun c_29 => ?_) (fun c_29 => ?_)
    · refine a_iinc2 cx (nI (i + 1)) dX3_countCold_35 (nI_1 i) (by decide) (by intro w h; first | (cases h; rfl) | (cases h; assumption) | (cases h; done)) ?_
      refine a_goto cx (tgt := 4) dX3_countCold_38 (by decide) ?_
      have hx9 : sumf (isC C) f (i + 1) (x) = cCold C := by rw [← hx]; show _ = sumf (isC C) f (i + 1) (x + isC C i); rw [show isC C i = 0 from if_neg (i10_0 c_29)]; rw [add_0]
      exact ih f (i + 1, x) (Nat.lt_succ_self f) ⟨by omega, hx9⟩
    · refine a_iinc1 cx (x + 1) dX3_countCold_32 (rfl) (by decide) (by intro w h; first | (cases h; rfl) | (cases h; assumption) | (cases h; done)) ?_
      refine a_iinc2 cx (nI (i + 1)) dX3_countCold_35 (nI_1 i) (by decide) (by intro w h; first | (cases h; rfl) | (cases h; assumption) | (cases h; done)) ?_
      refine a_goto cx (tgt := 4) dX3_countCold_38 (by decide) ?_
      have hx9 : sumf (isC C) f (i + 1) (x + 1) = cCold C := by rw [← hx]; show _ = sumf (isC C) f (i + 1) (x + isC C i); rw [show isC C i = 1 from if_pos (i10_1 c_29)]
      exact ih f (i + 1, x + 1) (Nat.lt_succ_self f) ⟨by omega, hx9⟩

def kPut (C : ME) (j x : Int32) : Int32 := if okP C j then (if x = 114 ∨ x = 99 ∨ x = 98 then (if ¬ C (40 + tn j) 7 = -1 then (if x = 99 ∧ ¬ (¬ C (40 + tn j) 7 = -1 ∧ C (40 + tn j) 8 = 99) ∧ 3 ≤ cCold C then 4 else 0) else 3) else 2) else 1
theorem pl_nar {x : Int32} (h : x = 114 ∨ x = 99 ∨ x = 98) : narrow .char (.int x) = .int x ∧ fits .char (.int x) = true := by
  rcases h with rfl | rfl | rfl <;> exact ⟨by decide +kernel, by decide +kernel⟩
set_option maxHeartbeats 4000000 in
set_option maxRecDepth 100000 in
/-- put -/
theorem sp_X3_put {l : Launch} {g : GW} {ad : AD} {τ : RH} {Lv : Nat → Bool} {C : ME} {ρ : RH} {j x : Int32} (hH : HH g ad Lv C ρ τ) (hI : cI Lv C) (hx : vp_nar .char x = x) (h8 : ∀ j, j < cNp C → narrow .char (.int (C (40 + j) 8)) = .int (C (40 + j) 8)) : Sp l g yX3_put (.code yX3_put cX3_put 5 (some .char)) (rmv 8 2 12) [.ref (ad 0), .int j, .int x] ad τ 2 12 (fun v ad' τ' => kPut C j x = 0 ∧ v = some (.int (C (40 + tn j) 8)) ∧ ad' = ad ∧ HH g ad Lv (up2 C (40 + tn j) 8 x) ρ τ') (fun E ad' τ' => ((kPut C j x = 1 ∧ E = "java/lang/IndexOutOfBoundsException") ∨ (kPut C j x = 2 ∧ E = "java/lang/IllegalArgumentException") ∨ (kPut C j x = 3 ∧ E = "java/util/NoSuchElementException") ∨ (kPut C j x = 4 ∧ E = "java/lang/UnsupportedOperationException")) ∧ ad' = ad ∧ τ' = τ) := by
  refine Sp.of 2 [some (.ref (ad 0)), some (.int j), some (.int x), none, none] (by decide +kernel) (Nat.le_of_ble_eq_true rfl) rfl ?_
  intro p e s m args below meth c A cx hout hr hnm
  have hO := (H_lines hH hI).1
  refine a_aload_n cx dX3_put_0 rfl rfl ?_
  refine a_iload_n cx dX3_put_1 rfl rfl ?_
  refine a_callV cx 1 (sp_X3_proposalNumbered (b := j) hH hI) hO rfl ml_X3_116 im_X3_proposalNumbered se_X3_proposalNumbered ini_X3 cd_X3_proposalNumbered rfl rfl (by decide +kernel) rfl rfl ⟨(Nat.le_of_ble_eq_true rfl), (Nat.le_of_ble_eq_true rfl)⟩ (Nat.le_of_ble_eq_true rfl) dX3_put_2 ⟨(Nat.le_of_ble_eq_true rfl), (Nat.le_of_ble_eq_true rfl)⟩ (fun E9 ad9 τ9 hX => a_out cx hout (Nat.le_of_ble_eq_true rfl) (Nat.le_of_ble_eq_true rfl) (⟨Or.inl ⟨(by unfold kPut; rw [if_neg (hX.1)]), hX.2.1⟩, hX.2.2.1, hX.2.2.2⟩)) (fun v9 ad9 τ9 hP => ?_)
  obtain ⟨hok, rfl, h2, h3⟩ := hP
  replace h2 := h2.symm
  subst h2
  replace h3 := h3.symm
  subst h3
  have hj := (okP_ix hI hok).2
  have hP := H_prop2 hH hI hj
  obtain ⟨hLj, hj8⟩ := cI_prp hI hj
  refine a_astore_n3 cx dX3_put_5 rfl (by decide) (by intro w h; first | (cases h; rfl) | (cases h; assumption) | (cases h; done)) ?_
  refine a_iload_n cx dX3_put_6 rfl rfl ?_
  refine a_bipush cx (v := 114) dX3_put_7 (by decide) ?_
  refine a_icmp_eq cx (tgt := 34) dX3_put_9 (by decide) (fun c_9 => ?_) (fun c_9 => ?_)
  · refine a_aload_n cx dX3_put_34 rfl rfl ?_
    refine a_callV cx 0 (sp_X2_hasSample hP) hP rfl ml_X3_131 im_X2_hasSample se_X2_hasSample ini_X2 cd_X2_hasSample rfl rfl (by decide +kernel) rfl rfl ⟨(Nat.le_of_ble_eq_true rfl), (Nat.le_of_ble_eq_true rfl)⟩ (Nat.le_of_ble_eq_true rfl) dX3_put_35 ⟨(Nat.le_of_ble_eq_true rfl), (Nat.le_of_ble_eq_true rfl)⟩ (fun _ _ _ h => h.elim) (fun v9 ad9 τ9 hP => ?_)
    obtain ⟨rfl, h2, h3⟩ := hP
    replace h2 := h2.symm
    subst h2
    replace h3 := h3.symm
    subst h3
    refine a_if_ne cx (tgt := 51) dX3_put_38 (by decide) (fun c_38 => ?_) (fun c_38 => ?_)
    · refine a_iload_n cx dX3_put_51 rfl rfl ?_
      refine a_bipush cx (v := 99) dX3_put_52 (by decide) ?_
      refine a_icmp_ne cx (tgt := 82) dX3_put_54 (by decide) (fun c_54 => ?_) (fun c_54 => ?_)
      · refine a_aload_n cx dX3_put_82 rfl rfl ?_
        refine gf_X3_125 cx hP dX3_put_83 ?_
        refine a_istore4 cx dX3_put_86 (by decide) (by intro w h; first | (cases h; rfl) | (cases h; assumption) | (cases h; done)) ?_
        refine a_aload_n cx dX3_put_88 rfl rfl ?_
        refine a_iload_n cx dX3_put_89 rfl rfl ?_
        refine pf_X3_125 cx hP (pl_nar (Or.inl c_9)) dX3_put_90 ?_
        refine a_iload cx dX3_put_93 rfl ?_
        exact a_zret cx hr dX3_put_95 (h8 _ hj) (Nat.le_of_ble_eq_true rfl) (Nat.le_of_ble_eq_true rfl) ⟨(by unfold kPut; rw [if_pos hok, if_pos (Or.inl c_9), if_pos (i10_1 c_38), if_neg (fun h => c_54 h.1)]), rfl, rfl, hH.prop hj8 hLj.1 (w := va_up (C (40 + tn j)) 8 x) rfl⟩
      · refine a_aload_n cx dX3_put_57 rfl rfl ?_
        refine a_callV cx 0 (sp_X2_isCold hP) hP rfl ml_X3_140 im_X2_isCold se_X2_isCold ini_X2 cd_X2_isCold rfl rfl (by decide +kernel) rfl rfl ⟨(Nat.le_of_ble_eq_true rfl), (Nat.le_of_ble_eq_true rfl)⟩ (Nat.le_of_ble_eq_true rfl) dX3_put_58 ⟨(Nat.le_of_ble_eq_true rfl), (Nat.le_of_ble_eq_true rfl)⟩ (fun _ _ _ h => h.elim) (fun v9 ad9 τ9 hP => ?_)
        obtain ⟨rfl, h2, h3⟩ := hP
        replace h2 := h2.symm
        subst h2
        replace h3 := h3.symm
        subst h3
        refine a_if_ne cx (tgt := 82) dX3_put_61 (by decide) (fun c_61 => ?_) (fun c_61 => ?_)
        · refine a_aload_n cx dX3_put_82 rfl rfl ?_
          refine gf_X3_125 cx hP dX3_put_83 ?_
          refine a_istore4 cx dX3_put_86 (by decide) (by intro w h; first | (cases h; rfl) | (cases h; assumption) | (cases h; done)) ?_
          refine a_aload_n cx dX3_put_88 rfl rfl ?_
          refine a_iload_n cx dX3_put_89 rfl rfl ?_
          refine pf_X3_125 cx hP (pl_nar (Or.inl c_9)) dX3_put_90 ?_
          refine a_iload cx dX3_put_93 rfl ?_
          exact a_zret cx hr dX3_put_95 (h8 _ hj) (Nat.le_of_ble_eq_true rfl) (Nat.le_of_ble_eq_true rfl) ⟨(by unfold kPut; rw [if_pos hok, if_pos (Or.inl c_9), if_pos (i10_1 c_38), if_neg (fun h => h.2.1 (i10_1 c_61))]), rfl, rfl, hH.prop hj8 hLj.1 (w := va_up (C (40 + tn j)) 8 x) rfl⟩
        · refine a_aload_n cx dX3_put_64 rfl rfl ?_
          refine a_callV cx 0 (sp_X3_countCold hH hI) hO rfl ml_X3_143 im_X3_countCold se_X3_countCold ini_X3 cd_X3_countCold rfl rfl (by decide +kernel) rfl rfl ⟨(Nat.le_of_ble_eq_true rfl), (Nat.le_of_ble_eq_true rfl)⟩ (Nat.le_of_ble_eq_true rfl) dX3_put_65 ⟨(Nat.le_of_ble_eq_true rfl), (Nat.le_of_ble_eq_true rfl)⟩ (fun _ _ _ h => h.elim) (fun v9 ad9 τ9 hP => ?_)
          obtain ⟨rfl, h2, h3⟩ := hP
          replace h2 := h2.symm
          subst h2
          replace h3 := h3.symm
          subst h3
          refine a_iconst cx (v := 3) dX3_put_68 (by decide) ?_
          refine a_icmp_lt cx (tgt := 82) dX3_put_69 (by decide) (fun c_69 => ?_) (fun c_69 => ?_)
          · refine a_aload_n cx dX3_put_82 rfl rfl ?_
            refine gf_X3_125 cx hP dX3_put_83 ?_
            refine a_istore4 cx dX3_put_86 (by decide) (by intro w h; first | (cases h; rfl) | (cases h; assumption) | (cases h; done)) ?_
            refine a_aload_n cx dX3_put_88 rfl rfl ?_
            refine a_iload_n cx dX3_put_89 rfl rfl ?_
            refine pf_X3_125 cx hP (pl_nar (Or.inl c_9)) dX3_put_90 ?_
            refine a_iload cx dX3_put_93 rfl ?_
            exact a_zret cx hr dX3_put_95 (h8 _ hj) (Nat.le_of_ble_eq_true rfl) (Nat.le_of_ble_eq_true rfl) ⟨(by unfold kPut; rw [if_pos hok, if_pos (Or.inl c_9), if_pos (i10_1 c_38), if_neg (fun h => lt_ge c_69 h.2.2)]), rfl, rfl, hH.prop hj8 hLj.1 (w := va_up (C (40 + tn j)) 8 x) rfl⟩
          · exact a_throw cx "the cold is full" ["java/lang/RuntimeException", "java/lang/Exception"] hout (by decide +kernel) fit_names cl_X3_146 ini_UnsupportedOperationException th_150.1 th_150.2 (by decide +kernel) dX3_put_72 dX3_put_75 dX3_put_76 dX3_put_78 dX3_put_81 (Nat.le_of_ble_eq_true rfl) (Nat.le_of_ble_eq_true rfl) (Nat.le_of_ble_eq_true rfl) (Nat.le_of_ble_eq_true rfl) (Nat.le_of_ble_eq_true rfl) (Nat.le_of_ble_eq_true rfl) ⟨Or.inr (Or.inr (Or.inr (⟨(by unfold kPut; rw [if_pos hok, if_pos (Or.inl c_9), if_pos (i10_1 c_38), if_pos ⟨c_54, i10_0 c_61, ge_lt c_69⟩]), rfl⟩))), rfl, rfl⟩
    · exact a_throwN cx "no sample" hout (by decide +kernel) dX3_put_41 dX3_put_44 dX3_put_45 dX3_put_47 dX3_put_50 (Nat.le_of_ble_eq_true rfl) (Nat.le_of_ble_eq_true rfl) (Nat.le_of_ble_eq_true rfl) (Nat.le_of_ble_eq_true rfl) (Nat.le_of_ble_eq_true rfl) (Nat.le_of_ble_eq_true rfl) ⟨Or.inr (Or.inr (Or.inl ⟨(by unfold kPut; rw [if_pos hok, if_pos (Or.inl c_9), if_neg (i10_0 c_38)]), rfl⟩)), rfl, rfl⟩
  · refine a_iload_n cx dX3_put_12 rfl rfl ?_
    refine a_bipush cx (v := 99) dX3_put_13 (by decide) ?_
    refine a_icmp_eq cx (tgt := 34) dX3_put_15 (by decide) (fun c_15 => ?_) (fun c_15 => ?_)
    · refine a_aload_n cx dX3_put_34 rfl rfl ?_
      refine a_callV cx 0 (sp_X2_hasSample hP) hP rfl ml_X3_131 im_X2_hasSample se_X2_hasSample ini_X2 cd_X2_hasSample rfl rfl (by decide +kernel) rfl rfl ⟨(Nat.le_of_ble_eq_true rfl), (Nat.le_of_ble_eq_true rfl)⟩ (Nat.le_of_ble_eq_true rfl) dX3_put_35 ⟨(Nat.le_of_ble_eq_true rfl), (Nat.le_of_ble_eq_true rfl)⟩ (fun _ _ _ h => h.elim) (fun v9 ad9 τ9 hP => ?_)
      obtain ⟨rfl, h2, h3⟩ := hP
      replace h2 := h2.symm
      subst h2
      replace h3 := h3.symm
      subst h3
      refine a_if_ne cx (tgt := 51) dX3_put_38 (by decide) (fun c_38 => ?_) (fun c_38 => ?_)
      · refine a_iload_n cx dX3_put_51 rfl rfl ?_
        refine a_bipush cx (v := 99) dX3_put_52 (by decide) ?_
        refine a_icmp_ne cx (tgt := 82) dX3_put_54 (by decide) (fun c_54 => ?_) (fun c_54 => ?_)
        · refine a_aload_n cx dX3_put_82 rfl rfl ?_
          refine gf_X3_125 cx hP dX3_put_83 ?_
          refine a_istore4 cx dX3_put_86 (by decide) (by intro w h; first | (cases h; rfl) | (cases h; assumption) | (cases h; done)) ?_
          refine a_aload_n cx dX3_put_88 rfl rfl ?_
          refine a_iload_n cx dX3_put_89 rfl rfl ?_
          refine pf_X3_125 cx hP (pl_nar (Or.inr (Or.inl c_15))) dX3_put_90 ?_
          refine a_iload cx dX3_put_93 rfl ?_
          exact a_zret cx hr dX3_put_95 (h8 _ hj) (Nat.le_of_ble_eq_true rfl) (Nat.le_of_ble_eq_true rfl) ⟨(by unfold kPut; rw [if_pos hok, if_pos (Or.inr (Or.inl c_15)), if_pos (i10_1 c_38), if_neg (fun h => c_54 h.1)]), rfl, rfl, hH.prop hj8 hLj.1 (w := va_up (C (40 + tn j)) 8 x) rfl⟩
        · refine a_aload_n cx dX3_put_57 rfl rfl ?_
          refine a_callV cx 0 (sp_X2_isCold hP) hP rfl ml_X3_140 im_X2_isCold se_X2_isCold ini_X2 cd_X2_isCold rfl rfl (by decide +kernel) rfl rfl ⟨(Nat.le_of_ble_eq_true rfl), (Nat.le_of_ble_eq_true rfl)⟩ (Nat.le_of_ble_eq_true rfl) dX3_put_58 ⟨(Nat.le_of_ble_eq_true rfl), (Nat.le_of_ble_eq_true rfl)⟩ (fun _ _ _ h => h.elim) (fun v9 ad9 τ9 hP => ?_)
          obtain ⟨rfl, h2, h3⟩ := hP
          replace h2 := h2.symm
          subst h2
          replace h3 := h3.symm
          subst h3
          refine a_if_ne cx (tgt := 82) dX3_put_61 (by decide) (fun c_61 => ?_) (fun c_61 => ?_)
          · refine a_aload_n cx dX3_put_82 rfl rfl ?_
            refine gf_X3_125 cx hP dX3_put_83 ?_
            refine a_istore4 cx dX3_put_86 (by decide) (by intro w h; first | (cases h; rfl) | (cases h; assumption) | (cases h; done)) ?_
            refine a_aload_n cx dX3_put_88 rfl rfl ?_
            refine a_iload_n cx dX3_put_89 rfl rfl ?_
            refine pf_X3_125 cx hP (pl_nar (Or.inr (Or.inl c_15))) dX3_put_90 ?_
            refine a_iload cx dX3_put_93 rfl ?_
            exact a_zret cx hr dX3_put_95 (h8 _ hj) (Nat.le_of_ble_eq_true rfl) (Nat.le_of_ble_eq_true rfl) ⟨(by unfold kPut; rw [if_pos hok, if_pos (Or.inr (Or.inl c_15)), if_pos (i10_1 c_38), if_neg (fun h => h.2.1 (i10_1 c_61))]), rfl, rfl, hH.prop hj8 hLj.1 (w := va_up (C (40 + tn j)) 8 x) rfl⟩
          · refine a_aload_n cx dX3_put_64 rfl rfl ?_
            refine a_callV cx 0 (sp_X3_countCold hH hI) hO rfl ml_X3_143 im_X3_countCold se_X3_countCold ini_X3 cd_X3_countCold rfl rfl (by decide +kernel) rfl rfl ⟨(Nat.le_of_ble_eq_true rfl), (Nat.le_of_ble_eq_true rfl)⟩ (Nat.le_of_ble_eq_true rfl) dX3_put_65 ⟨(Nat.le_of_ble_eq_true rfl), (Nat.le_of_ble_eq_true rfl)⟩ (fun _ _ _ h => h.elim) (fun v9 ad9 τ9 hP => ?_)
            obtain ⟨rfl, h2, h3⟩ := hP
            replace h2 := h2.symm
            subst h2
            replace h3 := h3.symm
            subst h3
            refine a_iconst cx (v := 3) dX3_put_68 (by decide) ?_
            refine a_icmp_lt cx (tgt := 82) dX3_put_69 (by decide) (fun c_69 => ?_) (fun c_69 => ?_)
            · refine a_aload_n cx dX3_put_82 rfl rfl ?_
              refine gf_X3_125 cx hP dX3_put_83 ?_
              refine a_istore4 cx dX3_put_86 (by decide) (by intro w h; first | (cases h; rfl) | (cases h; assumption) | (cases h; done)) ?_
              refine a_aload_n cx dX3_put_88 rfl rfl ?_
              refine a_iload_n cx dX3_put_89 rfl rfl ?_
              refine pf_X3_125 cx hP (pl_nar (Or.inr (Or.inl c_15))) dX3_put_90 ?_
              refine a_iload cx dX3_put_93 rfl ?_
              exact a_zret cx hr dX3_put_95 (h8 _ hj) (Nat.le_of_ble_eq_true rfl) (Nat.le_of_ble_eq_true rfl) ⟨(by unfold kPut; rw [if_pos hok, if_pos (Or.inr (Or.inl c_15)), if_pos (i10_1 c_38), if_neg (fun h => lt_ge c_69 h.2.2)]), rfl, rfl, hH.prop hj8 hLj.1 (w := va_up (C (40 + tn j)) 8 x) rfl⟩
            · exact a_throw cx "the cold is full" ["java/lang/RuntimeException", "java/lang/Exception"] hout (by decide +kernel) fit_names cl_X3_146 ini_UnsupportedOperationException th_150.1 th_150.2 (by decide +kernel) dX3_put_72 dX3_put_75 dX3_put_76 dX3_put_78 dX3_put_81 (Nat.le_of_ble_eq_true rfl) (Nat.le_of_ble_eq_true rfl) (Nat.le_of_ble_eq_true rfl) (Nat.le_of_ble_eq_true rfl) (Nat.le_of_ble_eq_true rfl) (Nat.le_of_ble_eq_true rfl) ⟨Or.inr (Or.inr (Or.inr (⟨(by unfold kPut; rw [if_pos hok, if_pos (Or.inr (Or.inl c_15)), if_pos (i10_1 c_38), if_pos ⟨c_54, i10_0 c_61, ge_lt c_69⟩]), rfl⟩))), rfl, rfl⟩
      · exact a_throwN cx "no sample" hout (by decide +kernel) dX3_put_41 dX3_put_44 dX3_put_45 dX3_put_47 dX3_put_50 (Nat.le_of_ble_eq_true rfl) (Nat.le_of_ble_eq_true rfl) (Nat.le_of_ble_eq_true rfl) (Nat.le_of_ble_eq_true rfl) (Nat.le_of_ble_eq_true rfl) (Nat.le_of_ble_eq_true rfl) ⟨Or.inr (Or.inr (Or.inl ⟨(by unfold kPut; rw [if_pos hok, if_pos (Or.inr (Or.inl c_15)), if_neg (i10_0 c_38)]), rfl⟩)), rfl, rfl⟩
    · refine a_iload_n cx dX3_put_18 rfl rfl ?_
      refine a_bipush cx (v := 98) dX3_put_19 (by decide) ?_
      refine a_icmp_eq cx (tgt := 34) dX3_put_21 (by decide) (fun c_21 => ?_) (fun c_21 => ?_)
      · refine a_aload_n cx dX3_put_34 rfl rfl ?_
        refine a_callV cx 0 (sp_X2_hasSample hP) hP rfl ml_X3_131 im_X2_hasSample se_X2_hasSample ini_X2 cd_X2_hasSample rfl rfl (by decide +kernel) rfl rfl ⟨(Nat.le_of_ble_eq_true rfl), (Nat.le_of_ble_eq_true rfl)⟩ (Nat.le_of_ble_eq_true rfl) dX3_put_35 ⟨(Nat.le_of_ble_eq_true rfl), (Nat.le_of_ble_eq_true rfl)⟩ (fun _ _ _ h => h.elim) (fun v9 ad9 τ9 hP => ?_)
        obtain ⟨rfl, h2, h3⟩ := hP
        replace h2 := h2.symm
        subst h2
        replace h3 := h3.symm
        subst h3
        refine a_if_ne cx (tgt := 51) dX3_put_38 (by decide) (fun c_38 => ?_) (fun c_38 => ?_)
        · refine a_iload_n cx dX3_put_51 rfl rfl ?_
          refine a_bipush cx (v := 99) dX3_put_52 (by decide) ?_
          refine a_icmp_ne cx (tgt := 82) dX3_put_54 (by decide) (fun c_54 => ?_) (fun c_54 => ?_)
          · refine a_aload_n cx dX3_put_82 rfl rfl ?_
            refine gf_X3_125 cx hP dX3_put_83 ?_
            refine a_istore4 cx dX3_put_86 (by decide) (by intro w h; first | (cases h; rfl) | (cases h; assumption) | (cases h; done)) ?_
            refine a_aload_n cx dX3_put_88 rfl rfl ?_
            refine a_iload_n cx dX3_put_89 rfl rfl ?_
            refine pf_X3_125 cx hP (pl_nar (Or.inr (Or.inr c_21))) dX3_put_90 ?_
            refine a_iload cx dX3_put_93 rfl ?_
            exact a_zret cx hr dX3_put_95 (h8 _ hj) (Nat.le_of_ble_eq_true rfl) (Nat.le_of_ble_eq_true rfl) ⟨(by unfold kPut; rw [if_pos hok, if_pos (Or.inr (Or.inr c_21)), if_pos (i10_1 c_38), if_neg (fun h => c_54 h.1)]), rfl, rfl, hH.prop hj8 hLj.1 (w := va_up (C (40 + tn j)) 8 x) rfl⟩
          · refine a_aload_n cx dX3_put_57 rfl rfl ?_
            refine a_callV cx 0 (sp_X2_isCold hP) hP rfl ml_X3_140 im_X2_isCold se_X2_isCold ini_X2 cd_X2_isCold rfl rfl (by decide +kernel) rfl rfl ⟨(Nat.le_of_ble_eq_true rfl), (Nat.le_of_ble_eq_true rfl)⟩ (Nat.le_of_ble_eq_true rfl) dX3_put_58 ⟨(Nat.le_of_ble_eq_true rfl), (Nat.le_of_ble_eq_true rfl)⟩ (fun _ _ _ h => h.elim) (fun v9 ad9 τ9 hP => ?_)
            obtain ⟨rfl, h2, h3⟩ := hP
            replace h2 := h2.symm
            subst h2
            replace h3 := h3.symm
            subst h3
            refine a_if_ne cx (tgt := 82) dX3_put_61 (by decide) (fun c_61 => ?_) (fun c_61 => ?_)
            · refine a_aload_n cx dX3_put_82 rfl rfl ?_
              refine gf_X3_125 cx hP dX3_put_83 ?_
              refine a_istore4 cx dX3_put_86 (by decide) (by intro w h; first | (cases h; rfl) | (cases h; assumption) | (cases h; done)) ?_
              refine a_aload_n cx dX3_put_88 rfl rfl ?_
              refine a_iload_n cx dX3_put_89 rfl rfl ?_
              refine pf_X3_125 cx hP (pl_nar (Or.inr (Or.inr c_21))) dX3_put_90 ?_
              refine a_iload cx dX3_put_93 rfl ?_
              exact a_zret cx hr dX3_put_95 (h8 _ hj) (Nat.le_of_ble_eq_true rfl) (Nat.le_of_ble_eq_true rfl) ⟨(by unfold kPut; rw [if_pos hok, if_pos (Or.inr (Or.inr c_21)), if_pos (i10_1 c_38), if_neg (fun h => h.2.1 (i10_1 c_61))]), rfl, rfl, hH.prop hj8 hLj.1 (w := va_up (C (40 + tn j)) 8 x) rfl⟩
            · refine a_aload_n cx dX3_put_64 rfl rfl ?_
              refine a_callV cx 0 (sp_X3_countCold hH hI) hO rfl ml_X3_143 im_X3_countCold se_X3_countCold ini_X3 cd_X3_countCold rfl rfl (by decide +kernel) rfl rfl ⟨(Nat.le_of_ble_eq_true rfl), (Nat.le_of_ble_eq_true rfl)⟩ (Nat.le_of_ble_eq_true rfl) dX3_put_65 ⟨(Nat.le_of_ble_eq_true rfl), (Nat.le_of_ble_eq_true rfl)⟩ (fun _ _ _ h => h.elim) (fun v9 ad9 τ9 hP => ?_)
              obtain ⟨rfl, h2, h3⟩ := hP
              replace h2 := h2.symm
              subst h2
              replace h3 := h3.symm
              subst h3
              refine a_iconst cx (v := 3) dX3_put_68 (by decide) ?_
              refine a_icmp_lt cx (tgt := 82) dX3_put_69 (by decide) (fun c_69 => ?_) (fun c_69 => ?_)
              · refine a_aload_n cx dX3_put_82 rfl rfl ?_
                refine gf_X3_125 cx hP dX3_put_83 ?_
                refine a_istore4 cx dX3_put_86 (by decide) (by intro w h; first | (cases h; rfl) | (cases h; assumption) | (cases h; done)) ?_
                refine a_aload_n cx dX3_put_88 rfl rfl ?_
                refine a_iload_n cx dX3_put_89 rfl rfl ?_
                refine pf_X3_125 cx hP (pl_nar (Or.inr (Or.inr c_21))) dX3_put_90 ?_
                refine a_iload cx dX3_put_93 rfl ?_
                exact a_zret cx hr dX3_put_95 (h8 _ hj) (Nat.le_of_ble_eq_true rfl) (Nat.le_of_ble_eq_true rfl) ⟨(by unfold kPut; rw [if_pos hok, if_pos (Or.inr (Or.inr c_21)), if_pos (i10_1 c_38), if_neg (fun h => lt_ge c_69 h.2.2)]), rfl, rfl, hH.prop hj8 hLj.1 (w := va_up (C (40 + tn j)) 8 x) rfl⟩
              · exact a_throw cx "the cold is full" ["java/lang/RuntimeException", "java/lang/Exception"] hout (by decide +kernel) fit_names cl_X3_146 ini_UnsupportedOperationException th_150.1 th_150.2 (by decide +kernel) dX3_put_72 dX3_put_75 dX3_put_76 dX3_put_78 dX3_put_81 (Nat.le_of_ble_eq_true rfl) (Nat.le_of_ble_eq_true rfl) (Nat.le_of_ble_eq_true rfl) (Nat.le_of_ble_eq_true rfl) (Nat.le_of_ble_eq_true rfl) (Nat.le_of_ble_eq_true rfl) ⟨Or.inr (Or.inr (Or.inr (⟨(by unfold kPut; rw [if_pos hok, if_pos (Or.inr (Or.inr c_21)), if_pos (i10_1 c_38), if_pos ⟨c_54, i10_0 c_61, ge_lt c_69⟩]), rfl⟩))), rfl, rfl⟩
        · exact a_throwN cx "no sample" hout (by decide +kernel) dX3_put_41 dX3_put_44 dX3_put_45 dX3_put_47 dX3_put_50 (Nat.le_of_ble_eq_true rfl) (Nat.le_of_ble_eq_true rfl) (Nat.le_of_ble_eq_true rfl) (Nat.le_of_ble_eq_true rfl) (Nat.le_of_ble_eq_true rfl) (Nat.le_of_ble_eq_true rfl) ⟨Or.inr (Or.inr (Or.inl ⟨(by unfold kPut; rw [if_pos hok, if_pos (Or.inr (Or.inr c_21)), if_neg (i10_0 c_38)]), rfl⟩)), rfl, rfl⟩
      · exact a_throw cx "no such place" ["java/lang/RuntimeException", "java/lang/Exception"] hout (by decide +kernel) fit_names cl_X3_34 ini_IllegalArgumentException th_38.1 th_38.2 (by decide +kernel) dX3_put_24 dX3_put_27 dX3_put_28 dX3_put_30 dX3_put_33 (Nat.le_of_ble_eq_true rfl) (Nat.le_of_ble_eq_true rfl) (Nat.le_of_ble_eq_true rfl) (Nat.le_of_ble_eq_true rfl) (Nat.le_of_ble_eq_true rfl) (Nat.le_of_ble_eq_true rfl) ⟨Or.inr (Or.inl ⟨(by unfold kPut; rw [if_pos (hok), if_neg (fun h => h.elim c_9 (fun h => h.elim c_15 c_21))]), rfl⟩), rfl, rfl⟩

set_option maxHeartbeats 4000000 in
set_option maxRecDepth 100000 in
/-- owedTo(user) -/
theorem sp_X3_owedTo {l : Launch} {g : GW} {ad : AD} {τ : RH} {Lv : Nat → Bool} {C : ME} {ρ : RH} {u : Int32} (hH : HH g ad Lv C ρ τ) (hI : cI Lv C) : Sp l g yX3_owedTo (.code yX3_owedTo cX3_owedTo 5 (some .int)) (rmv 3 0 0) [.ref (ad 0), .int u] ad τ 0 0 (fun v ad' τ' => v = some (.int (cOwed C u)) ∧ ad' = ad ∧ τ' = τ) (NoX) := by
  refine Sp.of 3 [some (.ref (ad 0)), some (.int u), none, none, none] (by decide +kernel) (Nat.le_of_ble_eq_true rfl) rfl ?_
  intro p e s m args below meth c A cx hout hr hnm
  obtain ⟨hO, hL1, hL3, hs1, hs3⟩ := H_lines hH hI
  refine a_iconst cx (v := 0) dX3_owedTo_0 (by decide) ?_
  refine a_istore_n2 cx dX3_owedTo_1 rfl (by decide) (by intro w h; first | (cases h; rfl) | (cases h; assumption) | (cases h; done)) ?_
  refine a_iconst cx (v := 0) dX3_owedTo_2 (by decide) ?_
  refine a_istore_n3 cx dX3_owedTo_3 rfl (by decide) (by intro w h; first | (cases h; rfl) | (cases h; assumption) | (cases h; done)) ?_
  refine a_loop (σ := Nat × Int32 × Option Value) (fun f s => s.1 + f = cNp C ∧ sumf (owJ C u) f s.1 s.2.1 = cOwed C u) (fun _ => ad) (fun _ => τ) (fun s => [some (.ref (ad 0)), some (.int u), some (.int s.2.1), some (.int (nI s.1)), s.2.2]) (cNp C) (0, 0, none) ⟨Nat.zero_add _, rfl⟩ rfl rfl rfl ?_
  rintro f ⟨i, x, z⟩ ⟨hi, hx⟩ ih
  dsimp only at hi hx ⊢
  refine a_iload_n cx dX3_owedTo_4 rfl rfl ?_
  refine a_aload_n cx dX3_owedTo_5 rfl rfl ?_
  refine gf_X3_16 cx hO dX3_owedTo_6 ?_
  refine a_callV cx 0 (sp_Jx4a65c_size_8abf5 hL3) hL3 rfl ml_X3_43 im_Jx4a65c_size_8abf5 se_Jx4a65c_size_8abf5 ini_Jx4a65c cd_Jx4a65c_size_8abf5 rfl rfl (by decide +kernel) rfl rfl ⟨(Nat.le_of_ble_eq_true rfl), (Nat.le_of_ble_eq_true rfl)⟩ (Nat.le_of_ble_eq_true rfl) dX3_owedTo_9 ⟨(Nat.le_of_ble_eq_true rfl), (Nat.le_of_ble_eq_true rfl)⟩ (fun _ _ _ h => h.elim) (fun v9 ad9 τ9 hP => ?_)
  obtain ⟨rfl, h2, h3⟩ := hP
  replace h2 := h2.symm
  subst h2
  replace h3 := h3.symm
  subst h3
  refine a_icmp_ge cx (tgt := 51) dX3_owedTo_12 (by decide) (fun c_12 => ?_) (fun c_12 => ?_)
  · refine a_iload_n cx dX3_owedTo_51 rfl rfl ?_
    exact a_iret cx hr dX3_owedTo_52 (Nat.le_of_ble_eq_true rfl) (Nat.le_of_ble_eq_true rfl) ⟨vI (by have hz : f = 0 := (by have := le_nI c_12 (by have := hI.2.1; omega) (by have := hI.2.1; omega); omega); subst hz; exact hx), rfl, rfl⟩
  · have hin : i < cNp C := by
      rcases Nat.lt_or_ge i (cNp C) with h9 | h9
      · exact h9
      · exact absurd (nI_le h9 (by have := hI.2.1; omega)) c_12
    obtain ⟨f, rfl⟩ : ∃ f9, f = f9 + 1 := ⟨f - 1, by omega⟩
    have hsp := sp_get_prop (l := l) hH hI hin
    have hP := H_prop2 hH hI hin
    refine a_aload_n cx dX3_owedTo_15 rfl rfl ?_
    refine gf_X3_16 cx hO dX3_owedTo_16 ?_
    refine a_iload_n cx dX3_owedTo_19 rfl rfl ?_
    refine a_callV cx 1 (hsp) hL3 rfl ml_X3_224 im_Jx4a65c_get_915e3 se_Jx4a65c_get_915e3 ini_Jx4a65c cd_Jx4a65c_get_915e3 rfl rfl (by decide +kernel) rfl rfl ⟨(Nat.le_of_ble_eq_true rfl), (Nat.le_of_ble_eq_true rfl)⟩ (Nat.le_of_ble_eq_true rfl) dX3_owedTo_20 ⟨(Nat.le_of_ble_eq_true rfl), (Nat.le_of_ble_eq_true rfl)⟩ (fun _ _ _ h => h.elim) (fun v9 ad9 τ9 hP => ?_)
    obtain ⟨rfl, h2, h3⟩ := hP
    replace h2 := h2.symm
    subst h2
    replace h3 := h3.symm
    subst h3
    refine a_castS cx hP rfl cl_X3_86 dX3_owedTo_23 ?_
    refine a_astore4 cx dX3_owedTo_26 (by decide) (by intro w h; first | (cases h; rfl) | (cases h; assumption) | (cases h; done)) ?_
    refine a_aload cx dX3_owedTo_28 rfl ?_
    refine gf_X3_246 cx hP dX3_owedTo_30 ?_
    refine a_iload_n cx dX3_owedTo_33 rfl rfl ?_
    refine a_icmp_ne cx (tgt := 45) dX3_owedTo_34 (by decide) (fun c_34 => ?_) (fun c_34 => ?_)
    · refine a_iinc3 cx (nI (i + 1)) dX3_owedTo_45 (nI_1 i) (by decide) (by intro w h; first | (cases h; rfl) | (cases h; assumption) | (cases h; done)) ?_
      refine a_goto cx (tgt := 4) dX3_owedTo_48 (by decide) ?_
      have hx9 : sumf (owJ C u) f (i + 1) (x) = cOwed C u := by rw [← hx]; show _ = sumf (owJ C u) f (i + 1) (x + owJ C u i); rw [show owJ C u i = 0 from if_neg c_34]; rw [add_0]
      exact ih f (i + 1, x, _) (Nat.lt_succ_self f) ⟨by omega, hx9⟩
    · refine a_iload_n cx dX3_owedTo_37 rfl rfl ?_
      refine a_aload cx dX3_owedTo_38 rfl ?_
      refine gf_X3_214 cx hP dX3_owedTo_40 ?_
      refine a_iadd cx dX3_owedTo_43 ?_
      refine a_istore_n2 cx dX3_owedTo_44 rfl (by decide) (by intro w h; first | (cases h; rfl) | (cases h; assumption) | (cases h; done)) ?_
      refine a_iinc3 cx (nI (i + 1)) dX3_owedTo_45 (nI_1 i) (by decide) (by intro w h; first | (cases h; rfl) | (cases h; assumption) | (cases h; done)) ?_
      refine a_goto cx (tgt := 4) dX3_owedTo_48 (by decide) ?_
      have hx9 : sumf (owJ C u) f (i + 1) (x + C (40 + i) 12) = cOwed C u := by rw [← hx]; show _ = sumf (owJ C u) f (i + 1) (x + owJ C u i); rw [show owJ C u i = C (40 + i) 12 from if_pos c_34]
      exact ih f (i + 1, x + C (40 + i) 12, _) (Nat.lt_succ_self f) ⟨by omega, hx9⟩

def kMost (C : ME) : Int32 := if cMost C < 0 then 1 else 0
theorem lt_of_nge {x y : Int32} (h : ¬ y ≤ x) : x < y := le_gt h
set_option maxHeartbeats 4000000 in
set_option maxRecDepth 100000 in
/-- mostOwed -/
theorem sp_X3_mostOwed {l : Launch} {g : GW} {ad : AD} {τ : RH} {Lv : Nat → Bool} {C : ME} {ρ : RH}  (hH : HH g ad Lv C ρ τ) (hI : cI Lv C) : Sp l g yX3_mostOwed (.code yX3_mostOwed cX3_mostOwed 5 (some .int)) (rmv 8 2 12) [.ref (ad 0)] ad τ 2 12 (fun v ad' τ' => kMost C = 0 ∧ v = some (.int (cMost C)) ∧ ad' = ad ∧ τ' = τ) (fun E ad' τ' => ((kMost C = 1 ∧ E = "java/util/NoSuchElementException")) ∧ ad' = ad ∧ τ' = τ) := by
  refine Sp.of 4 [some (.ref (ad 0)), none, none, none, none] (by decide +kernel) (Nat.le_of_ble_eq_true rfl) rfl ?_
  intro p e s m args below meth c A cx hout hr hnm
  have hO := (H_lines hH hI).1
  refine a_iconst cx (v := 0) dX3_mostOwed_0 (by decide) ?_
  refine a_istore_n1 cx dX3_mostOwed_1 rfl (by decide) (by intro w h; first | (cases h; rfl) | (cases h; assumption) | (cases h; done)) ?_
  refine a_iconst cx (v := -1) dX3_mostOwed_2 (by decide) ?_
  refine a_istore_n2 cx dX3_mostOwed_3 rfl (by decide) (by intro w h; first | (cases h; rfl) | (cases h; assumption) | (cases h; done)) ?_
  refine a_iconst cx (v := 0) dX3_mostOwed_4 (by decide) ?_
  refine a_istore_n3 cx dX3_mostOwed_5 rfl (by decide) (by intro w h; first | (cases h; rfl) | (cases h; assumption) | (cases h; done)) ?_
  refine a_loop (σ := Nat × Int32 × Int32 × Option Value) (fun f s => s.1 + f = 10 ∧ (moF C f s.1 s.2.1 s.2.2.1).2 = cMost C) (fun _ => ad) (fun _ => τ) (fun s => [some (.ref (ad 0)), some (.int s.2.1), some (.int s.2.2.1), some (.int (nI s.1)), s.2.2.2]) 10 (0, 0, -1, none) ⟨rfl, rfl⟩ rfl rfl rfl ?_
  rintro f ⟨i, m9, fd, z⟩ ⟨hi, hx⟩ ih
  dsimp only at hi hx ⊢
  refine a_iload_n cx dX3_mostOwed_6 rfl rfl ?_
  refine a_bipush cx (v := 10) dX3_mostOwed_7 (by decide) ?_
  refine a_icmp_ge cx (tgt := 36) dX3_mostOwed_9 (by decide) (fun c_9 => ?_) (fun c_9 => ?_)
  · have hz : f = 0 := (by have := le_nI (a := 10) (b := i) c_9 (by omega) (by decide); omega); subst hz
    replace hx : fd = cMost C := hx
    refine a_iload_n cx dX3_mostOwed_36 rfl rfl ?_
    refine a_if_ge cx (tgt := 50) dX3_mostOwed_37 (by decide) (fun c_37 => ?_) (fun c_37 => ?_)
    · refine a_iload_n cx dX3_mostOwed_50 rfl rfl ?_
      exact a_iret cx hr dX3_mostOwed_51 (Nat.le_of_ble_eq_true rfl) (Nat.le_of_ble_eq_true rfl) ⟨(by unfold kMost; rw [if_neg (by rw [← hx]; exact fun h => lt_ge h c_37)]), vI hx, rfl, rfl⟩
    · exact a_throwN cx "no shifts are owed" hout (by decide +kernel) dX3_mostOwed_40 dX3_mostOwed_43 dX3_mostOwed_44 dX3_mostOwed_46 dX3_mostOwed_49 (Nat.le_of_ble_eq_true rfl) (Nat.le_of_ble_eq_true rfl) (Nat.le_of_ble_eq_true rfl) (Nat.le_of_ble_eq_true rfl) (Nat.le_of_ble_eq_true rfl) (Nat.le_of_ble_eq_true rfl) ⟨⟨(by unfold kMost; rw [if_pos (by rw [← hx]; exact lt_of_nge c_37)]), rfl⟩, rfl, rfl⟩
  · have hin : i < 10 := by
      rcases Nat.lt_or_ge i 10 with h9 | h9
      · exact h9
      · exact absurd (nI_le h9 (by omega)) c_9
    obtain ⟨f, rfl⟩ : ∃ f9, f = f9 + 1 := ⟨f - 1, by omega⟩
    unfold moF at hx
    refine a_aload_n cx dX3_mostOwed_12 rfl rfl ?_
    refine a_iload_n cx dX3_mostOwed_13 rfl rfl ?_
    refine a_callV cx 1 (sp_X3_owedTo (u := nI i) hH hI) hO rfl ml_X3_219 im_X3_owedTo se_X3_owedTo ini_X3 cd_X3_owedTo rfl rfl (by decide +kernel) rfl rfl ⟨(Nat.le_of_ble_eq_true rfl), (Nat.le_of_ble_eq_true rfl)⟩ (Nat.le_of_ble_eq_true rfl) dX3_mostOwed_14 ⟨(Nat.le_of_ble_eq_true rfl), (Nat.le_of_ble_eq_true rfl)⟩ (fun _ _ _ h => h.elim) (fun v9 ad9 τ9 hP => ?_)
    obtain ⟨rfl, h2, h3⟩ := hP
    replace h2 := h2.symm
    subst h2
    replace h3 := h3.symm
    subst h3
    refine a_istore4 cx dX3_mostOwed_17 (by decide) (by intro w h; first | (cases h; rfl) | (cases h; assumption) | (cases h; done)) ?_
    refine a_iload cx dX3_mostOwed_19 rfl ?_
    refine a_iload_n cx dX3_mostOwed_21 rfl rfl ?_
    refine a_icmp_le cx (tgt := 30) dX3_mostOwed_22 (by decide) (fun c_22 => ?_) (fun c_22 => ?_)
    · refine a_iinc3 cx (nI (i + 1)) dX3_mostOwed_30 (nI_1 i) (by decide) (by intro w h; first | (cases h; rfl) | (cases h; assumption) | (cases h; done)) ?_
      refine a_goto cx (tgt := 6) dX3_mostOwed_33 (by decide) ?_
      rw [if_neg (fun h => lt_ge h c_22)] at hx
      exact ih f (i + 1, m9, fd, _) (Nat.lt_succ_self f) ⟨by omega, hx⟩
    · refine a_iload cx dX3_mostOwed_25 rfl ?_
      refine a_istore_n1 cx dX3_mostOwed_27 rfl (by decide) (by intro w h; first | (cases h; rfl) | (cases h; assumption) | (cases h; done)) ?_
      refine a_iload_n cx dX3_mostOwed_28 rfl rfl ?_
      refine a_istore_n2 cx dX3_mostOwed_29 rfl (by decide) (by intro w h; first | (cases h; rfl) | (cases h; assumption) | (cases h; done)) ?_
      refine a_iinc3 cx (nI (i + 1)) dX3_mostOwed_30 (nI_1 i) (by decide) (by intro w h; first | (cases h; rfl) | (cases h; assumption) | (cases h; done)) ?_
      refine a_goto cx (tgt := 6) dX3_mostOwed_33 (by decide) ?_
      rw [if_pos (le_gt c_22)] at hx
      exact ih f (i + 1, cOwed C (nI i), nI i, _) (Nat.lt_succ_self f) ⟨by omega, hx⟩

def kShare (C : ME) : Int32 := if cAllD C = 0 then 1 else 0
def cShare (C : ME) : UInt32 := FP.fdiv (FP.i2f (cDone C)) (FP.i2f (cAllD C))
def kMean (C : ME) : Int32 := if cNum C = 0 then 1 else 0
def cMean (C : ME) : UInt64 := FP.ddiv (FP.i2d (cSum C)) (FP.i2d (cNum C))
set_option maxHeartbeats 4000000 in
set_option maxRecDepth 100000 in
/-- doneShare -/
theorem sp_X3_doneShare {l : Launch} {g : GW} {ad : AD} {τ : RH} {Lv : Nat → Bool} {C : ME} {ρ : RH}  (hH : HH g ad Lv C ρ τ) (hI : cI Lv C) (hn : ¬ cAllD C = 0 → vf_n32 (cShare C)) : Sp l g yX3_doneShare (.code yX3_doneShare cX3_doneShare 5 (some .float)) (rmv 8 2 12) [.ref (ad 0)] ad τ 2 12 (fun v ad' τ' => kShare C = 0 ∧ v = some (.float (cShare C)) ∧ ad' = ad ∧ τ' = τ) (fun E ad' τ' => ((kShare C = 1 ∧ E = "java/lang/ArithmeticException")) ∧ ad' = ad ∧ τ' = τ) := by
  refine Sp.of 4 [some (.ref (ad 0)), none, none, none, none] (by decide +kernel) (Nat.le_of_ble_eq_true rfl) rfl ?_
  intro p e s m args below meth c A cx hout hr hnm
  have hO := (H_lines hH hI).1
  obtain ⟨hO, hL1, hL3, hs1, hs3⟩ := H_lines hH hI
  refine a_iconst cx (v := 0) dX3_doneShare_0 (by decide) ?_
  refine a_istore_n1 cx dX3_doneShare_1 rfl (by decide) (by intro w h; first | (cases h; rfl) | (cases h; assumption) | (cases h; done)) ?_
  refine a_iconst cx (v := 0) dX3_doneShare_2 (by decide) ?_
  refine a_istore_n2 cx dX3_doneShare_3 rfl (by decide) (by intro w h; first | (cases h; rfl) | (cases h; assumption) | (cases h; done)) ?_
  refine a_iconst cx (v := 0) dX3_doneShare_4 (by decide) ?_
  refine a_istore_n3 cx dX3_doneShare_5 rfl (by decide) (by intro w h; first | (cases h; rfl) | (cases h; assumption) | (cases h; done)) ?_
  refine a_loop (σ := Nat × Int32 × Int32 × Option Value) (fun f s => s.1 + f = cNp C ∧ sumf (fun j => C (40 + j) 9) f s.1 s.2.1 = cDone C ∧ sumf (fun j => C (40 + j) 9 + C (40 + j) 10 + C (40 + j) 11) f s.1 s.2.2.1 = cAllD C) (fun _ => ad) (fun _ => τ) (fun s => [some (.ref (ad 0)), some (.int s.2.1), some (.int s.2.2.1), some (.int (nI s.1)), s.2.2.2]) (cNp C) (0, 0, 0, none) ⟨Nat.zero_add _, rfl, rfl⟩ rfl rfl rfl ?_
  rintro f ⟨i, x, y, z⟩ ⟨hi, hx, hy⟩ ih
  dsimp only at hi hx hy ⊢
  refine a_iload_n cx dX3_doneShare_6 rfl rfl ?_
  refine a_aload_n cx dX3_doneShare_7 rfl rfl ?_
  refine gf_X3_16 cx hO dX3_doneShare_8 ?_
  refine a_callV cx 0 (sp_Jx4a65c_size_8abf5 hL3) hL3 rfl ml_X3_43 im_Jx4a65c_size_8abf5 se_Jx4a65c_size_8abf5 ini_Jx4a65c cd_Jx4a65c_size_8abf5 rfl rfl (by decide +kernel) rfl rfl ⟨(Nat.le_of_ble_eq_true rfl), (Nat.le_of_ble_eq_true rfl)⟩ (Nat.le_of_ble_eq_true rfl) dX3_doneShare_11 ⟨(Nat.le_of_ble_eq_true rfl), (Nat.le_of_ble_eq_true rfl)⟩ (fun _ _ _ h => h.elim) (fun v9 ad9 τ9 hP => ?_)
  obtain ⟨rfl, h2, h3⟩ := hP
  replace h2 := h2.symm
  subst h2
  replace h3 := h3.symm
  subst h3
  refine a_icmp_ge cx (tgt := 64) dX3_doneShare_14 (by decide) (fun c_14 => ?_) (fun c_14 => ?_)
  · have hz : f = 0 := (by have := le_nI c_14 (by have := hI.2.1; omega) (by have := hI.2.1; omega); omega); subst hz
    replace hx : x = cDone C := hx
    replace hy : y = cAllD C := hy
    subst hx
    subst hy
    refine a_iload_n cx dX3_doneShare_64 rfl rfl ?_
    refine a_if_ne cx (tgt := 78) dX3_doneShare_65 (by decide) (fun c_65 => ?_) (fun c_65 => ?_)
    · refine a_iload_n cx dX3_doneShare_78 rfl rfl ?_
      refine a_i2f cx dX3_doneShare_79 ?_
      refine a_iload_n cx dX3_doneShare_80 rfl rfl ?_
      refine a_i2f cx dX3_doneShare_81 ?_
      refine a_fdiv cx dX3_doneShare_82 (hn c_65) ?_
      exact a_fret cx hr dX3_doneShare_83 (Nat.le_of_ble_eq_true rfl) (Nat.le_of_ble_eq_true rfl) ⟨(by unfold kShare; rw [if_neg c_65]), rfl, rfl, rfl⟩
    · exact a_throw cx "no shifts were done, missed or lost" ["java/lang/RuntimeException", "java/lang/Exception"] hout (by decide +kernel) fit_names cl_X3_228 ini_ArithmeticException th_232.1 th_232.2 (by decide +kernel) dX3_doneShare_68 dX3_doneShare_71 dX3_doneShare_72 dX3_doneShare_74 dX3_doneShare_77 (Nat.le_of_ble_eq_true rfl) (Nat.le_of_ble_eq_true rfl) (Nat.le_of_ble_eq_true rfl) (Nat.le_of_ble_eq_true rfl) (Nat.le_of_ble_eq_true rfl) (Nat.le_of_ble_eq_true rfl) ⟨⟨(by unfold kShare; rw [if_pos c_65]), rfl⟩, rfl, rfl⟩
  · have hin : i < cNp C := by
      rcases Nat.lt_or_ge i (cNp C) with h9 | h9
      · exact h9
      · exact absurd (nI_le h9 (by have := hI.2.1; omega)) c_14
    obtain ⟨f, rfl⟩ : ∃ f9, f = f9 + 1 := ⟨f - 1, by omega⟩
    have hsp := sp_get_prop (l := l) hH hI hin
    have hP := H_prop2 hH hI hin
    refine a_aload_n cx dX3_doneShare_17 rfl rfl ?_
    refine gf_X3_16 cx hO dX3_doneShare_18 ?_
    refine a_iload_n cx dX3_doneShare_21 rfl rfl ?_
    refine a_callV cx 1 (hsp) hL3 rfl ml_X3_224 im_Jx4a65c_get_915e3 se_Jx4a65c_get_915e3 ini_Jx4a65c cd_Jx4a65c_get_915e3 rfl rfl (by decide +kernel) rfl rfl ⟨(Nat.le_of_ble_eq_true rfl), (Nat.le_of_ble_eq_true rfl)⟩ (Nat.le_of_ble_eq_true rfl) dX3_doneShare_22 ⟨(Nat.le_of_ble_eq_true rfl), (Nat.le_of_ble_eq_true rfl)⟩ (fun _ _ _ h => h.elim) (fun v9 ad9 τ9 hP => ?_)
    obtain ⟨rfl, h2, h3⟩ := hP
    replace h2 := h2.symm
    subst h2
    replace h3 := h3.symm
    subst h3
    refine a_castS cx hP rfl cl_X3_86 dX3_doneShare_25 ?_
    refine a_astore4 cx dX3_doneShare_28 (by decide) (by intro w h; first | (cases h; rfl) | (cases h; assumption) | (cases h; done)) ?_
    refine a_iload_n cx dX3_doneShare_30 rfl rfl ?_
    refine a_aload cx dX3_doneShare_31 rfl ?_
    refine gf_X3_205 cx hP dX3_doneShare_33 ?_
    refine a_iadd cx dX3_doneShare_36 ?_
    refine a_istore_n1 cx dX3_doneShare_37 rfl (by decide) (by intro w h; first | (cases h; rfl) | (cases h; assumption) | (cases h; done)) ?_
    refine a_iload_n cx dX3_doneShare_38 rfl rfl ?_
    refine a_aload cx dX3_doneShare_39 rfl ?_
    refine gf_X3_205 cx hP dX3_doneShare_41 ?_
    refine a_aload cx dX3_doneShare_44 rfl ?_
    refine gf_X3_208 cx hP dX3_doneShare_46 ?_
    refine a_iadd cx dX3_doneShare_49 ?_
    refine a_aload cx dX3_doneShare_50 rfl ?_
    refine gf_X3_211 cx hP dX3_doneShare_52 ?_
    refine a_iadd cx dX3_doneShare_55 ?_
    refine a_iadd cx dX3_doneShare_56 ?_
    refine a_istore_n2 cx dX3_doneShare_57 rfl (by decide) (by intro w h; first | (cases h; rfl) | (cases h; assumption) | (cases h; done)) ?_
    refine a_iinc3 cx (nI (i + 1)) dX3_doneShare_58 (nI_1 i) (by decide) (by intro w h; first | (cases h; rfl) | (cases h; assumption) | (cases h; done)) ?_
    refine a_goto cx (tgt := 6) dX3_doneShare_61 (by decide) ?_
    exact ih f (i + 1, x + C (40 + i) 9, y + (C (40 + i) 9 + C (40 + i) 10 + C (40 + i) 11), _) (Nat.lt_succ_self f) ⟨by omega, hx, hy⟩

set_option maxHeartbeats 4000000 in
set_option maxRecDepth 100000 in
/-- meanScore -/
theorem sp_X3_meanScore {l : Launch} {g : GW} {ad : AD} {τ : RH} {Lv : Nat → Bool} {C : ME} {ρ : RH}  (hH : HH g ad Lv C ρ τ) (hI : cI Lv C) (hn : ¬ cNum C = 0 → vf_n64 (cMean C)) : Sp l g yX3_meanScore (.code yX3_meanScore cX3_meanScore 5 (some .double)) (rmv 8 2 12) [.ref (ad 0)] ad τ 2 12 (fun v ad' τ' => kMean C = 0 ∧ v = some (.double (cMean C)) ∧ ad' = ad ∧ τ' = τ) (fun E ad' τ' => ((kMean C = 1 ∧ E = "java/lang/ArithmeticException")) ∧ ad' = ad ∧ τ' = τ) := by
  refine Sp.of 4 [some (.ref (ad 0)), none, none, none, none] (by decide +kernel) (Nat.le_of_ble_eq_true rfl) rfl ?_
  intro p e s m args below meth c A cx hout hr hnm
  have hO := (H_lines hH hI).1
  obtain ⟨hO, hL1, hL3, hs1, hs3⟩ := H_lines hH hI
  refine a_iconst cx (v := 0) dX3_meanScore_0 (by decide) ?_
  refine a_istore_n1 cx dX3_meanScore_1 rfl (by decide) (by intro w h; first | (cases h; rfl) | (cases h; assumption) | (cases h; done)) ?_
  refine a_iconst cx (v := 0) dX3_meanScore_2 (by decide) ?_
  refine a_istore_n2 cx dX3_meanScore_3 rfl (by decide) (by intro w h; first | (cases h; rfl) | (cases h; assumption) | (cases h; done)) ?_
  refine a_iconst cx (v := 0) dX3_meanScore_4 (by decide) ?_
  refine a_istore_n3 cx dX3_meanScore_5 rfl (by decide) (by intro w h; first | (cases h; rfl) | (cases h; assumption) | (cases h; done)) ?_
  refine a_loop (σ := Nat × Int32 × Int32 × Option Value) (fun f s => s.1 + f = cNp C ∧ sumf (fun j => if C (40 + j) 6 = -1 then 0 else C (40 + j) 3) f s.1 s.2.1 = cSum C ∧ sumf (fun j => if C (40 + j) 6 = -1 then 0 else 1) f s.1 s.2.2.1 = cNum C) (fun _ => ad) (fun _ => τ) (fun s => [some (.ref (ad 0)), some (.int s.2.1), some (.int s.2.2.1), some (.int (nI s.1)), s.2.2.2]) (cNp C) (0, 0, 0, none) ⟨Nat.zero_add _, rfl, rfl⟩ rfl rfl rfl ?_
  rintro f ⟨i, x, y, z⟩ ⟨hi, hx, hy⟩ ih
  dsimp only at hi hx hy ⊢
  refine a_iload_n cx dX3_meanScore_6 rfl rfl ?_
  refine a_aload_n cx dX3_meanScore_7 rfl rfl ?_
  refine gf_X3_16 cx hO dX3_meanScore_8 ?_
  refine a_callV cx 0 (sp_Jx4a65c_size_8abf5 hL3) hL3 rfl ml_X3_43 im_Jx4a65c_size_8abf5 se_Jx4a65c_size_8abf5 ini_Jx4a65c cd_Jx4a65c_size_8abf5 rfl rfl (by decide +kernel) rfl rfl ⟨(Nat.le_of_ble_eq_true rfl), (Nat.le_of_ble_eq_true rfl)⟩ (Nat.le_of_ble_eq_true rfl) dX3_meanScore_11 ⟨(Nat.le_of_ble_eq_true rfl), (Nat.le_of_ble_eq_true rfl)⟩ (fun _ _ _ h => h.elim) (fun v9 ad9 τ9 hP => ?_)
  obtain ⟨rfl, h2, h3⟩ := hP
  replace h2 := h2.symm
  subst h2
  replace h3 := h3.symm
  subst h3
  refine a_icmp_ge cx (tgt := 56) dX3_meanScore_14 (by decide) (fun c_14 => ?_) (fun c_14 => ?_)
  · have hz : f = 0 := (by have := le_nI c_14 (by have := hI.2.1; omega) (by have := hI.2.1; omega); omega); subst hz
    replace hx : x = cSum C := hx
    replace hy : y = cNum C := hy
    subst hx
    subst hy
    refine a_iload_n cx dX3_meanScore_56 rfl rfl ?_
    refine a_if_ne cx (tgt := 70) dX3_meanScore_57 (by decide) (fun c_57 => ?_) (fun c_57 => ?_)
    · refine a_iload_n cx dX3_meanScore_70 rfl rfl ?_
      refine a_i2d cx dX3_meanScore_71 ?_
      refine a_iload_n cx dX3_meanScore_72 rfl rfl ?_
      refine a_i2d cx dX3_meanScore_73 ?_
      refine a_ddiv cx dX3_meanScore_74 (hn c_57) ?_
      exact a_dret cx hr dX3_meanScore_75 (Nat.le_of_ble_eq_true rfl) (Nat.le_of_ble_eq_true rfl) ⟨(by unfold kMean; rw [if_neg c_57]), rfl, rfl, rfl⟩
    · exact a_throw cx "no proposals are in queues" ["java/lang/RuntimeException", "java/lang/Exception"] hout (by decide +kernel) fit_names cl_X3_228 ini_ArithmeticException th_232.1 th_232.2 (by decide +kernel) dX3_meanScore_60 dX3_meanScore_63 dX3_meanScore_64 dX3_meanScore_66 dX3_meanScore_69 (Nat.le_of_ble_eq_true rfl) (Nat.le_of_ble_eq_true rfl) (Nat.le_of_ble_eq_true rfl) (Nat.le_of_ble_eq_true rfl) (Nat.le_of_ble_eq_true rfl) (Nat.le_of_ble_eq_true rfl) ⟨⟨(by unfold kMean; rw [if_pos c_57]), rfl⟩, rfl, rfl⟩
  · have hin : i < cNp C := by
      rcases Nat.lt_or_ge i (cNp C) with h9 | h9
      · exact h9
      · exact absurd (nI_le h9 (by have := hI.2.1; omega)) c_14
    obtain ⟨f, rfl⟩ : ∃ f9, f = f9 + 1 := ⟨f - 1, by omega⟩
    have hsp := sp_get_prop (l := l) hH hI hin
    have hP := H_prop2 hH hI hin
    unfold sumf at hx hy
    refine a_aload_n cx dX3_meanScore_17 rfl rfl ?_
    refine gf_X3_16 cx hO dX3_meanScore_18 ?_
    refine a_iload_n cx dX3_meanScore_21 rfl rfl ?_
    refine a_callV cx 1 (hsp) hL3 rfl ml_X3_224 im_Jx4a65c_get_915e3 se_Jx4a65c_get_915e3 ini_Jx4a65c cd_Jx4a65c_get_915e3 rfl rfl (by decide +kernel) rfl rfl ⟨(Nat.le_of_ble_eq_true rfl), (Nat.le_of_ble_eq_true rfl)⟩ (Nat.le_of_ble_eq_true rfl) dX3_meanScore_22 ⟨(Nat.le_of_ble_eq_true rfl), (Nat.le_of_ble_eq_true rfl)⟩ (fun _ _ _ h => h.elim) (fun v9 ad9 τ9 hP => ?_)
    obtain ⟨rfl, h2, h3⟩ := hP
    replace h2 := h2.symm
    subst h2
    replace h3 := h3.symm
    subst h3
    refine a_castS cx hP rfl cl_X3_86 dX3_meanScore_25 ?_
    refine a_astore4 cx dX3_meanScore_28 (by decide) (by intro w h; first | (cases h; rfl) | (cases h; assumption) | (cases h; done)) ?_
    refine a_aload cx dX3_meanScore_30 rfl ?_
    refine gf_X3_193 cx hP dX3_meanScore_32 ?_
    refine a_iconst cx (v := -1) dX3_meanScore_35 (by decide) ?_
    refine a_icmp_eq cx (tgt := 50) dX3_meanScore_36 (by decide) (fun c_36 => ?_) (fun c_36 => ?_)
    · refine a_iinc3 cx (nI (i + 1)) dX3_meanScore_50 (nI_1 i) (by decide) (by intro w h; first | (cases h; rfl) | (cases h; assumption) | (cases h; done)) ?_
      refine a_goto cx (tgt := 6) dX3_meanScore_53 (by decide) ?_
      rw [if_pos c_36] at hx hy
      rw [add_0] at hx hy
      exact ih f (i + 1, x, y, _) (Nat.lt_succ_self f) ⟨by omega, hx, hy⟩
    · refine a_iload_n cx dX3_meanScore_39 rfl rfl ?_
      refine a_aload cx dX3_meanScore_40 rfl ?_
      refine gf_X3_233 cx hP dX3_meanScore_42 ?_
      refine a_iadd cx dX3_meanScore_45 ?_
      refine a_istore_n1 cx dX3_meanScore_46 rfl (by decide) (by intro w h; first | (cases h; rfl) | (cases h; assumption) | (cases h; done)) ?_
      refine a_iinc2 cx (y + 1) dX3_meanScore_47 (rfl) (by decide) (by intro w h; first | (cases h; rfl) | (cases h; assumption) | (cases h; done)) ?_
      refine a_iinc3 cx (nI (i + 1)) dX3_meanScore_50 (nI_1 i) (by decide) (by intro w h; first | (cases h; rfl) | (cases h; assumption) | (cases h; done)) ?_
      refine a_goto cx (tgt := 6) dX3_meanScore_53 (by decide) ?_
      rw [if_neg c_36] at hx hy
      exact ih f (i + 1, x + C (40 + i) 3, y + 1, _) (Nat.lt_succ_self f) ⟨by omega, hx, hy⟩

