def kTrain (C : ME) (u : Int32) : Int32 := if ¬ u < 0 ∧ ¬ nI 10 ≤ u then (if C 5 (tn u) = 0 then 0 else 2) else 1
def cTrained (w : Nat → Int32) : Int32 := sumf (fun i => if w i = 0 then 0 else 1) 10 0 0
set_option maxHeartbeats 4000000 in
set_option maxRecDepth 100000 in
/-- train -/
theorem sp_X3_train {l : Launch} {g : GW} {ad : AD} {τ : RH} {Lv : Nat → Bool} {C : ME} {ρ : RH} {u : Int32} (hH : HH g ad Lv C ρ τ) (hI : cI Lv C) : Sp l g yX3_train (.code yX3_train cX3_train 7 (some .int)) (rmv 8 2 12) [.ref (ad 0), .int u] ad τ 2 12 (fun v ad' τ' => kTrain C u = 0 ∧ v = some (.int (cTrained (va_up (C 5) (tn u) 1))) ∧ ad' = ad ∧ HH g ad Lv (up2 C 5 (tn u) 1) ρ τ') (fun E ad' τ' => ((kTrain C u = 1 ∧ E = "java/lang/IndexOutOfBoundsException") ∨ (kTrain C u = 2 ∧ E = "java/lang/IllegalStateException")) ∧ ad' = ad ∧ τ' = τ) := by
  refine Sp.of 5 [some (.ref (ad 0)), some (.int u), none, none, none, none, none] (by decide +kernel) (Nat.le_of_ble_eq_true rfl) rfl ?_
  intro p e s m args below meth c A cx hout hr hnm
  have hO := (H_lines hH hI).1
  have hT := H_there hH hI
  have hO9 := hO
  refine a_iload_n cx dX3_train_0 rfl rfl ?_
  refine a_if_lt cx (tgt := 13) dX3_train_1 (by decide) (fun c_1 => ?_) (fun c_1 => ?_)
  · exact a_throw cx "no such user" ["java/lang/RuntimeException", "java/lang/Exception"] hout (by decide +kernel) fit_names cl_X3_109 ini_IndexOutOfBoundsException th_113.1 th_113.2 (by decide +kernel) dX3_train_13 dX3_train_16 dX3_train_17 dX3_train_19 dX3_train_22 (Nat.le_of_ble_eq_true rfl) (Nat.le_of_ble_eq_true rfl) (Nat.le_of_ble_eq_true rfl) (Nat.le_of_ble_eq_true rfl) (Nat.le_of_ble_eq_true rfl) (Nat.le_of_ble_eq_true rfl) ⟨Or.inl ⟨(by unfold kTrain; rw [if_neg (fun h => h.1 c_1)]), rfl⟩, rfl, rfl⟩
  · refine a_iload_n cx dX3_train_4 rfl rfl ?_
    refine a_aload_n cx dX3_train_5 rfl rfl ?_
    refine gf_X3_19 cx hO9 dX3_train_6 ?_
    refine a_alen cx 2 hT.1 rfl rfl dX3_train_9 ?_
    refine a_icmp_lt cx (tgt := 23) dX3_train_10 (by decide) (fun c_10 => ?_) (fun c_10 => ?_)
    · refine a_aload_n cx dX3_train_23 rfl rfl ?_
      refine gf_X3_19 cx hO9 dX3_train_24 ?_
      refine a_iload_n cx dX3_train_27 rfl rfl ?_
      refine a_zld cx (tn u) hT.1 ((ten_ix c_1 c_10).1) ((ten_ix c_1 c_10).2) (by decide) dX3_train_28 ?_
      refine a_if_eq cx (tgt := 42) dX3_train_29 (by decide) (fun c_29 => ?_) (fun c_29 => ?_)
      · refine a_aload_n cx dX3_train_42 rfl rfl ?_
        refine gf_X3_19 cx hO9 dX3_train_43 ?_
        refine a_iload_n cx dX3_train_46 rfl rfl ?_
        refine a_iconst cx (v := 1) dX3_train_47 (by decide) ?_
        refine a_zst cx (tn u) hT.1 ((ten_ix c_1 c_10).1) ((ten_ix c_1 c_10).2) (by decide) (by first | rfl | decide) dX3_train_48 ?_
        have htk : kTrain C u = 0 := by unfold kTrain; rw [if_pos ⟨c_1, fun h => lt_ge c_10 h⟩, if_pos c_29]
        refine a_iconst cx (v := 0) dX3_train_49 (by decide) ?_
        refine a_istore_n2 cx dX3_train_50 rfl (by decide) (by intro w h; first | (cases h; rfl) | (cases h; assumption) | (cases h; done)) ?_
        refine a_aload_n cx dX3_train_51 rfl rfl ?_
        refine gf_X3_19 cx ((va_up_ne _ _ (by decide : (0 : Nat) ≠ 5)).trans hO9) dX3_train_52 ?_
        refine a_astore_n3 cx dX3_train_55 rfl (by decide) (by intro w h; first | (cases h; rfl) | (cases h; assumption) | (cases h; done)) ?_
        refine a_aload_n cx dX3_train_56 rfl rfl ?_
        refine a_alen cx 2 (va_up_self _ _ _) rfl rfl dX3_train_57 ?_
        refine a_istore4 cx dX3_train_58 (by decide) (by intro w h; first | (cases h; rfl) | (cases h; assumption) | (cases h; done)) ?_
        refine a_iconst cx (v := 0) dX3_train_60 (by decide) ?_
        refine a_istore5 cx dX3_train_61 (by decide) (by intro w h; first | (cases h; rfl) | (cases h; assumption) | (cases h; done)) ?_
        refine a_loop (σ := Nat × Int32 × Option Value) (fun f s => s.1 + f = 10 ∧ sumf (fun i => if va_up (C 5) (tn u) 1 i = 0 then 0 else 1) f s.1 s.2.1 = cTrained (va_up (C 5) (tn u) 1)) (fun _ => ad) (fun _ => _) (fun s => [some (.ref (ad 0)), some (.int u), some (.int s.2.1), some (.ref (ad 5)), some (.int (nI 10)), some (.int (nI s.1)), s.2.2]) 10 (0, 0, none) ⟨rfl, rfl⟩ rfl rfl rfl ?_
        rintro f ⟨i, x, z⟩ ⟨hi, hx⟩ ih
        dsimp only at hi hx ⊢
        refine a_iload cx dX3_train_63 rfl ?_
        refine a_iload cx dX3_train_65 rfl ?_
        refine a_icmp_ge cx (tgt := 90) dX3_train_67 (by decide) (fun c_67 => ?_) (fun c_67 => ?_)
        · refine a_iload_n cx dX3_train_90 rfl rfl ?_
          exact a_iret cx hr dX3_train_91 (Nat.le_of_ble_eq_true rfl) (Nat.le_of_ble_eq_true rfl) ⟨htk, vI (by have hz : f = 0 := (by have := le_nI (a := 10) (b := i) c_67 (by omega) (by decide); omega); subst hz; exact hx), rfl, hH.put (r := 5) (tn u) 1 (by decide) hI.2.2.2.1 rfl⟩
        · have hin : i < 10 := by
            rcases Nat.lt_or_ge i 10 with h9 | h9
            · exact h9
            · exact absurd (nI_le h9 (by omega)) c_67
          obtain ⟨f, rfl⟩ : ∃ f9, f = f9 + 1 := ⟨f - 1, by omega⟩
          unfold sumf at hx
          refine a_aload_n cx dX3_train_70 rfl rfl ?_
          refine a_iload cx dX3_train_71 rfl ?_
          refine a_zld cx (i) (va_up_self _ _ _) (rfl) (hin) (by decide) dX3_train_73 ?_
          refine a_istore6 cx dX3_train_74 (by decide) (by intro w h; first | (cases h; rfl) | (cases h; assumption) | (cases h; done)) ?_
          refine a_iload cx dX3_train_76 rfl ?_
          refine a_if_eq cx (tgt := 84) dX3_train_78 (by decide) (fun c_78 => ?_) (fun c_78 => ?_)
          · refine a_iinc5 cx (nI (i + 1)) dX3_train_84 (nI_1 i) (by decide) (by intro w h; first | (cases h; rfl) | (cases h; assumption) | (cases h; done)) ?_
            refine a_goto cx (tgt := 63) dX3_train_87 (by decide) ?_
            rw [if_pos c_78] at hx
            rw [add_0] at hx
            exact ih f (i + 1, x, _) (Nat.lt_succ_self f) ⟨by omega, hx⟩
          · refine a_iinc2 cx (x + 1) dX3_train_81 (rfl) (by decide) (by intro w h; first | (cases h; rfl) | (cases h; assumption) | (cases h; done)) ?_
            refine a_iinc5 cx (nI (i + 1)) dX3_train_84 (nI_1 i) (by decide) (by intro w h; first | (cases h; rfl) | (cases h; assumption) | (cases h; done)) ?_
            refine a_goto cx (tgt := 63) dX3_train_87 (by decide) ?_
            rw [if_neg c_78] at hx
            exact ih f (i + 1, x + 1, _) (Nat.lt_succ_self f) ⟨by omega, hx⟩
      · exact a_throw cx "the user is trained" ["java/lang/RuntimeException", "java/lang/Exception"] hout (by decide +kernel) fit_names cl_X3_47 ini_IllegalStateException th_51.1 th_51.2 (by decide +kernel) dX3_train_32 dX3_train_35 dX3_train_36 dX3_train_38 dX3_train_41 (Nat.le_of_ble_eq_true rfl) (Nat.le_of_ble_eq_true rfl) (Nat.le_of_ble_eq_true rfl) (Nat.le_of_ble_eq_true rfl) (Nat.le_of_ble_eq_true rfl) (Nat.le_of_ble_eq_true rfl) ⟨Or.inr (⟨(by unfold kTrain; rw [if_pos ⟨c_1, fun h => lt_ge c_10 h⟩, if_neg c_29]), rfl⟩), rfl, rfl⟩
    · exact a_throw cx "no such user" ["java/lang/RuntimeException", "java/lang/Exception"] hout (by decide +kernel) fit_names cl_X3_109 ini_IndexOutOfBoundsException th_113.1 th_113.2 (by decide +kernel) dX3_train_13 dX3_train_16 dX3_train_17 dX3_train_19 dX3_train_22 (Nat.le_of_ble_eq_true rfl) (Nat.le_of_ble_eq_true rfl) (Nat.le_of_ble_eq_true rfl) (Nat.le_of_ble_eq_true rfl) (Nat.le_of_ble_eq_true rfl) (Nat.le_of_ble_eq_true rfl) ⟨Or.inl ⟨(by unfold kTrain; rw [if_neg (fun h => c_10 (le_gt h.2))]), rfl⟩, rfl, rfl⟩

abbrev MI : Type := ME × Int32
def paS : Nat → Nat → MI → MI
  | 0, _, q => q
  | f + 1, i, q => paS f (i + 1) (oShift q.1 i (kKind (cWhy q.1 i)), if kKind (cWhy q.1 i) = 100 then q.2 + 1 else q.2)
def agJ (C : ME) (j : Nat) : ME := up2 C (40 + j) 7 (if 0 < C (40 + j) 7 ∧ ¬ C (40 + j) 8 = 99 then C (40 + j) 7 - 1 else C (40 + j) 7)
def agS : Nat → Nat → ME → ME
  | 0, _, C => C
  | f + 1, i, C => agS f (i + 1) (agJ C i)
def qShift (C : ME) : MI := paS (cNb C) 0 (C, 0)
def oPass1 (C : ME) : ME := up2 (agS (cNp C) 0 (qShift C).1) 0 4 (agS (cNp C) 0 (qShift C).1 0 4 + 1)
def pasN : Nat → MI → MI
  | 0, q => q
  | f + 1, q => pasN f (oPass1 q.1, q.2 + (qShift q.1).2)
theorem kKind_in (x : Int32) : kKind x = 100 ∨ kKind x = 105 ∨ kKind x = 108 ∨ kKind x = 109 := by
  unfold kKind
  repeat' split
  · exact Or.inl rfl
  · exact Or.inr (Or.inl rfl)
  · exact Or.inr (Or.inr (Or.inl rfl))
  · exact Or.inr (Or.inr (Or.inr rfl))
theorem kKind_nar (x : Int32) : vp_nar .char (kKind x) = kKind x := by
  rcases kKind_in x with h | h | h | h <;> rw [h] <;> decide +kernel
theorem cE_paS {Lv : Nat → Bool} : ∀ {f i : Nat} {q : MI}, cI Lv q.1 → i + f ≤ cNb q.1 → cE q.1 (paS f i q).1
  | 0, _, q, _, _ => cE.refl q.1
  | f + 1, i, q, hI, hi => by
    have h := cE_shift (kd := kKind (cWhy q.1 i)) hI (show i < cNb q.1 by omega)
    exact h.trans (cE_paS (f := f) (i := i + 1) (q := (oShift q.1 i (kKind (cWhy q.1 i)), if kKind (cWhy q.1 i) = 100 then q.2 + 1 else q.2)) (h.keep hI) (by show i + 1 + f ≤ cNb (oShift q.1 i (kKind (cWhy q.1 i))); rw [h.nb]; omega))
theorem cE_agJ {C : ME} {j : Nat} : cE C (agJ C j) := cE.put (by unfold cT; omega)
theorem cE_agS : ∀ {f i : Nat} {C : ME}, cE C (agS f i C)
  | 0, _, C => cE.refl C
  | f + 1, i, C => cE_agJ.trans (cE_agS (f := f) (i := i + 1) (C := agJ C i))
theorem cE_q {Lv : Nat → Bool} {C : ME} (hI : cI Lv C) : cE C (qShift C).1 := cE_paS (q := (C, 0)) hI (by show 0 + cNb C ≤ cNb C; omega)
theorem cE_pass1 {Lv : Nat → Bool} {C : ME} (hI : cI Lv C) : cE C (oPass1 C) := (cE_q hI).trans (cE_agS.trans (cE.put (by unfold cT; omega)))
set_option maxHeartbeats 4000000 in
set_option maxRecDepth 100000 in
/-- passOne() -/
theorem sp_X3_passOne {l : Launch} {g : GW} {ad : AD} {τ : RH} {Lv : Nat → Bool} {C : ME} {ρ : RH} (hH : HH g ad Lv C ρ τ) (hI : cI Lv C) : Sp l g yX3_passOne (.code yX3_passOne cX3_passOne 5 (some .int)) (rmv 7 0 0) [.ref (ad 0)] ad τ 0 0 (fun v ad' τ' => v = some (.int (qShift C).2) ∧ ad' = ad ∧ HH g ad Lv (oPass1 C) ρ τ') (NoX) := by
  refine Sp.of 4 [some (.ref (ad 0)), none, none, none, none] (by decide +kernel) (Nat.le_of_ble_eq_true rfl) rfl ?_
  intro p e s m args below meth c A cx hout hr hnm
  refine a_iconst cx (v := 0) dX3_passOne_0 (by decide) ?_
  refine a_istore_n1 cx dX3_passOne_1 rfl (by decide) (by intro w h; first | (cases h; rfl) | (cases h; assumption) | (cases h; done)) ?_
  refine a_iconst cx (v := 0) dX3_passOne_2 (by decide) ?_
  refine a_istore_n2 cx dX3_passOne_3 rfl (by decide) (by intro w h; first | (cases h; rfl) | (cases h; assumption) | (cases h; done)) ?_
  refine a_loop (σ := Nat × MI × RH × Option Value × Option Value) (fun f s => s.1 + f = cNb C ∧ cE C s.2.1.1 ∧ HH g ad Lv s.2.1.1 ρ s.2.2.1 ∧ (∀ w, s.2.2.2.1 = some w → w.category = 1) ∧ paS f s.1 s.2.1 = qShift C) (fun _ => ad) (fun s => s.2.2.1) (fun s => [some (.ref (ad 0)), some (.int s.2.1.2), some (.int (nI s.1)), s.2.2.2.1, s.2.2.2.2]) (cNb C) (0, (C, 0), τ, none, none) ⟨Nat.zero_add _, cE.refl C, hH, (by intro w h; cases h), rfl⟩ rfl rfl rfl ?_
  clear hH
  rintro f ⟨i, ⟨C1, x⟩, τ1, z, z2⟩ ⟨hi, hE, hH, hz, hx⟩ ih
  dsimp only at hi hE hH hz hx ⊢
  obtain ⟨hO, hL1, hL3, hs1, hs3⟩ := H_lines hH (hE.keep hI)
  refine a_iload_n cx dX3_passOne_4 rfl rfl ?_
  refine a_aload_n cx dX3_passOne_5 rfl rfl ?_
  refine gf_X3_10 cx hO dX3_passOne_6 ?_
  refine a_callV cx 0 (sp_Jx4a65c_size_8abf5 hL1) hL1 rfl ml_X3_43 im_Jx4a65c_size_8abf5 se_Jx4a65c_size_8abf5 ini_Jx4a65c cd_Jx4a65c_size_8abf5 rfl rfl (by decide +kernel) rfl rfl ⟨(Nat.le_of_ble_eq_true rfl), (Nat.le_of_ble_eq_true rfl)⟩ (Nat.le_of_ble_eq_true rfl) dX3_passOne_9 ⟨(Nat.le_of_ble_eq_true rfl), (Nat.le_of_ble_eq_true rfl)⟩ (fun _ _ _ h => h.elim) (fun v9 ad9 τ9 hP => ?_)
  obtain ⟨rfl, h2, h3⟩ := hP
  replace h2 := h2.symm
  subst h2
  replace h3 := h3.symm
  subst h3
  refine a_icmp_ge cx (tgt := 59) dX3_passOne_12 (by decide) (fun c_12 => ?_) (fun c_12 => ?_)
  · have hz9 : f = 0 := (by have h8 := hE.nb; have := le_nI c_12 (by have := hI.1; omega) (by have := hI.1; omega); omega)
    subst hz9
    replace hx : (C1, x) = qShift C := hx
    refine a_iconst cx (v := 0) dX3_passOne_59 (by decide) ?_
    refine a_istore_n2 cx dX3_passOne_60 rfl (by decide) (by intro w h; first | (cases h; rfl) | (cases h; assumption) | (cases h; done)) ?_
    refine a_loop (σ := Nat × ME × RH) (fun f s => s.1 + f = cNp C ∧ cE C s.2.1 ∧ HH g ad Lv s.2.1 ρ s.2.2 ∧ agS f s.1 s.2.1 = agS (cNp C) 0 (qShift C).1) (fun _ => ad) (fun s => s.2.2) (fun s => [some (.ref (ad 0)), some (.int x), some (.int (nI s.1)), z, z2]) (cNp C) (0, C1, τ1) ⟨Nat.zero_add _, hE, hH, by rw [← hx]⟩ rfl rfl rfl ?_
    clear hH hO hL1 hL3 hs1 hs3 ih hi hE c_12
    rintro f ⟨i, C2, τ2⟩ ⟨hi, hE, hH, hy⟩ ih
    dsimp only at hi hE hH hy ⊢
    obtain ⟨hO, hL1, hL3, hs1, hs3⟩ := H_lines hH (hE.keep hI)
    have hnp2 : cNp C2 = cNp C := hE.np
    refine a_iload_n cx dX3_passOne_61 rfl rfl ?_
    refine a_aload_n cx dX3_passOne_62 rfl rfl ?_
    refine gf_X3_16 cx hO dX3_passOne_63 ?_
    refine a_callV cx 0 (sp_Jx4a65c_size_8abf5 hL3) hL3 rfl ml_X3_43 im_Jx4a65c_size_8abf5 se_Jx4a65c_size_8abf5 ini_Jx4a65c cd_Jx4a65c_size_8abf5 rfl rfl (by decide +kernel) rfl rfl ⟨(Nat.le_of_ble_eq_true rfl), (Nat.le_of_ble_eq_true rfl)⟩ (Nat.le_of_ble_eq_true rfl) dX3_passOne_66 ⟨(Nat.le_of_ble_eq_true rfl), (Nat.le_of_ble_eq_true rfl)⟩ (fun _ _ _ h => h.elim) (fun v9 ad9 τ9 hP => ?_)
    obtain ⟨rfl, h2, h3⟩ := hP
    replace h2 := h2.symm
    subst h2
    replace h3 := h3.symm
    subst h3
    refine a_icmp_ge cx (tgt := 92) dX3_passOne_69 (by decide) (fun c_69 => ?_) (fun c_69 => ?_)
    · have hz : f = 0 := (by have := le_nI c_69 (by have := hI.2.1; omega) (by have := hI.2.1; omega); omega)
      subst hz
      replace hy : C2 = agS (cNp C) 0 (qShift C).1 := hy
      refine a_aload_n cx dX3_passOne_92 rfl rfl ?_
      refine a_dup cx dX3_passOne_93 rfl ?_
      refine gf_X3_26 cx hO dX3_passOne_94 ?_
      refine a_iconst cx (v := 1) dX3_passOne_97 (by decide) ?_
      refine a_iadd cx dX3_passOne_98 ?_
      refine pf_X3_26 cx hO dX3_passOne_99 ?_
      refine a_iload_n cx dX3_passOne_102 rfl rfl ?_
      exact a_iret cx hr dX3_passOne_103 (Nat.le_of_ble_eq_true rfl) (Nat.le_of_ble_eq_true rfl) ⟨by rw [← hx], rfl, by unfold oPass1; rw [← hy]; exact hH.put (r := 0) 4 _ (by decide) hI.2.2.1 rfl⟩
    · have hin : i < cNp C2 := by
        rcases Nat.lt_or_ge i (cNp C2) with h9 | h9
        · exact h9
        · exact absurd (nI_le h9 (by have := hI.2.1; omega)) c_69
      obtain ⟨f, rfl⟩ : ∃ f9, f = f9 + 1 := ⟨f - 1, by omega⟩
      have hsp := sp_get_prop (l := l) hH (hE.keep hI) hin
      have hP := H_prop2 hH (hE.keep hI) hin
      obtain ⟨hLj, hj8⟩ := cI_prp (hE.keep hI) hin
      refine a_aload_n cx dX3_passOne_72 rfl rfl ?_
      refine gf_X3_16 cx hO dX3_passOne_73 ?_
      refine a_iload_n cx dX3_passOne_76 rfl rfl ?_
      refine a_callV cx 1 (hsp) hL3 rfl ml_X3_224 im_Jx4a65c_get_915e3 se_Jx4a65c_get_915e3 ini_Jx4a65c cd_Jx4a65c_get_915e3 rfl rfl (by decide +kernel) rfl rfl ⟨(Nat.le_of_ble_eq_true rfl), (Nat.le_of_ble_eq_true rfl)⟩ (Nat.le_of_ble_eq_true rfl) dX3_passOne_77 ⟨(Nat.le_of_ble_eq_true rfl), (Nat.le_of_ble_eq_true rfl)⟩ (fun _ _ _ h => h.elim) (fun v9 ad9 τ9 hP => ?_)
      obtain ⟨rfl, h2, h3⟩ := hP
      replace h2 := h2.symm
      subst h2
      replace h3 := h3.symm
      subst h3
      refine a_castS cx hP rfl cl_X3_86 dX3_passOne_80 ?_
      refine a_callV cx 0 (sp_X2_ageSample hP) hP rfl ml_X3_270 im_X2_ageSample se_X2_ageSample ini_X2 cd_X2_ageSample rfl rfl (by decide +kernel) rfl rfl ⟨(Nat.le_of_ble_eq_true rfl), (Nat.le_of_ble_eq_true rfl)⟩ (Nat.le_of_ble_eq_true rfl) dX3_passOne_83 ⟨(Nat.le_of_ble_eq_true rfl), (Nat.le_of_ble_eq_true rfl)⟩ (fun _ _ _ h => h.elim) (fun v9 ad9 τ9 hP9 => ?_)
      obtain ⟨rfl, h2, h3⟩ := hP9
      replace h2 := h2.symm
      subst h2
      replace h3 := h3.symm
      subst h3
      refine a_iinc2 cx (nI (i + 1)) dX3_passOne_86 (nI_1 i) (by decide) (by intro w h; first | (cases h; rfl) | (cases h; assumption) | (cases h; done)) ?_
      refine a_goto cx (tgt := 61) dX3_passOne_89 (by decide) ?_
      exact ih f (i + 1, agJ C2 i, _) (Nat.lt_succ_self f) ⟨by omega, hE.trans cE_agJ, hH.prop hj8 hLj.1 (w := va_up (C2 (40 + i)) 7 (if 0 < C2 (40 + i) 7 ∧ ¬ C2 (40 + i) 8 = 99 then C2 (40 + i) 7 - 1 else C2 (40 + i) 7)) rfl, hy⟩
  · have hin : i < cNb C1 := by
      rcases Nat.lt_or_ge i (cNb C1) with h9 | h9
      · exact h9
      · exact absurd (nI_le h9 (by have := hI.1; have := hE.nb; omega)) c_12
    obtain ⟨f, rfl⟩ : ∃ f9, f = f9 + 1 := ⟨f - 1, by have := hE.nb; omega⟩
    have hsp := sp_get_line (l := l) hH (hE.keep hI) hin
    have hB := H_beam hH (hE.keep hI) hin
    have hES := hE.trans (cE_shift (kd := kKind (cWhy C1 i)) (hE.keep hI) hin)
    refine a_aload_n cx dX3_passOne_15 rfl rfl ?_
    refine gf_X3_10 cx hO dX3_passOne_16 ?_
    refine a_iload_n cx dX3_passOne_19 rfl rfl ?_
    refine a_callV cx 1 (hsp) hL1 rfl ml_X3_224 im_Jx4a65c_get_915e3 se_Jx4a65c_get_915e3 ini_Jx4a65c cd_Jx4a65c_get_915e3 rfl rfl (by decide +kernel) rfl rfl ⟨(Nat.le_of_ble_eq_true rfl), (Nat.le_of_ble_eq_true rfl)⟩ (Nat.le_of_ble_eq_true rfl) dX3_passOne_20 ⟨(Nat.le_of_ble_eq_true rfl), (Nat.le_of_ble_eq_true rfl)⟩ (fun _ _ _ h => h.elim) (fun v9 ad9 τ9 hP => ?_)
    obtain ⟨rfl, h2, h3⟩ := hP
    replace h2 := h2.symm
    subst h2
    replace h3 := h3.symm
    subst h3
    refine a_castS cx hB rfl cl_X3_52 dX3_passOne_23 ?_
    refine a_astore_n3 cx dX3_passOne_26 rfl (by decide) (by intro w h; first | (cases h; rfl) | (cases h; assumption) | (cases h; done)) ?_
    refine a_aload_n cx dX3_passOne_27 rfl rfl ?_
    refine a_aload_n cx dX3_passOne_28 rfl rfl ?_
    refine a_callV cx 1 (sp_X3_reasonAt hH (hE.keep hI) hin) hO rfl ml_X3_160 im_X3_reasonAt se_X3_reasonAt ini_X3 cd_X3_reasonAt rfl rfl (by decide +kernel) rfl rfl ⟨(Nat.le_of_ble_eq_true rfl), (Nat.le_of_ble_eq_true rfl)⟩ (Nat.le_of_ble_eq_true rfl) dX3_passOne_29 ⟨(Nat.le_of_ble_eq_true rfl), (Nat.le_of_ble_eq_true rfl)⟩ (fun _ _ _ h => h.elim) (fun v9 ad9 τ9 hP => ?_)
    obtain ⟨rfl, h2, h3⟩ := hP
    replace h2 := h2.symm
    subst h2
    replace h3 := h3.symm
    subst h3
    refine a_callS cx 1 (sp_X3_kindFor (x := cWhy C1 i)) ml_X3_262 st_X3_kindFor ini_X3 cd_X3_kindFor rfl rfl (by decide +kernel) rfl rfl ⟨(Nat.le_of_ble_eq_true rfl), (Nat.le_of_ble_eq_true rfl)⟩ (Nat.le_of_ble_eq_true rfl) dX3_passOne_32 ⟨(Nat.le_of_ble_eq_true rfl), (Nat.le_of_ble_eq_true rfl)⟩ (fun _ _ _ h => h.elim) (fun v9 ad9 τ9 hP => ?_)
    obtain ⟨rfl, h2, h3⟩ := hP
    replace h2 := h2.symm
    subst h2
    replace h3 := h3.symm
    subst h3
    refine a_istore4 cx dX3_passOne_35 (by decide) (by intro w h; first | (cases h; rfl) | (cases h; assumption) | (cases h; done)) ?_
    refine a_aload_n cx dX3_passOne_37 rfl rfl ?_
    refine a_iload cx dX3_passOne_38 rfl ?_
    refine a_callV cx 1 (sp_X0_runShift (kd := kKind (cWhy C1 i)) hH (hE.keep hI) hin (kKind_nar _)) hB rfl ml_X3_266 im_X0_runShift se_X0_runShift ini_X0 cd_X0_runShift rfl rfl (by decide +kernel) rfl rfl ⟨(Nat.le_of_ble_eq_true rfl), (Nat.le_of_ble_eq_true rfl)⟩ (Nat.le_of_ble_eq_true rfl) dX3_passOne_40 ⟨(Nat.le_of_ble_eq_true rfl), (Nat.le_of_ble_eq_true rfl)⟩ (fun _ _ _ h => h.elim) (fun v9 ad9 τ9 hP9 => ?_)
    obtain ⟨rfl, h2, hH9⟩ := hP9
    replace h2 := h2.symm
    subst h2
    refine a_iload cx dX3_passOne_43 rfl ?_
    refine a_bipush cx (v := 100) dX3_passOne_45 (by decide) ?_
    refine a_icmp_ne cx (tgt := 53) dX3_passOne_47 (by decide) (fun c_47 => ?_) (fun c_47 => ?_)
    · refine a_iinc2 cx (nI (i + 1)) dX3_passOne_53 (nI_1 i) (by decide) (by intro w h; first | (cases h; rfl) | (cases h; assumption) | (cases h; done)) ?_
      refine a_goto cx (tgt := 4) dX3_passOne_56 (by decide) ?_
      refine ih f (i + 1, (oShift C1 i (kKind (cWhy C1 i)), x), τ9, _, _) (Nat.lt_succ_self f) ⟨by omega, hES, hH9, (by intro w h; cases h; rfl), ?_⟩
      rw [← hx]; show _ = paS f (i + 1) (oShift C1 i (kKind (cWhy C1 i)), if kKind (cWhy C1 i) = 100 then x + 1 else x); rw [if_neg c_47]
    · refine a_iinc1 cx (x + 1) dX3_passOne_50 (rfl) (by decide) (by intro w h; first | (cases h; rfl) | (cases h; assumption) | (cases h; done)) ?_
      refine a_iinc2 cx (nI (i + 1)) dX3_passOne_53 (nI_1 i) (by decide) (by intro w h; first | (cases h; rfl) | (cases h; assumption) | (cases h; done)) ?_
      refine a_goto cx (tgt := 4) dX3_passOne_56 (by decide) ?_
      refine ih f (i + 1, (oShift C1 i (kKind (cWhy C1 i)), x + 1), τ9, _, _) (Nat.lt_succ_self f) ⟨by omega, hES, hH9, (by intro w h; cases h; rfl), ?_⟩
      rw [← hx]; show _ = paS f (i + 1) (oShift C1 i (kKind (cWhy C1 i)), if kKind (cWhy C1 i) = 100 then x + 1 else x); rw [if_pos c_47]

def kPass (C : ME) (n : Int32) : Int32 := if win n 1 20 then (if n ≤ 200 - C 0 4 then 0 else 2) else 1
def qPass (C : ME) (n : Int32) : MI := pasN (tn n) (C, 0)
theorem win_n {n lo : Int32} {hi : Nat} (h : win n lo (nI hi)) (h0 : (0 : Int32) ≤ lo) (h9 : hi < 2 ^ 31) : n = nI (tn n) ∧ tn n ≤ hi := by
  have h1 : ¬ n < 0 := fun q => by
    have := h.1
    rw [Int32.lt_iff_toInt_lt] at q
    rw [Int32.le_iff_toInt_le] at this h0
    omega
  obtain ⟨k, hk, rfl⟩ := nI_of h1
  rw [tn_nI hk]
  exact ⟨rfl, (nI_leI hk h9).mp h.2⟩
set_option maxHeartbeats 4000000 in
set_option maxRecDepth 100000 in
/-- pass -/
theorem sp_X3_pass {l : Launch} {g : GW} {ad : AD} {τ : RH} {Lv : Nat → Bool} {C : ME} {ρ : RH} {n : Int32} (hH : HH g ad Lv C ρ τ) (hI : cI Lv C) : Sp l g yX3_pass (.code yX3_pass cX3_pass 4 (some .int)) (rmv 8 2 12) [.ref (ad 0), .int n] ad τ 2 12 (fun v ad' τ' => kPass C n = 0 ∧ v = some (.int ((qPass C n).2)) ∧ ad' = ad ∧ HH g ad Lv ((qPass C n).1) ρ τ') (fun E ad' τ' => ((kPass C n = 1 ∧ E = "java/lang/IllegalArgumentException") ∨ (kPass C n = 2 ∧ E = "java/lang/IllegalStateException")) ∧ ad' = ad ∧ τ' = τ) := by
  refine Sp.of 2 [some (.ref (ad 0)), some (.int n), none, none] (by decide +kernel) (Nat.le_of_ble_eq_true rfl) rfl ?_
  intro p e s m args below meth c A cx hout hr hnm
  have hO := (H_lines hH hI).1
  refine a_iload_n cx dX3_pass_0 rfl rfl ?_
  refine a_iconst cx (v := 1) dX3_pass_1 (by decide) ?_
  refine a_bipush cx (v := 20) dX3_pass_2 (by decide) ?_
  refine a_callS cx 3 (sp_X3_isWithin (x := n) (lo := 1) (hi := 20)) ml_X3_30 st_X3_isWithin ini_X3 cd_X3_isWithin rfl rfl (by decide +kernel) rfl rfl ⟨(Nat.le_of_ble_eq_true rfl), (Nat.le_of_ble_eq_true rfl)⟩ (Nat.le_of_ble_eq_true rfl) dX3_pass_4 ⟨(Nat.le_of_ble_eq_true rfl), (Nat.le_of_ble_eq_true rfl)⟩ (fun _ _ _ h => h.elim) (fun v9 ad9 τ9 hP => ?_)
  obtain ⟨⟨w4, rfl, hw4⟩, h2, h3⟩ := hP
  replace h2 := h2.symm
  subst h2
  replace h3 := h3.symm
  subst h3
  replace hw4 := win_if hw4
  refine a_if_ne cx (tgt := 20) dX3_pass_7 (by decide) (fun c_7 => ?_) (fun c_7 => ?_)
  · refine a_iload_n cx dX3_pass_20 rfl rfl ?_
    refine a_sipush cx (v := 200) dX3_pass_21 (by decide) ?_
    refine a_aload_n cx dX3_pass_24 rfl rfl ?_
    refine gf_X3_26 cx hO dX3_pass_25 ?_
    refine a_isub cx dX3_pass_28 ?_
    refine a_icmp_le cx (tgt := 42) dX3_pass_29 (by decide) (fun c_29 => ?_) (fun c_29 => ?_)
    · have hpk : kPass C n = 0 := by unfold kPass; rw [if_pos (hw4.2 c_7), if_pos c_29]
      have hn := win_n (hi := 20) (hw4.2 c_7) (by decide) (by decide)
      refine a_iconst cx (v := 0) dX3_pass_42 (by decide) ?_
      refine a_istore_n2 cx dX3_pass_43 rfl (by decide) (by intro w h; first | (cases h; rfl) | (cases h; assumption) | (cases h; done)) ?_
      refine a_iconst cx (v := 0) dX3_pass_44 (by decide) ?_
      refine a_istore_n3 cx dX3_pass_45 rfl (by decide) (by intro w h; first | (cases h; rfl) | (cases h; assumption) | (cases h; done)) ?_
      refine a_loop (σ := Nat × MI × RH) (fun f s => s.1 + f = tn n ∧ cE C s.2.1.1 ∧ HH g ad Lv s.2.1.1 ρ s.2.2 ∧ pasN f s.2.1 = qPass C n) (fun _ => ad) (fun s => s.2.2) (fun s => [some (.ref (ad 0)), some (.int n), some (.int s.2.1.2), some (.int (nI s.1))]) (tn n) (0, (C, 0), τ) ⟨Nat.zero_add _, cE.refl C, hH, rfl⟩ rfl rfl rfl ?_
      clear hH hO
      rintro f ⟨i, ⟨C1, x⟩, τ1⟩ ⟨hi, hE, hH, hx⟩ ih
      dsimp only at hi hE hH hx ⊢
      have hO := (H_lines hH (hE.keep hI)).1
      refine a_iload_n cx dX3_pass_46 rfl rfl ?_
      refine a_iload_n cx dX3_pass_47 rfl rfl ?_
      refine a_icmp_ge cx (tgt := 64) dX3_pass_48 (by decide) (fun c_48 => ?_) (fun c_48 => ?_)
      · refine a_iload_n cx dX3_pass_64 rfl rfl ?_
        exact a_iret cx hr dX3_pass_65 (Nat.le_of_ble_eq_true rfl) (Nat.le_of_ble_eq_true rfl) ⟨hpk, vI (by rw [← (show (C1, x) = qPass C n from by have hz : f = 0 := (by rw [hn.1] at c_48; have := le_nI c_48 (by omega) (by omega); omega); subst hz; exact hx)]), rfl, by rw [← (show (C1, x) = qPass C n from by have hz : f = 0 := (by rw [hn.1] at c_48; have := le_nI c_48 (by omega) (by omega); omega); subst hz; exact hx)]; exact hH⟩
      · have hin : i < tn n := by
          rcases Nat.lt_or_ge i (tn n) with h9 | h9
          · exact h9
          · exact absurd (by rw [hn.1]; exact nI_le h9 (by omega)) c_48
        obtain ⟨f, rfl⟩ : ∃ f9, f = f9 + 1 := ⟨f - 1, by omega⟩
        refine a_iload_n cx dX3_pass_51 rfl rfl ?_
        refine a_aload_n cx dX3_pass_52 rfl rfl ?_
        refine a_callV cx 0 (sp_X3_passOne hH (hE.keep hI)) hO rfl ml_X3_173 im_X3_passOne se_X3_passOne ini_X3 cd_X3_passOne rfl rfl (by decide +kernel) rfl rfl ⟨(Nat.le_of_ble_eq_true rfl), (Nat.le_of_ble_eq_true rfl)⟩ (Nat.le_of_ble_eq_true rfl) dX3_pass_53 ⟨(Nat.le_of_ble_eq_true rfl), (Nat.le_of_ble_eq_true rfl)⟩ (fun _ _ _ h => h.elim) (fun v9 ad9 τ9 hP9 => ?_)
        obtain ⟨rfl, h2, hH9⟩ := hP9
        replace h2 := h2.symm
        subst h2
        refine a_iadd cx dX3_pass_56 ?_
        refine a_istore_n2 cx dX3_pass_57 rfl (by decide) (by intro w h; first | (cases h; rfl) | (cases h; assumption) | (cases h; done)) ?_
        refine a_iinc3 cx (nI (i + 1)) dX3_pass_58 (nI_1 i) (by decide) (by intro w h; first | (cases h; rfl) | (cases h; assumption) | (cases h; done)) ?_
        refine a_goto cx (tgt := 46) dX3_pass_61 (by decide) ?_
        exact ih f (i + 1, (oPass1 C1, x + (qShift C1).2), τ9) (Nat.lt_succ_self f) ⟨by omega, hE.trans (cE_pass1 (hE.keep hI)), hH9, hx⟩
    · exact a_throw cx "too many shifts would have passed" ["java/lang/RuntimeException", "java/lang/Exception"] hout (by decide +kernel) fit_names cl_X3_47 ini_IllegalStateException th_51.1 th_51.2 (by decide +kernel) dX3_pass_32 dX3_pass_35 dX3_pass_36 dX3_pass_38 dX3_pass_41 (Nat.le_of_ble_eq_true rfl) (Nat.le_of_ble_eq_true rfl) (Nat.le_of_ble_eq_true rfl) (Nat.le_of_ble_eq_true rfl) (Nat.le_of_ble_eq_true rfl) (Nat.le_of_ble_eq_true rfl) ⟨Or.inr (⟨(by unfold kPass; rw [if_pos (hw4.2 c_7), if_neg c_29]), rfl⟩), rfl, rfl⟩
  · exact a_throw cx "the shifts are out of range" ["java/lang/RuntimeException", "java/lang/Exception"] hout (by decide +kernel) fit_names cl_X3_34 ini_IllegalArgumentException th_38.1 th_38.2 (by decide +kernel) dX3_pass_10 dX3_pass_13 dX3_pass_14 dX3_pass_16 dX3_pass_19 (Nat.le_of_ble_eq_true rfl) (Nat.le_of_ble_eq_true rfl) (Nat.le_of_ble_eq_true rfl) (Nat.le_of_ble_eq_true rfl) (Nat.le_of_ble_eq_true rfl) (Nat.le_of_ble_eq_true rfl) ⟨Or.inl ⟨(by unfold kPass; rw [if_neg (hw4.1 c_7)]), rfl⟩, rfl, rfl⟩

