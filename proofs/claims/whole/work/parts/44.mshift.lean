/-! what the model's walk keeps -/
def mE (C C' : ME) : Prop := (∀ r k, r = 66 ∨ r = 67 ∨ r = 70 ∨ r = 71 ∨ (r = 60 ∧ (k = 1 ∨ k = 2)) → C' r k = C r k)
theorem mE.refl (C : ME) : mE C C := fun _ _ _ => rfl
theorem mE.trans {C C1 C2 : ME} (h : mE C C1) (k : mE C1 C2) : mE C C2 := fun r i q => (k r i q).trans (h r i q)
theorem mE.put {C : ME} {r k : Nat} {x : Int32} (h : ¬ (r = 66 ∨ r = 67 ∨ r = 70 ∨ r = 71 ∨ (r = 60 ∧ (k = 1 ∨ k = 2)))) : mE C (up2 C r k x) := fun r' k' q => by
  rw [up2_at, if_neg (fun e => h (by rw [← e.1, ← e.2]; exact q))]
theorem mE.nb {C C' : ME} (h : mE C C') : mNb C' = mNb C := by unfold mNb; rw [h 60 1 (by omega)]
theorem mE.np {C C' : ME} (h : mE C C') : mNp C' = mNp C := by unfold mNp; rw [h 60 2 (by omega)]
theorem mE.nq {C C' : ME} (h : mE C C') (b : Nat) : mNq C' b = mNq C b := by unfold mNq; rw [h 66 b (by omega)]
theorem mE.keep {C C' : ME} (h : mE C C') (hI : mI C) : mI C' := by
  obtain ⟨h1, h2, h3, h4, h5, h6⟩ := hI
  unfold mI
  rw [h.nb, h.np, h 60 1 (by omega), h 60 2 (by omega)]
  refine ⟨h1, h2, h3, h4, fun b hb => ?_, fun p hp => ?_⟩
  · rw [h.nq, h 66 b (by omega)]
    obtain ⟨a1, a2, a3⟩ := h5 b hb
    exact ⟨a1, a2, fun k hk => by rw [h 67 _ (by omega)]; exact a3 k hk⟩
  · rw [h 70 p (by omega), h 71 p (by omega)]; exact h6 p hp
def mLst (C : ME) (b : Nat) : Option Nat := lsti (fun k => decide (¬ C 75 (tn (mQ C b k)) = 0)) (mNq C b)
def mLoses (C : ME) (b j : Nat) : ME := if 0 < C 65 b then up2 (up2 C 78 j (C 78 j + 1)) 65 b (C 65 b - 1) else match mLst C b with
  | none => up2 C 78 j (C 78 j + 1)
  | some k => up2 (up2 (up2 C 78 j (C 78 j + 1)) 75 (tn (mQ C b k)) (C 75 (tn (mQ C b k)) - 1)) 79 (tn (mQ C b k)) (C 79 (tn (mQ C b k)) + 1)
theorem mE_loses {C : ME} {b j : Nat} : mE C (mLoses C b j) := by
  unfold mLoses
  split
  · exact (mE.put (by omega)).trans (mE.put (by omega))
  · split
    · exact mE.put (by omega)
    · exact ((mE.put (by omega)).trans (mE.put (by omega))).trans (mE.put (by omega))
set_option maxHeartbeats 4000000 in
set_option maxRecDepth 100000 in
/-- loses(b, p) -/
theorem sp_X4_loses {l : Launch} {g : GW} {ad : AD} {τ : RH} {Lv : Nat → Bool} {C : ME} {ρ : RH} {b9 p9 : Int32} {b j : Nat} (hH : HH g ad Lv C ρ τ) (hL : mL Lv) (hI : mI C) (hb9 : b9 = nI b) (hb : b < 2) (hp9 : p9 = nI j) (hj : j < 8) : Sp l g yX4_loses (.code yX4_loses cX4_loses 5 none) (rmv 0 0 0) [.ref (ad 60), .int b9, .int p9] ad τ 0 0 (fun v ad' τ' => v = none ∧ ad' = ad ∧ HH g ad Lv (mLoses C b j) ρ τ') (NoX) := by
  refine Sp.of 2 [some (.ref (ad 60)), some (.int b9), some (.int p9), none, none] (by decide +kernel) (Nat.le_of_ble_eq_true rfl) rfl ?_
  intro p e s m args below meth c A cx hout hr hnm
  have hM := M_obj hH hL
  have hR := M_row hH hL
  subst hb9
  subst hp9
  have hnq := hI.2.2.2.2.1 b hb
  refine a_aload_n cx dX4_loses_0 rfl rfl ?_
  refine gf_X4_62 cx hM dX4_loses_1 ?_
  refine a_iload_n cx dX4_loses_4 rfl rfl ?_
  refine a_dup2 cx dX4_loses_5 rfl rfl ?_
  refine a_ild cx (j) (by exact hR _ (by decide) (by decide)) (rfl) (hj) (by decide) dX4_loses_6 ?_
  refine a_iconst cx (v := 1) dX4_loses_7 (by decide) ?_
  refine a_iadd cx dX4_loses_8 ?_
  refine a_ist cx (j) (by exact hR _ (by decide) (by decide)) (rfl) (hj) (by decide)  dX4_loses_9 ?_
  refine a_HH (hH.put (r := 78) (j) _ (by decide) (hL 78 (by decide) (by decide)) rfl) (fun τ hH => ?_)
  have hR := M_row hH hL
  have hM := M_obj hH hL
  refine a_aload_n cx dX4_loses_10 rfl rfl ?_
  refine gf_X4_22 cx hM dX4_loses_11 ?_
  refine a_iload_n cx dX4_loses_14 rfl rfl ?_
  refine a_ild cx (b) (by exact hR _ (by decide) (by decide)) (rfl) (hb) (by decide) dX4_loses_15 ?_
  refine a_if_le cx (tgt := 30) dX4_loses_16 (by decide) (fun c_16 => ?_) (fun c_16 => ?_)
  · refine a_aload_n cx dX4_loses_30 rfl rfl ?_
    refine gf_X4_25 cx hM dX4_loses_31 ?_
    refine a_iload_n cx dX4_loses_34 rfl rfl ?_
    refine a_ild cx (b) (by exact hR _ (by decide) (by decide)) (rfl) (hb) (by decide) dX4_loses_35 ?_
    refine a_iconst cx (v := 1) dX4_loses_36 (by decide) ?_
    refine a_isub cx dX4_loses_37 ?_
    refine a_istore_n3 cx dX4_loses_38 rfl (by decide) (by intro w h; first | (cases h; rfl) | (cases h; assumption) | (cases h; done)) ?_
    refine a_loop (σ := Nat × Option Value) (fun f s => s.1 = f ∧ s.1 ≤ mNq C b ∧ lsti (fun k => decide (¬ C 75 (tn (mQ C b k)) = 0)) s.1 = mLst C b) (fun _ => ad) (fun _ => τ) (fun s => [some (.ref (ad 60)), some (.int (nI b)), some (.int (nI j)), some (.int (nI s.1 - 1)), s.2]) (mNq C b) (mNq C b, none) ⟨rfl, Nat.le_refl _, rfl⟩ rfl rfl (by dsimp only; rw [← hnq.1]; rfl) ?_
    rintro f ⟨k, z⟩ ⟨rfl, hkn, hx⟩ ih
    dsimp only at hkn hx ⊢
    refine a_iload_n cx dX4_loses_39 rfl rfl ?_
    refine a_if_lt cx (tgt := 98) dX4_loses_40 (by decide) (fun c_40 => ?_) (fun c_40 => ?_)
    · exact a_vret cx hr dX4_loses_98 (Nat.le_of_ble_eq_true rfl) (Nat.le_of_ble_eq_true rfl) ⟨rfl, rfl, by have hz : k = 0 := (by cases k with | zero => rfl | succ k => rw [nI_pred] at c_40; exact absurd c_40 (nI_pos (by omega))); subst hz; unfold mLoses; rw [if_neg (show ¬ 0 < C 65 b from le_not_pos c_16), ← hx]; exact hH⟩
    · obtain ⟨k, rfl⟩ : ∃ j9, k = j9 + 1 := by
        cases k with
        | zero => exact absurd (by decide) c_40
        | succ k => exact ⟨k, rfl⟩
      rw [nI_pred]
      unfold lsti at hx
      replace hkn : k < mNq C b := hkn
      have hkn8 : k < 8 := Nat.lt_of_lt_of_le hkn hnq.2.1
      refine a_aload_n cx dX4_loses_43 rfl rfl ?_
      refine gf_X4_28 cx hM dX4_loses_44 ?_
      refine a_bipush cx (v := 8) dX4_loses_47 (by decide) ?_
      refine a_iload_n cx dX4_loses_49 rfl rfl ?_
      refine a_imul cx dX4_loses_50 ?_
      refine a_iload_n cx dX4_loses_51 rfl rfl ?_
      refine a_iadd cx dX4_loses_52 ?_
      refine a_ild cx (8 * b + k) (by exact hR _ (by decide) (by decide)) (q8 hb (by omega)) ((show 8 * b + k < 16 by omega)) (by decide) dX4_loses_53 ?_
      refine a_istore4 cx dX4_loses_54 (by decide) (by intro w h; first | (cases h; rfl) | (cases h; assumption) | (cases h; done)) ?_
      refine a_aload_n cx dX4_loses_56 rfl rfl ?_
      refine gf_X4_53 cx hM dX4_loses_57 ?_
      refine a_iload cx dX4_loses_60 rfl ?_
      refine a_ild cx (tn (mQ C b k)) (by exact hR _ (by decide) (by decide)) ((mQ_ix hI hb hkn).1) ((by have := (mQ_ix hI hb hkn).2; have := hI.2.2.2.1; omega)) (by decide) dX4_loses_62 ?_
      refine a_if_ne cx (tgt := 69) dX4_loses_63 (by decide) (fun c_63 => ?_) (fun c_63 => ?_)
      · refine a_aload_n cx dX4_loses_69 rfl rfl ?_
        refine gf_X4_53 cx hM dX4_loses_70 ?_
        refine a_iload cx dX4_loses_73 rfl ?_
        refine a_dup2 cx dX4_loses_75 rfl rfl ?_
        refine a_ild cx (tn (mQ C b k)) (by exact hR _ (by decide) (by decide)) ((mQ_ix hI hb hkn).1) ((by have := (mQ_ix hI hb hkn).2; have := hI.2.2.2.1; omega)) (by decide) dX4_loses_76 ?_
        refine a_iconst cx (v := 1) dX4_loses_77 (by decide) ?_
        refine a_isub cx dX4_loses_78 ?_
        refine a_ist cx (tn (mQ C b k)) (by exact hR _ (by decide) (by decide)) ((mQ_ix hI hb hkn).1) ((by have := (mQ_ix hI hb hkn).2; have := hI.2.2.2.1; omega)) (by decide)  dX4_loses_79 ?_
        refine a_HH (hH.put (r := 75) (tn (mQ C b k)) _ (by decide) (hL 75 (by decide) (by decide)) rfl) (fun τ hH => ?_)
        have hR := M_row hH hL
        have hM := M_obj hH hL
        refine a_aload_n cx dX4_loses_80 rfl rfl ?_
        refine gf_X4_65 cx hM dX4_loses_81 ?_
        refine a_iload cx dX4_loses_84 rfl ?_
        refine a_dup2 cx dX4_loses_86 rfl rfl ?_
        refine a_ild cx (tn (mQ C b k)) (by exact hR _ (by decide) (by decide)) ((mQ_ix hI hb hkn).1) ((by have := (mQ_ix hI hb hkn).2; have := hI.2.2.2.1; omega)) (by decide) dX4_loses_87 ?_
        refine a_iconst cx (v := 1) dX4_loses_88 (by decide) ?_
        refine a_iadd cx dX4_loses_89 ?_
        refine a_ist cx (tn (mQ C b k)) (by exact hR _ (by decide) (by decide)) ((mQ_ix hI hb hkn).1) ((by have := (mQ_ix hI hb hkn).2; have := hI.2.2.2.1; omega)) (by decide)  dX4_loses_90 ?_
        refine a_HH (hH.put (r := 79) (tn (mQ C b k)) _ (by decide) (hL 79 (by decide) (by decide)) rfl) (fun τ hH => ?_)
        have hR := M_row hH hL
        have hM := M_obj hH hL
        exact a_vret cx hr dX4_loses_91 (Nat.le_of_ble_eq_true rfl) (Nat.le_of_ble_eq_true rfl) ⟨rfl, rfl, by rw [if_pos (show decide (¬ C 75 (tn (mQ C b k)) = 0) = true from decide_eq_true c_63)] at hx; unfold mLoses; rw [if_neg (show ¬ 0 < C 65 b from le_not_pos c_16), ← hx]; exact hH⟩
      · refine a_goto cx (tgt := 92) dX4_loses_66 (by decide) ?_
        refine a_iinc3 cx (nI k - 1) dX4_loses_92 (ad_m1 _) (by decide) (by intro w h; first | (cases h; rfl) | (cases h; assumption) | (cases h; done)) ?_
        refine a_goto cx (tgt := 39) dX4_loses_95 (by decide) ?_
        rw [if_neg (by rw [decide_eq_true_eq]; exact fun h => h c_63)] at hx
        exact ih k (k, _) (Nat.lt_succ_self k) ⟨rfl, by omega, hx⟩
  · refine a_aload_n cx dX4_loses_19 rfl rfl ?_
    refine gf_X4_22 cx hM dX4_loses_20 ?_
    refine a_iload_n cx dX4_loses_23 rfl rfl ?_
    refine a_dup2 cx dX4_loses_24 rfl rfl ?_
    refine a_ild cx (b) (by exact hR _ (by decide) (by decide)) (rfl) (hb) (by decide) dX4_loses_25 ?_
    refine a_iconst cx (v := 1) dX4_loses_26 (by decide) ?_
    refine a_isub cx dX4_loses_27 ?_
    refine a_ist cx (b) (by exact hR _ (by decide) (by decide)) (rfl) (hb) (by decide)  dX4_loses_28 ?_
    refine a_HH (hH.put (r := 65) (b) _ (by decide) (hL 65 (by decide) (by decide)) rfl) (fun τ hH => ?_)
    have hR := M_row hH hL
    have hM := M_obj hH hL
    exact a_vret cx hr dX4_loses_29 (Nat.le_of_ble_eq_true rfl) (Nat.le_of_ble_eq_true rfl) ⟨rfl, rfl, by unfold mLoses; rw [if_pos (show 0 < C 65 b from not_le_pos c_16)]; exact hH⟩

def mBodyJ (C : ME) (b j : Nat) : ME := if mWhyJ C b j = 45 then up2 (up2 (up2 C 75 j (C 75 j - 1)) 76 j (C 76 j + 1)) 64 b (C 64 b + C 74 j) else if mWhyJ C b j = 102 then mLoses C b j else up2 (up2 C 75 j (C 75 j - 1)) 77 j (C 77 j + 1)
def mBody (C : ME) (b : Nat) : ME := match kFst (mNq C b) (mLf C b) with
  | none => C
  | some k => mBodyJ C b (tn (mQ C b k))
def mEnd (C : ME) (b : Nat) : ME := up2 (up2 C 64 b (if C 63 b < C 64 b then C 64 b - C 63 b else 0)) 69 b 0
def mShift (C : ME) (b : Nat) : ME := mEnd (mBody C b) b
def mDid (C : ME) (b : Nat) : Int32 := if mWhy C b = 45 then 1 else 0
theorem mBody_n {C : ME} {b : Nat} (h : kFst (mNq C b) (mLf C b) = none) : mBody C b = C := by unfold mBody; rw [h]
theorem mBody_s {C : ME} {b k : Nat} (h : kFst (mNq C b) (mLf C b) = some k) : mBody C b = mBodyJ C b (tn (mQ C b k)) := by unfold mBody; rw [h]
theorem mE_body {C : ME} {b : Nat} : mE C (mBody C b) := by
  unfold mBody
  split
  · exact mE.refl C
  · unfold mBodyJ
    split
    · exact ((mE.put (by omega)).trans (mE.put (by omega))).trans (mE.put (by omega))
    · split
      · exact mE_loses
      · exact (mE.put (by omega)).trans (mE.put (by omega))
theorem mE_shift {C : ME} {b : Nat} : mE C (mShift C b) := mE_body.trans ((mE.put (by omega)).trans (mE.put (by omega)))
theorem mWhyJ_q (C : ME) (b j : Nat) : ¬ mWhyJ C b j = 113 := by
  unfold mWhyJ
  repeat' split
  all_goals decide
set_option maxHeartbeats 4000000 in
set_option maxRecDepth 100000 in
/-- shift(b) -/
theorem sp_X4_shift {l : Launch} {g : GW} {ad : AD} {τ : RH} {Lv : Nat → Bool} {C : ME} {ρ : RH} {b9 : Int32} {b : Nat} (hH : HH g ad Lv C ρ τ) (hL : mL Lv) (hI : mI C) (hb9 : b9 = nI b) (hb : b < 2) : Sp l g yX4_shift (.code yX4_shift cX4_shift 4 (some .int)) (rmv 2 0 0) [.ref (ad 60), .int b9] ad τ 0 0 (fun v ad' τ' => v = some (.int (mDid C b)) ∧ ad' = ad ∧ HH g ad Lv (mShift C b) ρ τ') (NoX) := by
  refine Sp.of 2 [some (.ref (ad 60)), some (.int b9), none, none] (by decide +kernel) (Nat.le_of_ble_eq_true rfl) rfl ?_
  intro p e s m args below meth c A cx hout hr hnm
  have hM := M_obj hH hL
  have hR := M_row hH hL
  subst hb9
  refine a_join (fun τ9 lv9 => HH g ad Lv (mBody C b) ρ τ9 ∧ ∃ z, lv9 = [some (.ref (ad 60)), some (.int (nI b)), some (.int z), some (.int (mWhy C b))]) 97 ?_ (fun tail97 => ?_)
  · rintro τ lv1 ⟨hH, z, rfl⟩
    have hR := M_row hH hL
    have hM := M_obj hH hL
    refine a_aload_n cx dX4_shift_97 rfl rfl ?_
    refine gf_X4_19 cx hM dX4_shift_98 ?_
    refine a_iload_n cx dX4_shift_101 rfl rfl ?_
    refine a_aload_n cx dX4_shift_102 rfl rfl ?_
    refine gf_X4_19 cx hM dX4_shift_103 ?_
    refine a_iload_n cx dX4_shift_106 rfl rfl ?_
    refine a_ild cx (b) (by exact hR _ (by decide) (by decide)) (rfl) (hb) (by decide) dX4_shift_107 ?_
    refine a_aload_n cx dX4_shift_108 rfl rfl ?_
    refine gf_X4_16 cx hM dX4_shift_109 ?_
    refine a_iload_n cx dX4_shift_112 rfl rfl ?_
    refine a_ild cx (b) (by exact hR _ (by decide) (by decide)) (rfl) (hb) (by decide) dX4_shift_113 ?_
    refine a_icmp_le cx (tgt := 133) dX4_shift_114 (by decide) (fun c_114 => ?_) (fun c_114 => ?_)
    · refine a_iconst cx (v := 0) dX4_shift_133 (by decide) ?_
      refine a_ist cx (b) (by exact hR _ (by decide) (by decide)) (rfl) (hb) (by decide)  dX4_shift_134 ?_
      refine a_HH (hH.put (r := 64) (b) _ (by decide) (hL 64 (by decide) (by decide)) rfl) (fun τ hH => ?_)
      have hR := M_row hH hL
      have hM := M_obj hH hL
      refine a_aload_n cx dX4_shift_135 rfl rfl ?_
      refine gf_X4_35 cx hM dX4_shift_136 ?_
      refine a_iload_n cx dX4_shift_139 rfl rfl ?_
      refine a_iconst cx (v := 0) dX4_shift_140 (by decide) ?_
      refine a_zst cx (b) (by exact hR _ (by decide) (by decide)) (rfl) (hb) (by decide) (by first | rfl | decide) dX4_shift_141 ?_
      refine a_HH (hH.put (r := 69) (b) _ (by decide) (hL 69 (by decide) (by decide)) rfl) (fun τ hH => ?_)
      have hR := M_row hH hL
      have hM := M_obj hH hL
      refine a_iload_n cx dX4_shift_142 rfl rfl ?_
      refine a_bipush cx (v := 45) dX4_shift_143 (by decide) ?_
      refine a_icmp_ne cx (tgt := 152) dX4_shift_145 (by decide) (fun c_145 => ?_) (fun c_145 => ?_)
      · refine a_iconst cx (v := 0) dX4_shift_152 (by decide) ?_
        exact a_iret cx hr dX4_shift_153 (Nat.le_of_ble_eq_true rfl) (Nat.le_of_ble_eq_true rfl) ⟨vI (if_0 c_145), rfl, by unfold mShift mEnd; rw [if_neg (fun h => lt_ge h c_114)]; exact hH⟩
      · refine a_iconst cx (v := 1) dX4_shift_148 (by decide) ?_
        refine a_goto cx (tgt := 153) dX4_shift_149 (by decide) ?_
        exact a_iret cx hr dX4_shift_153 (Nat.le_of_ble_eq_true rfl) (Nat.le_of_ble_eq_true rfl) ⟨vI (if_1 c_145), rfl, by unfold mShift mEnd; rw [if_neg (fun h => lt_ge h c_114)]; exact hH⟩
    · refine a_aload_n cx dX4_shift_117 rfl rfl ?_
      refine gf_X4_19 cx hM dX4_shift_118 ?_
      refine a_iload_n cx dX4_shift_121 rfl rfl ?_
      refine a_ild cx (b) (by exact hR _ (by decide) (by decide)) (rfl) (hb) (by decide) dX4_shift_122 ?_
      refine a_aload_n cx dX4_shift_123 rfl rfl ?_
      refine gf_X4_16 cx hM dX4_shift_124 ?_
      refine a_iload_n cx dX4_shift_127 rfl rfl ?_
      refine a_ild cx (b) (by exact hR _ (by decide) (by decide)) (rfl) (hb) (by decide) dX4_shift_128 ?_
      refine a_isub cx dX4_shift_129 ?_
      refine a_goto cx (tgt := 134) dX4_shift_130 (by decide) ?_
      refine a_ist cx (b) (by exact hR _ (by decide) (by decide)) (rfl) (hb) (by decide)  dX4_shift_134 ?_
      refine a_HH (hH.put (r := 64) (b) _ (by decide) (hL 64 (by decide) (by decide)) rfl) (fun τ hH => ?_)
      have hR := M_row hH hL
      have hM := M_obj hH hL
      refine a_aload_n cx dX4_shift_135 rfl rfl ?_
      refine gf_X4_35 cx hM dX4_shift_136 ?_
      refine a_iload_n cx dX4_shift_139 rfl rfl ?_
      refine a_iconst cx (v := 0) dX4_shift_140 (by decide) ?_
      refine a_zst cx (b) (by exact hR _ (by decide) (by decide)) (rfl) (hb) (by decide) (by first | rfl | decide) dX4_shift_141 ?_
      refine a_HH (hH.put (r := 69) (b) _ (by decide) (hL 69 (by decide) (by decide)) rfl) (fun τ hH => ?_)
      have hR := M_row hH hL
      have hM := M_obj hH hL
      refine a_iload_n cx dX4_shift_142 rfl rfl ?_
      refine a_bipush cx (v := 45) dX4_shift_143 (by decide) ?_
      refine a_icmp_ne cx (tgt := 152) dX4_shift_145 (by decide) (fun c_145 => ?_) (fun c_145 => ?_)
      · refine a_iconst cx (v := 0) dX4_shift_152 (by decide) ?_
        exact a_iret cx hr dX4_shift_153 (Nat.le_of_ble_eq_true rfl) (Nat.le_of_ble_eq_true rfl) ⟨vI (if_0 c_145), rfl, by unfold mShift mEnd; rw [if_pos (le_gt c_114)]; exact hH⟩
      · refine a_iconst cx (v := 1) dX4_shift_148 (by decide) ?_
        refine a_goto cx (tgt := 153) dX4_shift_149 (by decide) ?_
        exact a_iret cx hr dX4_shift_153 (Nat.le_of_ble_eq_true rfl) (Nat.le_of_ble_eq_true rfl) ⟨vI (if_1 c_145), rfl, by unfold mShift mEnd; rw [if_pos (le_gt c_114)]; exact hH⟩
  · refine a_aload_n cx dX4_shift_0 rfl rfl ?_
    refine a_iload_n cx dX4_shift_1 rfl rfl ?_
    refine a_callV cx 1 (sp_X4_isOn hH hL hI rfl hb) hM rfl ml_X4_123 im_X4_isOn se_X4_isOn ini_X4 cd_X4_isOn rfl rfl (by decide +kernel) rfl rfl ⟨(Nat.le_of_ble_eq_true rfl), (Nat.le_of_ble_eq_true rfl)⟩ (Nat.le_of_ble_eq_true rfl) dX4_shift_2 ⟨(Nat.le_of_ble_eq_true rfl), (Nat.le_of_ble_eq_true rfl)⟩ (fun _ _ _ h => h.elim) (fun v9 ad9 τ9 hP => ?_)
    obtain ⟨rfl, h2, h3⟩ := hP
    replace h2 := h2.symm
    subst h2
    replace h3 := h3.symm
    subst h3
    rcases hq : kFst (mNq C b) (mLf C b) with _ | k
    · refine a_int (mOn_n hq) ?_
      refine a_istore_n2 cx dX4_shift_5 rfl (by decide) (by intro w h; first | (cases h; rfl) | (cases h; assumption) | (cases h; done)) ?_
      refine a_aload_n cx dX4_shift_6 rfl rfl ?_
      refine a_iload_n cx dX4_shift_7 rfl rfl ?_
      refine a_callV cx 1 (sp_X4_why hH hL hI rfl hb) hM rfl ml_X4_126 im_X4_why se_X4_why ini_X4 cd_X4_why rfl rfl (by decide +kernel) rfl rfl ⟨(Nat.le_of_ble_eq_true rfl), (Nat.le_of_ble_eq_true rfl)⟩ (Nat.le_of_ble_eq_true rfl) dX4_shift_8 ⟨(Nat.le_of_ble_eq_true rfl), (Nat.le_of_ble_eq_true rfl)⟩ (fun _ _ _ h => h.elim) (fun v9 ad9 τ9 hP => ?_)
      obtain ⟨rfl, h2, h3⟩ := hP
      replace h2 := h2.symm
      subst h2
      replace h3 := h3.symm
      subst h3
      rw [mWhy_n hq]
      refine a_istore_n3 cx dX4_shift_11 rfl (by decide) (by intro w h; first | (cases h; rfl) | (cases h; assumption) | (cases h; done)) ?_
      refine a_iload_n cx dX4_shift_12 rfl rfl ?_
      refine a_bipush cx (v := 45) dX4_shift_13 (by decide) ?_
      refine a_icmp_ne cx (tgt := 56) dX4_shift_15 (by decide) (fun c_15 => ?_) (fun c_15 => absurd c_15 (by decide))
      refine a_iload_n cx dX4_shift_56 rfl rfl ?_
      refine a_bipush cx (v := 102) dX4_shift_57 (by decide) ?_
      refine a_icmp_ne cx (tgt := 71) dX4_shift_59 (by decide) (fun c_59 => ?_) (fun c_59 => absurd c_59 (by decide))
      refine a_iload_n cx dX4_shift_71 rfl rfl ?_
      refine a_bipush cx (v := 113) dX4_shift_72 (by decide) ?_
      refine a_icmp_eq cx (tgt := 97) dX4_shift_74 (by decide) (fun c_74 => ?_) (fun c_74 => absurd rfl c_74)
      exact tail97 _ _ ⟨by rw [mBody_n hq]; exact hH, _, by rw [mWhy_n hq]⟩
    · obtain ⟨e9, hj⟩ := mOn_s hI hb hq
      generalize hjj : tn (mQ C b k) = j at e9 hj
      refine a_int e9 ?_
      have hj8 : j < 8 := by have := hI.2.2.2.1; omega
      refine a_istore_n2 cx dX4_shift_5 rfl (by decide) (by intro w h; first | (cases h; rfl) | (cases h; assumption) | (cases h; done)) ?_
      refine a_aload_n cx dX4_shift_6 rfl rfl ?_
      refine a_iload_n cx dX4_shift_7 rfl rfl ?_
      refine a_callV cx 1 (sp_X4_why hH hL hI rfl hb) hM rfl ml_X4_126 im_X4_why se_X4_why ini_X4 cd_X4_why rfl rfl (by decide +kernel) rfl rfl ⟨(Nat.le_of_ble_eq_true rfl), (Nat.le_of_ble_eq_true rfl)⟩ (Nat.le_of_ble_eq_true rfl) dX4_shift_8 ⟨(Nat.le_of_ble_eq_true rfl), (Nat.le_of_ble_eq_true rfl)⟩ (fun _ _ _ h => h.elim) (fun v9 ad9 τ9 hP => ?_)
      obtain ⟨rfl, h2, h3⟩ := hP
      replace h2 := h2.symm
      subst h2
      replace h3 := h3.symm
      subst h3
      rw [mWhy_s hq, hjj]
      refine a_istore_n3 cx dX4_shift_11 rfl (by decide) (by intro w h; first | (cases h; rfl) | (cases h; assumption) | (cases h; done)) ?_
      refine a_iload_n cx dX4_shift_12 rfl rfl ?_
      refine a_bipush cx (v := 45) dX4_shift_13 (by decide) ?_
      refine a_icmp_ne cx (tgt := 56) dX4_shift_15 (by decide) (fun c_15 => ?_) (fun c_15 => ?_)
      · refine a_iload_n cx dX4_shift_56 rfl rfl ?_
        refine a_bipush cx (v := 102) dX4_shift_57 (by decide) ?_
        refine a_icmp_ne cx (tgt := 71) dX4_shift_59 (by decide) (fun c_59 => ?_) (fun c_59 => ?_)
        · refine a_iload_n cx dX4_shift_71 rfl rfl ?_
          refine a_bipush cx (v := 113) dX4_shift_72 (by decide) ?_
          refine a_icmp_eq cx (tgt := 97) dX4_shift_74 (by decide) (fun c_74 => absurd c_74 (mWhyJ_q _ _ _)) (fun c_74 => ?_)
          refine a_aload_n cx dX4_shift_77 rfl rfl ?_
          refine gf_X4_53 cx hM dX4_shift_78 ?_
          refine a_iload_n cx dX4_shift_81 rfl rfl ?_
          refine a_dup2 cx dX4_shift_82 rfl rfl ?_
          refine a_ild cx (j) (by exact hR _ (by decide) (by decide)) (rfl) (hj8) (by decide) dX4_shift_83 ?_
          refine a_iconst cx (v := 1) dX4_shift_84 (by decide) ?_
          refine a_isub cx dX4_shift_85 ?_
          refine a_ist cx (j) (by exact hR _ (by decide) (by decide)) (rfl) (hj8) (by decide)  dX4_shift_86 ?_
          refine a_HH (hH.put (r := 75) (j) _ (by decide) (hL 75 (by decide) (by decide)) rfl) (fun τ hH => ?_)
          have hR := M_row hH hL
          have hM := M_obj hH hL
          refine a_aload_n cx dX4_shift_87 rfl rfl ?_
          refine gf_X4_59 cx hM dX4_shift_88 ?_
          refine a_iload_n cx dX4_shift_91 rfl rfl ?_
          refine a_dup2 cx dX4_shift_92 rfl rfl ?_
          refine a_ild cx (j) (by exact hR _ (by decide) (by decide)) (rfl) (hj8) (by decide) dX4_shift_93 ?_
          refine a_iconst cx (v := 1) dX4_shift_94 (by decide) ?_
          refine a_iadd cx dX4_shift_95 ?_
          refine a_ist cx (j) (by exact hR _ (by decide) (by decide)) (rfl) (hj8) (by decide)  dX4_shift_96 ?_
          refine a_HH (hH.put (r := 77) (j) _ (by decide) (hL 77 (by decide) (by decide)) rfl) (fun τ hH => ?_)
          have hR := M_row hH hL
          have hM := M_obj hH hL
          exact tail97 _ _ ⟨by rw [mBody_s hq, hjj]; unfold mBodyJ; rw [if_neg c_15, if_neg c_59]; exact hH, _, by rw [mWhy_s hq, hjj]⟩
        · refine a_aload_n cx dX4_shift_62 rfl rfl ?_
          refine a_iload_n cx dX4_shift_63 rfl rfl ?_
          refine a_iload_n cx dX4_shift_64 rfl rfl ?_
          refine a_callV cx 2 (sp_X4_loses hH hL hI rfl hb rfl hj8) hM rfl ml_X4_130 im_X4_loses se_X4_loses ini_X4 cd_X4_loses rfl rfl (by decide +kernel) rfl rfl ⟨(Nat.le_of_ble_eq_true rfl), (Nat.le_of_ble_eq_true rfl)⟩ (Nat.le_of_ble_eq_true rfl) dX4_shift_65 ⟨(Nat.le_of_ble_eq_true rfl), (Nat.le_of_ble_eq_true rfl)⟩ (fun _ _ _ h => h.elim) (fun v9 ad9 τ9 hP => ?_)
          obtain ⟨rfl, h2, hH⟩ := hP
          replace h2 := h2.symm
          subst h2
          refine a_goto cx (tgt := 97) dX4_shift_68 (by decide) ?_
          exact tail97 _ _ ⟨by rw [mBody_s hq, hjj]; unfold mBodyJ; rw [if_neg c_15, if_pos c_59]; exact hH, _, by rw [mWhy_s hq, hjj]⟩
      · refine a_aload_n cx dX4_shift_18 rfl rfl ?_
        refine gf_X4_53 cx hM dX4_shift_19 ?_
        refine a_iload_n cx dX4_shift_22 rfl rfl ?_
        refine a_dup2 cx dX4_shift_23 rfl rfl ?_
        refine a_ild cx (j) (by exact hR _ (by decide) (by decide)) (rfl) (hj8) (by decide) dX4_shift_24 ?_
        refine a_iconst cx (v := 1) dX4_shift_25 (by decide) ?_
        refine a_isub cx dX4_shift_26 ?_
        refine a_ist cx (j) (by exact hR _ (by decide) (by decide)) (rfl) (hj8) (by decide)  dX4_shift_27 ?_
        refine a_HH (hH.put (r := 75) (j) _ (by decide) (hL 75 (by decide) (by decide)) rfl) (fun τ hH => ?_)
        have hR := M_row hH hL
        have hM := M_obj hH hL
        refine a_aload_n cx dX4_shift_28 rfl rfl ?_
        refine gf_X4_56 cx hM dX4_shift_29 ?_
        refine a_iload_n cx dX4_shift_32 rfl rfl ?_
        refine a_dup2 cx dX4_shift_33 rfl rfl ?_
        refine a_ild cx (j) (by exact hR _ (by decide) (by decide)) (rfl) (hj8) (by decide) dX4_shift_34 ?_
        refine a_iconst cx (v := 1) dX4_shift_35 (by decide) ?_
        refine a_iadd cx dX4_shift_36 ?_
        refine a_ist cx (j) (by exact hR _ (by decide) (by decide)) (rfl) (hj8) (by decide)  dX4_shift_37 ?_
        refine a_HH (hH.put (r := 76) (j) _ (by decide) (hL 76 (by decide) (by decide)) rfl) (fun τ hH => ?_)
        have hR := M_row hH hL
        have hM := M_obj hH hL
        refine a_aload_n cx dX4_shift_38 rfl rfl ?_
        refine gf_X4_19 cx hM dX4_shift_39 ?_
        refine a_iload_n cx dX4_shift_42 rfl rfl ?_
        refine a_dup2 cx dX4_shift_43 rfl rfl ?_
        refine a_ild cx (b) (by exact hR _ (by decide) (by decide)) (rfl) (hb) (by decide) dX4_shift_44 ?_
        refine a_aload_n cx dX4_shift_45 rfl rfl ?_
        refine gf_X4_50 cx hM dX4_shift_46 ?_
        refine a_iload_n cx dX4_shift_49 rfl rfl ?_
        refine a_ild cx (j) (by exact hR _ (by decide) (by decide)) (rfl) (hj8) (by decide) dX4_shift_50 ?_
        refine a_iadd cx dX4_shift_51 ?_
        refine a_ist cx (b) (by exact hR _ (by decide) (by decide)) (rfl) (hb) (by decide)  dX4_shift_52 ?_
        refine a_HH (hH.put (r := 64) (b) _ (by decide) (hL 64 (by decide) (by decide)) rfl) (fun τ hH => ?_)
        have hR := M_row hH hL
        have hM := M_obj hH hL
        refine a_goto cx (tgt := 97) dX4_shift_53 (by decide) ?_
        exact tail97 _ _ ⟨by rw [mBody_s hq, hjj]; unfold mBodyJ; rw [if_pos c_15]; exact hH, _, by rw [mWhy_s hq, hjj]⟩

