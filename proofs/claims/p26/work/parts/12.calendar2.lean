abbrev prO (nu : Int32) (ln : Value) (us sc wa da qp sl sp dn ms lo ow : Int32) : va_E := .inr (5, [.int nu, ln, .int us, .int sc, .int wa, .int da, .int qp, .int sl, .int sp, .int dn, .int ms, .int lo, .int ow])
theorem kF_done {n : Nat} {lf : Nat → Int32} {rs kd : Int32} (h : kd = 100 ∨ kd = 109) : kFollow n lf rs kd = (kTake lf (oI (kFst n lf)), rs, -1) := by unfold kFollow; rw [if_pos h]
theorem kF_idle {n : Nat} {lf : Nat → Int32} {rs kd : Int32} (h1 : ¬ kd = 100) (h2 : ¬ kd = 109) (h3 : ¬ kd = 108) : kFollow n lf rs kd = (lf, rs, -1) := by unfold kFollow; rw [if_neg (fun h => h.elim h1 h2), if_neg h3]
theorem up_keep {τ : RH} {c0 la : Nat} {e0 e1 e2 : va_E} (hc : τ c0 = some e0) (hl : τ la = some e1) (hn : e0 ≠ e1) : va_up (va_up τ la (some e2)) c0 (some e0) = va_up τ la (some e2) := up_some (by rw [va_up_ne _ _ (r_ne hc hl hn)]; exact hc)
set_option maxHeartbeats 4000000 in
set_option maxRecDepth 100000 in
/-- follow(kind) -/
theorem sp_X1_follow {l : Launch} {g : GW} {ad : AD} {τ : RH} {c0 la n : Nat} {lf : Nat → Int32} {rs : Int32} {kd : Int32} (hc : τ c0 = some (calO ad la n rs)) (hl : τ la = some (arI g 8 lf)) (hn : n ≤ 8) : Sp l g yX1_follow (.code yX1_follow cX1_follow 2 (some .int)) (rmv 4 0 0) [.ref (ad c0), .int kd] ad τ 0 0 (fun v ad' τ' => v = some (.int (kFollow n lf rs kd).2.2) ∧ ad' = ad ∧ τ' = va_up (va_up τ la (some (arI g 8 ((kFollow n lf rs kd).1)))) c0 (some (calO ad la (n) ((kFollow n lf rs kd).2.1)))) (NoX) := by
  refine Sp.of 0 [some (.ref (ad c0)), some (.int kd)] (by decide +kernel) (Nat.le_of_ble_eq_true rfl) rfl ?_
  intro p e s m args below meth c A cx hout hr hnm
  refine a_iload_n cx dX1_follow_0 rfl rfl ?_
  refine a_bipush cx (v := 100) dX1_follow_1 (by decide) ?_
  refine a_icmp_eq cx (tgt := 12) dX1_follow_3 (by decide) (fun c_3 => ?_) (fun c_3 => ?_)
  · refine a_aload_n cx dX1_follow_12 rfl rfl ?_
    refine a_aload_n cx dX1_follow_13 rfl rfl ?_
    refine a_callV cx 0 (sp_X1_firstPlace hc hl hn) hc rfl ml_X1_26 im_X1_firstPlace se_X1_firstPlace ini_X1 cd_X1_firstPlace rfl rfl (by decide +kernel) rfl rfl ⟨(Nat.le_of_ble_eq_true rfl), (Nat.le_of_ble_eq_true rfl)⟩ (Nat.le_of_ble_eq_true rfl) dX1_follow_14 ⟨(Nat.le_of_ble_eq_true rfl), (Nat.le_of_ble_eq_true rfl)⟩ (fun _ _ _ h => h.elim) (fun v9 ad9 τ9 hP => ?_)
    obtain ⟨rfl, h2, h3⟩ := hP
    replace h2 := h2.symm
    subst h2
    replace h3 := h3.symm
    subst h3
    refine a_callV cx 1 (sp_X1_takeFrom (k := oI (kFst n lf)) hc hl) hc rfl ml_X1_30 im_X1_takeFrom se_X1_takeFrom ini_X1 cd_X1_takeFrom rfl rfl (by decide +kernel) rfl rfl ⟨(Nat.le_of_ble_eq_true rfl), (Nat.le_of_ble_eq_true rfl)⟩ (Nat.le_of_ble_eq_true rfl) dX1_follow_17 ⟨(Nat.le_of_ble_eq_true rfl), (Nat.le_of_ble_eq_true rfl)⟩ (fun _ _ _ h => h.elim) (fun v9 ad9 τ9 hP => ?_)
    obtain ⟨rfl, h2, h3⟩ := hP
    replace h2 := h2.symm
    subst h2
    replace h3 := h3.symm
    subst h3
    refine a_iload_n cx dX1_follow_20 rfl rfl ?_
    refine a_bipush cx (v := 108) dX1_follow_21 (by decide) ?_
    refine a_icmp_ne cx (tgt := 31) dX1_follow_23 (by decide) (fun c_23 => ?_) (fun c_23 => absurd (c_3.symm.trans c_23) (by decide))
    refine a_iconst cx (v := -1) dX1_follow_31 (by decide) ?_
    exact a_iret cx hr dX1_follow_32 (Nat.le_of_ble_eq_true rfl) (Nat.le_of_ble_eq_true rfl) ⟨vI (by rw [kF_done (Or.inl c_3)]), rfl, by rw [kF_done (Or.inl c_3)]; exact (up_keep hc hl (by simp)).symm⟩
  · refine a_iload_n cx dX1_follow_6 rfl rfl ?_
    refine a_bipush cx (v := 109) dX1_follow_7 (by decide) ?_
    refine a_icmp_ne cx (tgt := 20) dX1_follow_9 (by decide) (fun c_9 => ?_) (fun c_9 => ?_)
    · refine a_iload_n cx dX1_follow_20 rfl rfl ?_
      refine a_bipush cx (v := 108) dX1_follow_21 (by decide) ?_
      refine a_icmp_ne cx (tgt := 31) dX1_follow_23 (by decide) (fun c_23 => ?_) (fun c_23 => ?_)
      · refine a_iconst cx (v := -1) dX1_follow_31 (by decide) ?_
        exact a_iret cx hr dX1_follow_32 (Nat.le_of_ble_eq_true rfl) (Nat.le_of_ble_eq_true rfl) ⟨vI (by rw [kF_idle c_3 c_9 c_23]), rfl, by rw [kF_idle c_3 c_9 c_23]; dsimp only; rw [up_some hl, up_some hc]⟩
      · refine a_aload_n cx dX1_follow_26 rfl rfl ?_
        refine a_callV cx 0 (sp_X1_lose hc hl hn) hc rfl ml_X1_34 im_X1_lose se_X1_lose ini_X1 cd_X1_lose rfl rfl (by decide +kernel) rfl rfl ⟨(Nat.le_of_ble_eq_true rfl), (Nat.le_of_ble_eq_true rfl)⟩ (Nat.le_of_ble_eq_true rfl) dX1_follow_27 ⟨(Nat.le_of_ble_eq_true rfl), (Nat.le_of_ble_eq_true rfl)⟩ (fun _ _ _ h => h.elim) (fun v9 ad9 τ9 hP => ?_)
        obtain ⟨rfl, h2, h3⟩ := hP
        replace h2 := h2.symm
        subst h2
        replace h3 := h3.symm
        subst h3
        exact a_iret cx hr dX1_follow_30 (Nat.le_of_ble_eq_true rfl) (Nat.le_of_ble_eq_true rfl) ⟨vI (by rw [c_23]), rfl, by rw [c_23]⟩
    · refine a_aload_n cx dX1_follow_12 rfl rfl ?_
      refine a_aload_n cx dX1_follow_13 rfl rfl ?_
      refine a_callV cx 0 (sp_X1_firstPlace hc hl hn) hc rfl ml_X1_26 im_X1_firstPlace se_X1_firstPlace ini_X1 cd_X1_firstPlace rfl rfl (by decide +kernel) rfl rfl ⟨(Nat.le_of_ble_eq_true rfl), (Nat.le_of_ble_eq_true rfl)⟩ (Nat.le_of_ble_eq_true rfl) dX1_follow_14 ⟨(Nat.le_of_ble_eq_true rfl), (Nat.le_of_ble_eq_true rfl)⟩ (fun _ _ _ h => h.elim) (fun v9 ad9 τ9 hP => ?_)
      obtain ⟨rfl, h2, h3⟩ := hP
      replace h2 := h2.symm
      subst h2
      replace h3 := h3.symm
      subst h3
      refine a_callV cx 1 (sp_X1_takeFrom (k := oI (kFst n lf)) hc hl) hc rfl ml_X1_30 im_X1_takeFrom se_X1_takeFrom ini_X1 cd_X1_takeFrom rfl rfl (by decide +kernel) rfl rfl ⟨(Nat.le_of_ble_eq_true rfl), (Nat.le_of_ble_eq_true rfl)⟩ (Nat.le_of_ble_eq_true rfl) dX1_follow_17 ⟨(Nat.le_of_ble_eq_true rfl), (Nat.le_of_ble_eq_true rfl)⟩ (fun _ _ _ h => h.elim) (fun v9 ad9 τ9 hP => ?_)
      obtain ⟨rfl, h2, h3⟩ := hP
      replace h2 := h2.symm
      subst h2
      replace h3 := h3.symm
      subst h3
      refine a_iload_n cx dX1_follow_20 rfl rfl ?_
      refine a_bipush cx (v := 108) dX1_follow_21 (by decide) ?_
      refine a_icmp_ne cx (tgt := 31) dX1_follow_23 (by decide) (fun c_23 => ?_) (fun c_23 => absurd (c_9.symm.trans c_23) (by decide))
      refine a_iconst cx (v := -1) dX1_follow_31 (by decide) ?_
      exact a_iret cx hr dX1_follow_32 (Nat.le_of_ble_eq_true rfl) (Nat.le_of_ble_eq_true rfl) ⟨vI (by rw [kF_done (Or.inr c_9)]), rfl, by rw [kF_done (Or.inr c_9)]; exact (up_keep hc hl (by simp)).symm⟩

theorem kA_no {n : Nat} {lf : Nat → Int32} {rs w : Int32} (h : rs < w ∨ 8 ≤ n) : kAllot n lf rs w = (n, lf, rs, -1) := by unfold kAllot; rw [if_pos h]
theorem kA_yes {n : Nat} {lf : Nat → Int32} {rs w : Int32} (h1 : ¬ rs < w) (h2 : ¬ 8 ≤ n) : kAllot n lf rs w = (n + 1, va_up lf n w, rs - w, nI n) := by unfold kAllot; rw [if_neg (fun h => h.elim h1 h2)]
theorem nge8 {n : Nat} (h : ¬ nI n < Int32.ofNat 8) : 8 ≤ n := by
  rcases Nat.lt_or_ge n 8 with q | q
  · exact absurd (nI_lt q (by decide)) h
  · exact q
theorem up_up {α : Type} (f : Nat → α) (k : Nat) (x y : α) : va_up (va_up f k x) k y = va_up f k y := by
  funext j
  by_cases h : j = k
  · subst h; rw [va_up_self, va_up_self]
  · rw [va_up_ne _ _ h, va_up_ne _ _ h, va_up_ne _ _ h]
theorem up_com {α : Type} (f : Nat → α) {i k : Nat} (x y : α) (h : i ≠ k) : va_up (va_up f i x) k y = va_up (va_up f k y) i x := by
  funext j
  by_cases h1 : j = k
  · subst h1; rw [va_up_self, va_up_ne _ _ h.symm, va_up_self]
  · rw [va_up_ne _ _ h1]
    by_cases h2 : j = i
    · subst h2; rw [va_up_self, va_up_self]
    · rw [va_up_ne _ _ h2, va_up_ne _ _ h2, va_up_ne _ _ h1]
set_option maxHeartbeats 4000000 in
set_option maxRecDepth 100000 in
/-- allot(wanted) -/
theorem sp_X1_allot {l : Launch} {g : GW} {ad : AD} {τ : RH} {c0 la n : Nat} {lf : Nat → Int32} {rs : Int32} {w : Int32} (hc : τ c0 = some (calO ad la n rs)) (hl : τ la = some (arI g 8 lf)) (hn : n ≤ 8) : Sp l g yX1_allot (.code yX1_allot cX1_allot 3 (some .int)) (rmv 1 0 0) [.ref (ad c0), .int w] ad τ 0 0 (fun v ad' τ' => v = some (.int (kAllot n lf rs w).2.2.2) ∧ ad' = ad ∧ τ' = va_up (va_up τ la (some (arI g 8 ((kAllot n lf rs w).2.1)))) c0 (some (calO ad la ((kAllot n lf rs w).1) ((kAllot n lf rs w).2.2.1)))) (NoX) := by
  refine Sp.of 1 [some (.ref (ad c0)), some (.int w), none] (by decide +kernel) (Nat.le_of_ble_eq_true rfl) rfl ?_
  intro p e s m args below meth c A cx hout hr hnm
  refine a_iload_n cx dX1_allot_0 rfl rfl ?_
  refine a_aload_n cx dX1_allot_1 rfl rfl ?_
  refine gf_X1_19 cx hc dX1_allot_2 ?_
  refine a_icmp_gt cx (tgt := 20) dX1_allot_5 (by decide) (fun c_5 => ?_) (fun c_5 => ?_)
  · refine a_iconst cx (v := -1) dX1_allot_20 (by decide) ?_
    exact a_iret cx hr dX1_allot_21 (Nat.le_of_ble_eq_true rfl) (Nat.le_of_ble_eq_true rfl) ⟨vI (by rw [kA_no (Or.inl c_5)]), rfl, by rw [kA_no (Or.inl c_5)]; dsimp only; rw [up_some hl, up_some hc]⟩
  · refine a_aload_n cx dX1_allot_8 rfl rfl ?_
    refine gf_X1_15 cx hc dX1_allot_9 ?_
    refine a_aload_n cx dX1_allot_12 rfl rfl ?_
    refine gf_X1_9 cx hc dX1_allot_13 ?_
    refine a_alen cx 1 hl rfl rfl dX1_allot_16 ?_
    refine a_icmp_lt cx (tgt := 22) dX1_allot_17 (by decide) (fun c_17 => ?_) (fun c_17 => ?_)
    · have hn8 : n < 8 := (nI_ltI (by omega) (by decide)).mp c_17
      have hcl : la ≠ c0 := r_ne hl hc (by simp)
      refine a_aload_n cx dX1_allot_22 rfl rfl ?_
      refine gf_X1_15 cx hc dX1_allot_23 ?_
      refine a_istore_n2 cx dX1_allot_26 rfl (by decide) (by intro w h; first | (cases h; rfl) | (cases h; assumption) | (cases h; done)) ?_
      refine a_aload_n cx dX1_allot_27 rfl rfl ?_
      refine gf_X1_9 cx hc dX1_allot_28 ?_
      refine a_iload_n cx dX1_allot_31 rfl rfl ?_
      refine a_iload_n cx dX1_allot_32 rfl rfl ?_
      refine a_ist cx (n) hl (rfl) (hn8) (by decide)  dX1_allot_33 ?_
      have hc : (va_up τ la (some (arI g 8 (va_up lf n w)))) c0 = some (calO ad la n rs) := by rw [va_up_ne _ _ hcl.symm]; exact hc
      refine a_aload_n cx dX1_allot_34 rfl rfl ?_
      refine a_dup cx dX1_allot_35 rfl ?_
      refine gf_X1_19 cx hc dX1_allot_36 ?_
      refine a_iload_n cx dX1_allot_39 rfl rfl ?_
      refine a_isub cx dX1_allot_40 ?_
      refine pf_X1_19 cx hc dX1_allot_41 ?_
      have hc : (va_up (va_up τ la (some (arI g 8 (va_up lf n w)))) c0 (some (calO ad la n (rs - w)))) c0 = some (calO ad la n (rs - w)) := va_up_self _ _ _
      refine a_aload_n cx dX1_allot_44 rfl rfl ?_
      refine a_dup cx dX1_allot_45 rfl ?_
      refine gf_X1_15 cx hc dX1_allot_46 ?_
      refine a_iconst cx (v := 1) dX1_allot_49 (by decide) ?_
      refine a_iadd cx dX1_allot_50 ?_
      refine pf_X1_15 cx hc dX1_allot_51 ?_
      refine a_iload_n cx dX1_allot_54 rfl rfl ?_
      exact a_iret cx hr dX1_allot_55 (Nat.le_of_ble_eq_true rfl) (Nat.le_of_ble_eq_true rfl) ⟨vI (by rw [kA_yes c_5 (by omega)]), rfl, by rw [kA_yes c_5 (by omega)]; dsimp only; rw [up_up, nI_1]⟩
    · refine a_iconst cx (v := -1) dX1_allot_20 (by decide) ?_
      exact a_iret cx hr dX1_allot_21 (Nat.le_of_ble_eq_true rfl) (Nat.le_of_ble_eq_true rfl) ⟨vI (by rw [kA_no (Or.inr (nge8 c_17))]), rfl, by rw [kA_no (Or.inr (nge8 c_17))]; dsimp only; rw [up_some hl, up_some hc]⟩

set_option maxHeartbeats 4000000 in
set_option maxRecDepth 100000 in
/-- begin(shifts) -/
theorem sp_X1_begin {l : Launch} {g : GW} {ad : AD} {τ : RH} {c0 la n : Nat} {lf : Nat → Int32} {rs : Int32} {w : Int32} (hc : τ c0 = some (calO ad la n rs)) : Sp l g yX1_begin (.code yX1_begin cX1_begin 2 none) (rmv 1 0 0) [.ref (ad c0), .int w] ad τ 0 0 (fun v ad' τ' => v = none ∧ ad' = ad ∧ τ' = va_up τ c0 (some (calO ad la 0 w))) (NoX) := by
  refine Sp.of 0 [some (.ref (ad c0)), some (.int w)] (by decide +kernel) (Nat.le_of_ble_eq_true rfl) rfl ?_
  intro p e s m args below meth c A cx hout hr hnm
  refine a_aload_n cx dX1_begin_0 rfl rfl ?_
  refine a_iconst cx (v := 0) dX1_begin_1 (by decide) ?_
  refine pf_X1_15 cx hc dX1_begin_2 ?_
  have hc : (va_up τ c0 (some (calO ad la 0 rs))) c0 = some (calO ad la 0 rs) := va_up_self _ _ _
  refine a_aload_n cx dX1_begin_5 rfl rfl ?_
  refine a_iload_n cx dX1_begin_6 rfl rfl ?_
  refine pf_X1_19 cx hc dX1_begin_7 ?_
  exact a_vret cx hr dX1_begin_10 (Nat.le_of_ble_eq_true rfl) (Nat.le_of_ble_eq_true rfl) ⟨rfl, rfl, up_up _ _ _ _⟩

theorem if_1 {c : Prop} [Decidable c] (h : c) : (1 : Int32) = if c then 1 else 0 := by rw [if_pos h]
theorem if_0 {c : Prop} [Decidable c] (h : ¬ c) : (0 : Int32) = if c then 1 else 0 := by rw [if_neg h]
set_option maxHeartbeats 4000000 in
set_option maxRecDepth 100000 in
/-- hasSample() -/
theorem sp_X2_hasSample {l : Launch} {g : GW} {ad : AD} {τ : RH} {r0 : Nat} {ln : Value} {nu us sc wa da qp sl sp dn ms lo ow : Int32} (hp : τ r0 = some (prO nu ln us sc wa da qp sl sp dn ms lo ow)) : Sp l g yX2_hasSample (.code yX2_hasSample cX2_hasSample 1 (some .boolean)) (rmv 1 0 0) [.ref (ad r0)] ad τ 0 0 (fun v ad' τ' => v = some (.int (if ¬ sl = -1 then 1 else 0)) ∧ ad' = ad ∧ τ' = τ) (NoX) := by
  refine Sp.of 0 [some (.ref (ad r0))] (by decide +kernel) (Nat.le_of_ble_eq_true rfl) rfl ?_
  intro p e s m args below meth c A cx hout hr hnm
  refine a_aload_n cx dX2_hasSample_0 rfl rfl ?_
  refine gf_X2_15 cx hp dX2_hasSample_1 ?_
  refine a_iconst cx (v := -1) dX2_hasSample_4 (by decide) ?_
  refine a_icmp_eq cx (tgt := 12) dX2_hasSample_5 (by decide) (fun c_5 => ?_) (fun c_5 => ?_)
  · refine a_iconst cx (v := 0) dX2_hasSample_12 (by decide) ?_
    exact a_zret cx hr dX2_hasSample_13 (by first | rfl | decide) (Nat.le_of_ble_eq_true rfl) (Nat.le_of_ble_eq_true rfl) ⟨vI (if_0 (fun h => h c_5)), rfl, rfl⟩
  · refine a_iconst cx (v := 1) dX2_hasSample_8 (by decide) ?_
    refine a_goto cx (tgt := 13) dX2_hasSample_9 (by decide) ?_
    exact a_zret cx hr dX2_hasSample_13 (by first | rfl | decide) (Nat.le_of_ble_eq_true rfl) (Nat.le_of_ble_eq_true rfl) ⟨vI (if_1 c_5), rfl, rfl⟩

theorem i10_0 {c : Prop} [Decidable c] (h : (if c then (1 : Int32) else 0) = 0) : ¬ c := fun hc => by rw [if_pos hc] at h; exact absurd h (by decide)
theorem i10_1 {c : Prop} [Decidable c] (h : ¬ (if c then (1 : Int32) else 0) = 0) : c := Decidable.byContradiction fun hc => h (by rw [if_neg hc])
set_option maxHeartbeats 4000000 in
set_option maxRecDepth 100000 in
/-- isCold() -/
theorem sp_X2_isCold {l : Launch} {g : GW} {ad : AD} {τ : RH} {r0 : Nat} {ln : Value} {nu us sc wa da qp sl sp dn ms lo ow : Int32} (hp : τ r0 = some (prO nu ln us sc wa da qp sl sp dn ms lo ow)) : Sp l g yX2_isCold (.code yX2_isCold cX2_isCold 1 (some .boolean)) (rmv 2 0 0) [.ref (ad r0)] ad τ 0 0 (fun v ad' τ' => v = some (.int (if ¬ sl = -1 ∧ sp = 99 then 1 else 0)) ∧ ad' = ad ∧ τ' = τ) (NoX) := by
  refine Sp.of 0 [some (.ref (ad r0))] (by decide +kernel) (Nat.le_of_ble_eq_true rfl) rfl ?_
  intro p e s m args below meth c A cx hout hr hnm
  refine a_aload_n cx dX2_isCold_0 rfl rfl ?_
  refine a_callV cx 0 (sp_X2_hasSample hp) hp rfl ml_X2_53 im_X2_hasSample se_X2_hasSample ini_X2 cd_X2_hasSample rfl rfl (by decide +kernel) rfl rfl ⟨(Nat.le_of_ble_eq_true rfl), (Nat.le_of_ble_eq_true rfl)⟩ (Nat.le_of_ble_eq_true rfl) dX2_isCold_1 ⟨(Nat.le_of_ble_eq_true rfl), (Nat.le_of_ble_eq_true rfl)⟩ (fun _ _ _ h => h.elim) (fun v9 ad9 τ9 hP => ?_)
  obtain ⟨rfl, h2, h3⟩ := hP
  replace h2 := h2.symm
  subst h2
  replace h3 := h3.symm
  subst h3
  refine a_if_eq cx (tgt := 20) dX2_isCold_4 (by decide) (fun c_4 => ?_) (fun c_4 => ?_)
  · refine a_iconst cx (v := 0) dX2_isCold_20 (by decide) ?_
    exact a_zret cx hr dX2_isCold_21 (by first | rfl | decide) (Nat.le_of_ble_eq_true rfl) (Nat.le_of_ble_eq_true rfl) ⟨vI (if_0 (fun h => i10_0 c_4 h.1)), rfl, rfl⟩
  · refine a_aload_n cx dX2_isCold_7 rfl rfl ?_
    refine gf_X2_18 cx hp dX2_isCold_8 ?_
    refine a_bipush cx (v := 99) dX2_isCold_11 (by decide) ?_
    refine a_icmp_ne cx (tgt := 20) dX2_isCold_13 (by decide) (fun c_13 => ?_) (fun c_13 => ?_)
    · refine a_iconst cx (v := 0) dX2_isCold_20 (by decide) ?_
      exact a_zret cx hr dX2_isCold_21 (by first | rfl | decide) (Nat.le_of_ble_eq_true rfl) (Nat.le_of_ble_eq_true rfl) ⟨vI (if_0 (fun h => c_13 h.2)), rfl, rfl⟩
    · refine a_iconst cx (v := 1) dX2_isCold_16 (by decide) ?_
      refine a_goto cx (tgt := 21) dX2_isCold_17 (by decide) ?_
      exact a_zret cx hr dX2_isCold_21 (by first | rfl | decide) (Nat.le_of_ble_eq_true rfl) (Nat.le_of_ble_eq_true rfl) ⟨vI (if_1 ⟨i10_1 c_4, c_13⟩), rfl, rfl⟩

set_option maxHeartbeats 4000000 in
set_option maxRecDepth 100000 in
/-- hasGoodSampleAtBeamline() -/
theorem sp_X2_hasGoodSampleAtBeamline {l : Launch} {g : GW} {ad : AD} {τ : RH} {r0 : Nat} {ln : Value} {nu us sc wa da qp sl sp dn ms lo ow : Int32} (hp : τ r0 = some (prO nu ln us sc wa da qp sl sp dn ms lo ow)) : Sp l g yX2_hasGoodSampleAtBeamline (.code yX2_hasGoodSampleAtBeamline cX2_hasGoodSampleAtBeamline 1 (some .boolean)) (rmv 1 0 0) [.ref (ad r0)] ad τ 0 0 (fun v ad' τ' => v = some (.int (if 0 < sl ∧ sp = 98 then 1 else 0)) ∧ ad' = ad ∧ τ' = τ) (NoX) := by
  refine Sp.of 0 [some (.ref (ad r0))] (by decide +kernel) (Nat.le_of_ble_eq_true rfl) rfl ?_
  intro p e s m args below meth c A cx hout hr hnm
  refine a_aload_n cx dX2_hasGoodSampleAtBeamline_0 rfl rfl ?_
  refine gf_X2_15 cx hp dX2_hasGoodSampleAtBeamline_1 ?_
  refine a_if_le cx (tgt := 20) dX2_hasGoodSampleAtBeamline_4 (by decide) (fun c_4 => ?_) (fun c_4 => ?_)
  · refine a_iconst cx (v := 0) dX2_hasGoodSampleAtBeamline_20 (by decide) ?_
    exact a_zret cx hr dX2_hasGoodSampleAtBeamline_21 (by first | rfl | decide) (Nat.le_of_ble_eq_true rfl) (Nat.le_of_ble_eq_true rfl) ⟨vI (if_0 (fun h => le_not_pos c_4 h.1)), rfl, rfl⟩
  · refine a_aload_n cx dX2_hasGoodSampleAtBeamline_7 rfl rfl ?_
    refine gf_X2_18 cx hp dX2_hasGoodSampleAtBeamline_8 ?_
    refine a_bipush cx (v := 98) dX2_hasGoodSampleAtBeamline_11 (by decide) ?_
    refine a_icmp_ne cx (tgt := 20) dX2_hasGoodSampleAtBeamline_13 (by decide) (fun c_13 => ?_) (fun c_13 => ?_)
    · refine a_iconst cx (v := 0) dX2_hasGoodSampleAtBeamline_20 (by decide) ?_
      exact a_zret cx hr dX2_hasGoodSampleAtBeamline_21 (by first | rfl | decide) (Nat.le_of_ble_eq_true rfl) (Nat.le_of_ble_eq_true rfl) ⟨vI (if_0 (fun h => c_13 h.2)), rfl, rfl⟩
    · refine a_iconst cx (v := 1) dX2_hasGoodSampleAtBeamline_16 (by decide) ?_
      refine a_goto cx (tgt := 21) dX2_hasGoodSampleAtBeamline_17 (by decide) ?_
      exact a_zret cx hr dX2_hasGoodSampleAtBeamline_21 (by first | rfl | decide) (Nat.le_of_ble_eq_true rfl) (Nat.le_of_ble_eq_true rfl) ⟨vI (if_1 ⟨not_le_pos c_4, c_13⟩), rfl, rfl⟩

set_option maxHeartbeats 4000000 in
set_option maxRecDepth 100000 in
/-- ageSample() -/
theorem sp_X2_ageSample {l : Launch} {g : GW} {ad : AD} {τ : RH} {r0 : Nat} {ln : Value} {nu us sc wa da qp sl sp dn ms lo ow : Int32} (hp : τ r0 = some (prO nu ln us sc wa da qp sl sp dn ms lo ow)) : Sp l g yX2_ageSample (.code yX2_ageSample cX2_ageSample 1 none) (rmv 1 0 0) [.ref (ad r0)] ad τ 0 0 (fun v ad' τ' => v = none ∧ ad' = ad ∧ τ' = va_up τ r0 (some (prO nu ln us sc wa da qp (if 0 < sl ∧ ¬ sp = 99 then sl - 1 else sl) sp dn ms lo ow))) (NoX) := by
  refine Sp.of 0 [some (.ref (ad r0))] (by decide +kernel) (Nat.le_of_ble_eq_true rfl) rfl ?_
  intro p e s m args below meth c A cx hout hr hnm
  refine a_aload_n cx dX2_ageSample_0 rfl rfl ?_
  refine gf_X2_15 cx hp dX2_ageSample_1 ?_
  refine a_if_le cx (tgt := 26) dX2_ageSample_4 (by decide) (fun c_4 => ?_) (fun c_4 => ?_)
  · exact a_vret cx hr dX2_ageSample_26 (Nat.le_of_ble_eq_true rfl) (Nat.le_of_ble_eq_true rfl) ⟨rfl, rfl, by rw [if_neg (fun h => le_not_pos c_4 h.1), up_some hp]⟩
  · refine a_aload_n cx dX2_ageSample_7 rfl rfl ?_
    refine gf_X2_18 cx hp dX2_ageSample_8 ?_
    refine a_bipush cx (v := 99) dX2_ageSample_11 (by decide) ?_
    refine a_icmp_eq cx (tgt := 26) dX2_ageSample_13 (by decide) (fun c_13 => ?_) (fun c_13 => ?_)
    · exact a_vret cx hr dX2_ageSample_26 (Nat.le_of_ble_eq_true rfl) (Nat.le_of_ble_eq_true rfl) ⟨rfl, rfl, by rw [if_neg (fun h => h.2 c_13), up_some hp]⟩
    · refine a_aload_n cx dX2_ageSample_16 rfl rfl ?_
      refine a_dup cx dX2_ageSample_17 rfl ?_
      refine gf_X2_15 cx hp dX2_ageSample_18 ?_
      refine a_iconst cx (v := 1) dX2_ageSample_21 (by decide) ?_
      refine a_isub cx dX2_ageSample_22 ?_
      refine pf_X2_15 cx hp dX2_ageSample_23 ?_
      exact a_vret cx hr dX2_ageSample_26 (Nat.le_of_ble_eq_true rfl) (Nat.le_of_ble_eq_true rfl) ⟨rfl, rfl, by rw [if_pos ⟨not_le_pos c_4, c_13⟩]⟩

set_option maxHeartbeats 4000000 in
set_option maxRecDepth 100000 in
/-- countShift(kind) -/
theorem sp_X2_countShift {l : Launch} {g : GW} {ad : AD} {τ : RH} {r0 : Nat} {ln : Value} {nu us sc wa da qp sl sp dn ms lo ow : Int32} {kd : Int32} (hp : τ r0 = some (prO nu ln us sc wa da qp sl sp dn ms lo ow)) : Sp l g yX2_countShift (.code yX2_countShift cX2_countShift 2 none) (rmv 1 0 0) [.ref (ad r0), .int kd] ad τ 0 0 (fun v ad' τ' => v = none ∧ ad' = ad ∧ τ' = va_up τ r0 (some (prO nu ln us sc wa da qp sl sp (if kd = 100 then dn + 1 else dn) (if kd = 109 then ms + 1 else ms) (if kd = 108 then lo + 1 else lo) ow))) (NoX) := by
  refine Sp.of 0 [some (.ref (ad r0)), some (.int kd)] (by decide +kernel) (Nat.le_of_ble_eq_true rfl) rfl ?_
  intro p e s m args below meth c A cx hout hr hnm
  refine a_iload_n cx dX2_countShift_0 rfl rfl ?_
  refine a_bipush cx (v := 100) dX2_countShift_1 (by decide) ?_
  refine a_icmp_ne cx (tgt := 19) dX2_countShift_3 (by decide) (fun c_3 => ?_) (fun c_3 => ?_)
  · refine a_iload_n cx dX2_countShift_19 rfl rfl ?_
    refine a_bipush cx (v := 109) dX2_countShift_20 (by decide) ?_
    refine a_icmp_ne cx (tgt := 38) dX2_countShift_22 (by decide) (fun c_22 => ?_) (fun c_22 => ?_)
    · refine a_iload_n cx dX2_countShift_38 rfl rfl ?_
      refine a_bipush cx (v := 108) dX2_countShift_39 (by decide) ?_
      refine a_icmp_ne cx (tgt := 54) dX2_countShift_41 (by decide) (fun c_41 => ?_) (fun c_41 => ?_)
      · exact a_vret cx hr dX2_countShift_54 (Nat.le_of_ble_eq_true rfl) (Nat.le_of_ble_eq_true rfl) ⟨rfl, rfl, by rw [if_neg c_3, if_neg c_22, if_neg c_41, up_some hp]⟩
      · refine a_aload_n cx dX2_countShift_44 rfl rfl ?_
        refine a_dup cx dX2_countShift_45 rfl ?_
        refine gf_X2_28 cx hp dX2_countShift_46 ?_
        refine a_iconst cx (v := 1) dX2_countShift_49 (by decide) ?_
        refine a_iadd cx dX2_countShift_50 ?_
        refine pf_X2_28 cx hp dX2_countShift_51 ?_
        exact a_vret cx hr dX2_countShift_54 (Nat.le_of_ble_eq_true rfl) (Nat.le_of_ble_eq_true rfl) ⟨rfl, rfl, by subst c_41; rfl⟩
    · refine a_aload_n cx dX2_countShift_25 rfl rfl ?_
      refine a_dup cx dX2_countShift_26 rfl ?_
      refine gf_X2_25 cx hp dX2_countShift_27 ?_
      refine a_iconst cx (v := 1) dX2_countShift_30 (by decide) ?_
      refine a_iadd cx dX2_countShift_31 ?_
      refine pf_X2_25 cx hp dX2_countShift_32 ?_
      refine a_goto cx (tgt := 54) dX2_countShift_35 (by decide) ?_
      exact a_vret cx hr dX2_countShift_54 (Nat.le_of_ble_eq_true rfl) (Nat.le_of_ble_eq_true rfl) ⟨rfl, rfl, by subst c_22; rfl⟩
  · refine a_aload_n cx dX2_countShift_6 rfl rfl ?_
    refine a_dup cx dX2_countShift_7 rfl ?_
    refine gf_X2_22 cx hp dX2_countShift_8 ?_
    refine a_iconst cx (v := 1) dX2_countShift_11 (by decide) ?_
    refine a_iadd cx dX2_countShift_12 ?_
    refine pf_X2_22 cx hp dX2_countShift_13 ?_
    refine a_goto cx (tgt := 54) dX2_countShift_16 (by decide) ?_
    exact a_vret cx hr dX2_countShift_54 (Nat.le_of_ble_eq_true rfl) (Nat.le_of_ble_eq_true rfl) ⟨rfl, rfl, by subst c_3; rfl⟩

set_option maxHeartbeats 4000000 in
set_option maxRecDepth 100000 in
/-- Proposal(..) -/
theorem sp_X2_init {l : Launch} {g : GW} {ad : AD} {τ : RH} {r0 : Nat} {nu us sc wa da : Int32} {q : Nat} {v0 v1 v2 v3 v4 v5 v6 v7 v8 v9 v10 v11 v12 : Value} (hp : τ r0 = some (.inr (5, [v0, v1, v2, v3, v4, v5, v6, v7, v8, v9, v10, v11, v12]))) : Sp l g yX2_init (.code yX2_init cX2_init 7 none) (rmv 1 0 0) [.ref (ad r0), .int nu, .ref q, .int us, .int sc, .int wa, .int da] ad τ 0 0 (fun v ad' τ' => v = none ∧ ad' = ad ∧ τ' = va_up τ r0 (some (prO nu (.ref q) us sc wa da (-1) (-1) 114 0 0 0 0))) (NoX) := by
  refine Sp.of 0 [some (.ref (ad r0)), some (.int nu), some (.ref q), some (.int us), some (.int sc), some (.int wa), some (.int da)] (by decide +kernel) (Nat.le_of_ble_eq_true rfl) rfl ?_
  intro p e s m args below meth c A cx hout hr hnm
  refine a_aload_n cx dX2_init_0 rfl rfl ?_
  refine a_objInit cx ml_X2_3 (Nat.le_of_ble_eq_true rfl) (Nat.le_of_ble_eq_true rfl) dX2_init_1 ?_
  refine a_aload_n cx dX2_init_4 rfl rfl ?_
  refine a_iconst cx (v := -1) dX2_init_5 (by decide) ?_
  refine pf_X2_9 cx hp dX2_init_6 ?_
  refine a_aload_n cx dX2_init_9 rfl rfl ?_
  refine a_iconst cx (v := -1) dX2_init_10 (by decide) ?_
  refine pf_X2_15 cx (va_up_self _ _ _) dX2_init_11 ?_
  refine a_aload_n cx dX2_init_14 rfl rfl ?_
  refine a_bipush cx (v := 114) dX2_init_15 (by decide) ?_
  refine pf_X2_18 cx (va_up_self _ _ _) (by first | exact ⟨by decide +kernel, by decide +kernel⟩ | assumption) dX2_init_17 ?_
  refine a_aload_n cx dX2_init_20 rfl rfl ?_
  refine a_iconst cx (v := 0) dX2_init_21 (by decide) ?_
  refine pf_X2_22 cx (va_up_self _ _ _) dX2_init_22 ?_
  refine a_aload_n cx dX2_init_25 rfl rfl ?_
  refine a_iconst cx (v := 0) dX2_init_26 (by decide) ?_
  refine pf_X2_25 cx (va_up_self _ _ _) dX2_init_27 ?_
  refine a_aload_n cx dX2_init_30 rfl rfl ?_
  refine a_iconst cx (v := 0) dX2_init_31 (by decide) ?_
  refine pf_X2_28 cx (va_up_self _ _ _) dX2_init_32 ?_
  refine a_aload_n cx dX2_init_35 rfl rfl ?_
  refine a_iconst cx (v := 0) dX2_init_36 (by decide) ?_
  refine pf_X2_31 cx (va_up_self _ _ _) dX2_init_37 ?_
  refine a_aload_n cx dX2_init_40 rfl rfl ?_
  refine a_iload_n cx dX2_init_41 rfl rfl ?_
  refine pf_X2_34 cx hnm (va_up_self _ _ _) dX2_init_42 ?_
  refine a_aload_n cx dX2_init_45 rfl rfl ?_
  refine a_aload_n cx dX2_init_46 rfl rfl ?_
  refine pf_X2_37 cx hnm (va_up_self _ _ _) dX2_init_47 ?_
  refine a_aload_n cx dX2_init_50 rfl rfl ?_
  refine a_iload_n cx dX2_init_51 rfl rfl ?_
  refine pf_X2_41 cx hnm (va_up_self _ _ _) dX2_init_52 ?_
  refine a_aload_n cx dX2_init_55 rfl rfl ?_
  refine a_iload cx dX2_init_56 rfl ?_
  refine pf_X2_44 cx hnm (va_up_self _ _ _) dX2_init_58 ?_
  refine a_aload_n cx dX2_init_61 rfl rfl ?_
  refine a_iload cx dX2_init_62 rfl ?_
  refine pf_X2_47 cx hnm (va_up_self _ _ _) dX2_init_64 ?_
  refine a_aload_n cx dX2_init_67 rfl rfl ?_
  refine a_iload cx dX2_init_68 rfl ?_
  refine pf_X2_50 cx hnm (va_up_self _ _ _) dX2_init_70 ?_
  exact a_vret cx hr dX2_init_73 (Nat.le_of_ble_eq_true rfl) (Nat.le_of_ble_eq_true rfl) ⟨rfl, rfl, by simp only [up_up]⟩

abbrev liO (mc : Int32) (ev : Value) (n : Nat) : va_E := .inr (2, [.int mc, ev, .int (nI n)])
set_option maxHeartbeats 4000000 in
set_option maxRecDepth 100000 in
theorem sp_Jx4a65c_size_8abf5 {l : Launch} {g : GW} {ad : AD} {τ : RH} {r0 n : Nat} {mc : Int32} {ev : Value} (hq : τ r0 = some (liO mc ev n)) : Sp l g yJx4a65c_size_8abf5 (.code yJx4a65c_size_8abf5 cJx4a65c_size_8abf5 1 (some .int)) (rmv 0 0 0) [.ref (ad r0)] ad τ 0 0 (fun v ad' τ' => v = some (.int (nI n)) ∧ ad' = ad ∧ τ' = τ) (NoX) := by
  refine Sp.of 0 [some (.ref (ad r0))] (by decide +kernel) (Nat.le_of_ble_eq_true rfl) rfl ?_
  intro p e s m args below meth c A cx hout hr hnm
  refine a_aload_n cx dJx4a65c_size_8abf5_0 rfl rfl ?_
  refine gf_Jx4a65c_48 cx hq dJx4a65c_size_8abf5_1 ?_
  exact a_iret cx hr dJx4a65c_size_8abf5_4 (Nat.le_of_ble_eq_true rfl) (Nat.le_of_ble_eq_true rfl) ⟨rfl, rfl, rfl⟩

set_option maxHeartbeats 4000000 in
set_option maxRecDepth 100000 in
theorem sp_J3_checkIndex_8e157 {l : Launch} {g : GW} {ad : AD} {τ : RH} {i n : Int32} (h0 : ¬ i < 0) (h1 : i < n) : Sp l g yJ3_checkIndex_8e157 (.code yJ3_checkIndex_8e157 cJ3_checkIndex_8e157 3 (some .int)) (rmv 0 0 0) [.int i, .int n, .null] ad τ 0 0 (fun v ad' τ' => v = some (.int (i)) ∧ ad' = ad ∧ τ' = τ) (NoX) := by
  refine Sp.of 0 [some (.int i), some (.int n), some (.null)] (by decide +kernel) (Nat.le_of_ble_eq_true rfl) rfl ?_
  intro p e s m args below meth c A cx hout hr hnm
  refine a_iload_n cx dJ3_checkIndex_8e157_0 rfl rfl ?_
  refine a_if_lt cx (tgt := 9) dJ3_checkIndex_8e157_1 (by decide) (fun c_1 => absurd c_1 h0) (fun c_1 => ?_)
  refine a_iload_n cx dJ3_checkIndex_8e157_4 rfl rfl ?_
  refine a_iload_n cx dJ3_checkIndex_8e157_5 rfl rfl ?_
  refine a_icmp_lt cx (tgt := 16) dJ3_checkIndex_8e157_6 (by decide) (fun c_6 => ?_) (fun c_6 => absurd h1 c_6)
  refine a_iload_n cx dJ3_checkIndex_8e157_16 rfl rfl ?_
  exact a_iret cx hr dJ3_checkIndex_8e157_17 (Nat.le_of_ble_eq_true rfl) (Nat.le_of_ble_eq_true rfl) ⟨rfl, rfl, rfl⟩

set_option maxHeartbeats 4000000 in
set_option maxRecDepth 100000 in
theorem sp_J15_checkIndex_7cf53 {l : Launch} {g : GW} {ad : AD} {τ : RH} {i n : Int32} (h0 : ¬ i < 0) (h1 : i < n) : Sp l g yJ15_checkIndex_7cf53 (.code yJ15_checkIndex_7cf53 cJ15_checkIndex_7cf53 2 (some .int)) (rmv 1 0 0) [.int i, .int n] ad τ 0 0 (fun v ad' τ' => v = some (.int (i)) ∧ ad' = ad ∧ τ' = τ) (NoX) := by
  refine Sp.of 0 [some (.int i), some (.int n)] (by decide +kernel) (Nat.le_of_ble_eq_true rfl) rfl ?_
  intro p e s m args below meth c A cx hout hr hnm
  refine a_iload_n cx dJ15_checkIndex_7cf53_0 rfl rfl ?_
  refine a_iload_n cx dJ15_checkIndex_7cf53_1 rfl rfl ?_
  refine a_null cx dJ15_checkIndex_7cf53_2 ?_
  refine a_callS cx 3 (sp_J3_checkIndex_8e157 h0 h1) ml_J15_105 st_J3_checkIndex_8e157 ini_J3 cd_J3_checkIndex_8e157 rfl rfl (by decide +kernel) rfl rfl ⟨(Nat.le_of_ble_eq_true rfl), (Nat.le_of_ble_eq_true rfl)⟩ (Nat.le_of_ble_eq_true rfl) dJ15_checkIndex_7cf53_3 ⟨(Nat.le_of_ble_eq_true rfl), (Nat.le_of_ble_eq_true rfl)⟩ (fun _ _ _ h => h.elim) (fun v9 ad9 τ9 hP => ?_)
  obtain ⟨rfl, h2, h3⟩ := hP
  replace h2 := h2.symm
  subst h2
  replace h3 := h3.symm
  subst h3
  exact a_iret cx hr dJ15_checkIndex_7cf53_6 (Nat.le_of_ble_eq_true rfl) (Nat.le_of_ble_eq_true rfl) ⟨rfl, rfl, rfl⟩

set_option maxHeartbeats 4000000 in
set_option maxRecDepth 100000 in
theorem sp_Jx4a65c_elementData_915e3 {l : Launch} {g : GW} {ad : AD} {τ : RH} {r0 n : Nat} {mc : Int32} {r2 N k : Nat} {f : Nat → Option Nat} (hq : τ r0 = some (liO mc (.ref (ad r2)) n)) (ha : τ r2 = some (arQ g N f)) (hk : k < N) (hN : N < 2 ^ 31) : Sp l g yJx4a65c_elementData_915e3 (.code yJx4a65c_elementData_915e3 cJx4a65c_elementData_915e3 2 (some (.object "java/lang/Object"))) (rmv 0 0 0) [.ref (ad r0), .int (nI k)] ad τ 0 0 (fun v ad' τ' => v = some (va_rf (f k)) ∧ ad' = ad ∧ τ' = τ) (NoX) := by
  refine Sp.of 0 [some (.ref (ad r0)), some (.int (nI k))] (by decide +kernel) (Nat.le_of_ble_eq_true rfl) rfl ?_
  intro p e s m args below meth c A cx hout hr hnm
  refine a_aload_n cx dJx4a65c_elementData_915e3_0 rfl rfl ?_
  refine gf_Jx4a65c_9 cx hq dJx4a65c_elementData_915e3_1 ?_
  refine a_iload_n cx dJx4a65c_elementData_915e3_4 rfl rfl ?_
  refine a_qld cx (k) ha (rfl) (hk) hN dJx4a65c_elementData_915e3_5 ?_
  exact a_aret cx hr dJx4a65c_elementData_915e3_6 (Or.inl ⟨_, rfl⟩) (va_rf_or _) (Nat.le_of_ble_eq_true rfl) (Nat.le_of_ble_eq_true rfl) ⟨rfl, rfl, rfl⟩

set_option maxHeartbeats 4000000 in
set_option maxRecDepth 100000 in
/-- get(i) -/
theorem sp_Jx4a65c_get_915e3 {l : Launch} {g : GW} {ad : AD} {τ : RH} {r0 n : Nat} {mc : Int32} {r2 N k : Nat} {f : Nat → Option Nat} (hq : τ r0 = some (liO mc (.ref (ad r2)) n)) (ha : τ r2 = some (arQ g N f)) (hk : k < n) (hn : n ≤ N) (hN : N < 2 ^ 31) : Sp l g yJx4a65c_get_915e3 (.code yJx4a65c_get_915e3 cJx4a65c_get_915e3 2 (some (.object "java/lang/Object"))) (rmv 2 0 0) [.ref (ad r0), .int (nI k)] ad τ 0 0 (fun v ad' τ' => v = some (va_rf (f k)) ∧ ad' = ad ∧ τ' = τ) (NoX) := by
  refine Sp.of 0 [some (.ref (ad r0)), some (.int (nI k))] (by decide +kernel) (Nat.le_of_ble_eq_true rfl) rfl ?_
  intro p e s m args below meth c A cx hout hr hnm
  refine a_iload_n cx dJx4a65c_get_915e3_0 rfl rfl ?_
  refine a_aload_n cx dJx4a65c_get_915e3_1 rfl rfl ?_
  refine gf_Jx4a65c_48 cx hq dJx4a65c_get_915e3_2 ?_
  refine a_callS cx 2 (sp_J15_checkIndex_7cf53 (i := nI k) (n := nI n) (nI_pos (by omega)) (nI_lt hk (by omega))) ml_Jx4a65c_118 st_J15_checkIndex_7cf53 ini_J15 cd_J15_checkIndex_7cf53 rfl rfl (by decide +kernel) rfl rfl ⟨(Nat.le_of_ble_eq_true rfl), (Nat.le_of_ble_eq_true rfl)⟩ (Nat.le_of_ble_eq_true rfl) dJx4a65c_get_915e3_5 ⟨(Nat.le_of_ble_eq_true rfl), (Nat.le_of_ble_eq_true rfl)⟩ (fun _ _ _ h => h.elim) (fun v9 ad9 τ9 hP => ?_)
  obtain ⟨rfl, h2, h3⟩ := hP
  replace h2 := h2.symm
  subst h2
  replace h3 := h3.symm
  subst h3
  refine a_pop cx dJx4a65c_get_915e3_8 rfl ?_
  refine a_aload_n cx dJx4a65c_get_915e3_9 rfl rfl ?_
  refine a_iload_n cx dJx4a65c_get_915e3_10 rfl rfl ?_
  refine a_callV cx 1 (sp_Jx4a65c_elementData_915e3 hq ha (Nat.lt_of_lt_of_le hk hn) hN) hq rfl ml_Jx4a65c_123 im_Jx4a65c_elementData_915e3 se_Jx4a65c_elementData_915e3 ini_Jx4a65c cd_Jx4a65c_elementData_915e3 rfl rfl (by decide +kernel) rfl rfl ⟨(Nat.le_of_ble_eq_true rfl), (Nat.le_of_ble_eq_true rfl)⟩ (Nat.le_of_ble_eq_true rfl) dJx4a65c_get_915e3_11 ⟨(Nat.le_of_ble_eq_true rfl), (Nat.le_of_ble_eq_true rfl)⟩ (fun _ _ _ h => h.elim) (fun v9 ad9 τ9 hP => ?_)
  obtain ⟨rfl, h2, h3⟩ := hP
  replace h2 := h2.symm
  subst h2
  replace h3 := h3.symm
  subst h3
  exact a_aret cx hr dJx4a65c_get_915e3_14 (Or.inl ⟨_, rfl⟩) (va_rf_or _) (Nat.le_of_ble_eq_true rfl) (Nat.le_of_ble_eq_true rfl) ⟨rfl, rfl, rfl⟩

set_option maxHeartbeats 4000000 in
set_option maxRecDepth 100000 in
/-- grow(1) of the empty list -/
theorem sp_Jx4a65c_grow_92f84 {l : Launch} {g : GW} {ad : AD} {τ : RH} {r0 r2 : Nat} {mc : Int32} (hq : τ r0 = some (liO mc (.ref g.2.2.1) 0)) (h2 : τ r2 = none) : Sp l g yJx4a65c_grow_92f84 (.code yJx4a65c_grow_92f84 cJx4a65c_grow_92f84 4 (some (.array (.object "java/lang/Object")))) (rmv 1 1 10) [.ref (ad r0), .int (nI 1)] ad τ 1 10 (fun v ad' τ' => (∀ x, x ≠ r2 → ad' x = ad x) ∧ v = some (.ref (ad' r2)) ∧ τ' = va_up (va_up τ r2 (some (arQ g 10 (fun _ => none)))) r0 (some (liO mc (.ref (ad' r2)) 0))) (NoX) := by
  refine Sp.of 2 [some (.ref (ad r0)), some (.int (nI 1)), none, none] (by decide +kernel) (Nat.le_of_ble_eq_true rfl) rfl ?_
  intro p e s m args below meth c A cx hout hr hnm
  have hne : r0 ≠ r2 := fun q => by rw [q, h2] at hq; cases hq
  refine a_aload_n cx dJx4a65c_grow_92f84_0 rfl rfl ?_
  refine gf_Jx4a65c_9 cx hq dJx4a65c_grow_92f84_1 ?_
  refine a_elen cx dJx4a65c_grow_92f84_4 ?_
  refine a_istore_n2 cx dJx4a65c_grow_92f84_5 rfl (by decide) (by intro w h; first | (cases h; rfl) | (cases h; assumption) | (cases h; done)) ?_
  refine a_iload_n cx dJx4a65c_grow_92f84_6 rfl rfl ?_
  refine a_if_gt cx (tgt := 20) dJx4a65c_grow_92f84_7 (by decide) (fun c_7 => absurd c_7 (by decide)) (fun c_7 => ?_)
  refine a_aload_n cx dJx4a65c_grow_92f84_10 rfl rfl ?_
  refine gf_Jx4a65c_9 cx hq dJx4a65c_grow_92f84_11 ?_
  refine a_gets cx fl_Jx4a65c_39 dJx4a65c_grow_92f84_14 ?_
  refine a_acmp_eq cx (tgt := 45) dJx4a65c_grow_92f84_17 (by decide) (fun c_17 => ?_) (fun c_17 => absurd rfl c_17)
  refine a_aload_n cx dJx4a65c_grow_92f84_45 rfl rfl ?_
  refine a_bipush cx (v := 10) dJx4a65c_grow_92f84_46 (by decide) ?_
  refine a_iload_n cx dJx4a65c_grow_92f84_48 rfl rfl ?_
  refine a_mmax cx ml_Jx4a65c_79 (Nat.le_of_ble_eq_true rfl) (Nat.le_of_ble_eq_true rfl) dJx4a65c_grow_92f84_49 ?_
  refine a_int (y := 10) (by decide) ?_
  refine a_newqG cx r2 h2 cl_Jx4a65c_7 (N := 10) (by decide) (by decide) (by decide) (Nat.le_of_ble_eq_true rfl) (Nat.le_of_ble_eq_true rfl) dJx4a65c_grow_92f84_52 (fun ad9 had => ?_)
  have hq2 : (va_up τ r2 (some (arQ g 10 (fun _ => none)))) r0 = some (liO mc (.ref g.2.2.1) 0) := by rw [va_up_ne _ _ hne]; exact hq
  rw [← had r0 hne]
  refine a_dup_x1 cx dJx4a65c_grow_92f84_55 rfl rfl ?_
  refine pf_Jx4a65c_9 cx hq2 dJx4a65c_grow_92f84_56 ?_
  exact a_aret cx hr dJx4a65c_grow_92f84_59 (Or.inr ⟨_, rfl⟩) (by first | exact Or.inr ⟨_, rfl⟩ | exact Or.inl rfl) (Nat.le_of_ble_eq_true rfl) (Nat.le_of_ble_eq_true rfl) ⟨had, rfl, rfl⟩

set_option maxHeartbeats 4000000 in
set_option maxRecDepth 100000 in
/-- grow() of the empty list -/
theorem sp_Jx4a65c_grow_d5877 {l : Launch} {g : GW} {ad : AD} {τ : RH} {r0 r2 : Nat} {mc : Int32} (hq : τ r0 = some (liO mc (.ref g.2.2.1) 0)) (h2 : τ r2 = none) : Sp l g yJx4a65c_grow_d5877 (.code yJx4a65c_grow_d5877 cJx4a65c_grow_d5877 1 (some (.array (.object "java/lang/Object")))) (rmv 2 1 10) [.ref (ad r0)] ad τ 1 10 (fun v ad' τ' => (∀ x, x ≠ r2 → ad' x = ad x) ∧ v = some (.ref (ad' r2)) ∧ τ' = va_up (va_up τ r2 (some (arQ g 10 (fun _ => none)))) r0 (some (liO mc (.ref (ad' r2)) 0))) (NoX) := by
  refine Sp.of 0 [some (.ref (ad r0))] (by decide +kernel) (Nat.le_of_ble_eq_true rfl) rfl ?_
  intro p e s m args below meth c A cx hout hr hnm
  refine a_aload_n cx dJx4a65c_grow_d5877_0 rfl rfl ?_
  refine a_aload_n cx dJx4a65c_grow_d5877_1 rfl rfl ?_
  refine gf_Jx4a65c_48 cx hq dJx4a65c_grow_d5877_2 ?_
  refine a_iconst cx (v := 1) dJx4a65c_grow_d5877_5 (by decide) ?_
  refine a_iadd cx dJx4a65c_grow_d5877_6 ?_
  refine a_callV cx 1 (sp_Jx4a65c_grow_92f84 hq h2) hq rfl ml_Jx4a65c_69 im_Jx4a65c_grow_92f84 se_Jx4a65c_grow_92f84 ini_Jx4a65c cd_Jx4a65c_grow_92f84 rfl rfl (by decide +kernel) rfl rfl ⟨(Nat.le_of_ble_eq_true rfl), (Nat.le_of_ble_eq_true rfl)⟩ (Nat.le_of_ble_eq_true rfl) dJx4a65c_grow_d5877_7 ⟨(Nat.le_of_ble_eq_true rfl), (Nat.le_of_ble_eq_true rfl)⟩ (fun _ _ _ h => h.elim) (fun v9 ad9 τ9 hP => ?_)
  obtain ⟨had, rfl, h3⟩ := hP
  replace h3 := h3.symm
  subst h3
  exact a_aret cx hr dJx4a65c_grow_d5877_10 (Or.inr ⟨_, rfl⟩) (by first | exact Or.inr ⟨_, rfl⟩ | exact Or.inl rfl) (Nat.le_of_ble_eq_true rfl) (Nat.le_of_ble_eq_true rfl) ⟨had, rfl, rfl⟩

set_option maxHeartbeats 4000000 in
set_option maxRecDepth 100000 in
/-- add(e, empty, 0) -/
theorem sp_Jx4a65c_add_72be8 {l : Launch} {g : GW} {ad : AD} {τ : RH} {r0 r2 v0 n ci NN : Nat} {mc : Int32} {f : Nat → Option Nat} {vs : List Value} {C : String} {T : u_T} (hq : τ r0 = some (liO mc (.ref g.2.2.1) 0)) (h2 : τ r2 = none) (hv : τ v0 = some (.inr (ci, vs))) (hca : Cond.castable C "java/lang/Object" ∈ BW) (hw : vwCl[ci]? = some (C, T, NN)) (hnr : v0 ≠ r0) : Sp l g yJx4a65c_add_72be8 (.code yJx4a65c_add_72be8 cJx4a65c_add_72be8 4 none) (rmv 3 1 10) [.ref (ad r0), .ref (ad v0), .ref g.2.2.1, .int (nI 0)] ad τ 1 10 (fun v ad' τ' => (∀ x, x ≠ r2 → ad' x = ad x) ∧ v = none ∧ τ' = va_up (va_up τ r2 (some (arQ g 10 (va_up (fun _ => none) 0 (some (ad' v0)))))) r0 (some (liO mc (.ref (ad' r2)) 1))) (NoX) := by
  refine Sp.of 0 [some (.ref (ad r0)), some (.ref (ad v0)), some (.ref g.2.2.1), some (.int (nI 0))] (by decide +kernel) (Nat.le_of_ble_eq_true rfl) rfl ?_
  intro p e s m args below meth c A cx hout hr hnm
  have hne : r0 ≠ r2 := fun q => by rw [q, h2] at hq; cases hq
  have hnv : v0 ≠ r2 := fun q => by rw [q, h2] at hv; cases hv
  refine a_iload_n cx dJx4a65c_add_72be8_0 rfl rfl ?_
  refine a_aload_n cx dJx4a65c_add_72be8_1 rfl rfl ?_
  refine a_elen cx dJx4a65c_add_72be8_2 ?_
  refine a_icmp_ne cx (tgt := 11) dJx4a65c_add_72be8_3 (by decide) (fun c_3 => absurd rfl c_3) (fun c_3 => ?_)
  refine a_aload_n cx dJx4a65c_add_72be8_6 rfl rfl ?_
  refine a_callV cx 0 (sp_Jx4a65c_grow_d5877 hq h2) hq rfl ml_Jx4a65c_129 im_Jx4a65c_grow_d5877 se_Jx4a65c_grow_d5877 ini_Jx4a65c cd_Jx4a65c_grow_d5877 rfl rfl (by decide +kernel) rfl rfl ⟨(Nat.le_of_ble_eq_true rfl), (Nat.le_of_ble_eq_true rfl)⟩ (Nat.le_of_ble_eq_true rfl) dJx4a65c_add_72be8_7 ⟨(Nat.le_of_ble_eq_true rfl), (Nat.le_of_ble_eq_true rfl)⟩ (fun _ _ _ h => h.elim) (fun v9 ad9 τ9 hP => ?_)
  obtain ⟨had, rfl, h3⟩ := hP
  replace h3 := h3.symm
  subst h3
  rw [← had r0 hne, ← had v0 hnv]
  have hA2 : (va_up (va_up τ r2 (some (arQ g 10 (fun _ => none)))) r0 (some (liO mc (.ref (ad9 r2)) 0))) r2 = some (arQ g 10 (fun _ => none)) := by rw [va_up_ne _ _ hne.symm, va_up_self]
  have hv2 : (va_up (va_up τ r2 (some (arQ g 10 (fun _ => none)))) r0 (some (liO mc (.ref (ad9 r2)) 0))) v0 = some (.inr (ci, vs)) := by rw [va_up_ne _ _ hnr, va_up_ne _ _ hnv]; exact hv
  refine a_astore_n2 cx dJx4a65c_add_72be8_10 rfl (by decide) (by intro w h; first | (cases h; rfl) | (cases h; assumption) | (cases h; done)) ?_
  refine a_aload_n cx dJx4a65c_add_72be8_11 rfl rfl ?_
  refine a_iload_n cx dJx4a65c_add_72be8_12 rfl rfl ?_
  refine a_aload_n cx dJx4a65c_add_72be8_13 rfl rfl ?_
  refine a_qst cx (r := r2) (v := v0) 0 hA2 hv2 hw (Or.inr (a_sub cx hca hw)) rfl (by decide) (by decide) dJx4a65c_add_72be8_14 ?_
  refine a_aload_n cx dJx4a65c_add_72be8_15 rfl rfl ?_
  refine a_iload_n cx dJx4a65c_add_72be8_16 rfl rfl ?_
  refine a_iconst cx (v := 1) dJx4a65c_add_72be8_17 (by decide) ?_
  refine a_iadd cx dJx4a65c_add_72be8_18 ?_
  refine pf_Jx4a65c_48 cx (by rw [va_up_ne _ _ hne]; exact va_up_self _ _ _) dJx4a65c_add_72be8_19 ?_
  exact a_vret cx hr dJx4a65c_add_72be8_22 (Nat.le_of_ble_eq_true rfl) (Nat.le_of_ble_eq_true rfl) ⟨had, rfl, by rw [up_com _ _ _ hne, up_up, up_up]; rfl⟩

set_option maxHeartbeats 4000000 in
set_option maxRecDepth 100000 in
/-- add(e, row, n) -/
theorem sp_add_more {l : Launch} {g : GW} {ad : AD} {τ : RH} {r0 r2 v0 n ci NN : Nat} {mc : Int32} {f : Nat → Option Nat} {vs : List Value} {C : String} {T : u_T} (hq : τ r0 = some (liO mc (.ref (ad r2)) n)) (ha : τ r2 = some (arQ g 10 f)) (h0 : 0 < n) (h10 : n < 10) (hv : τ v0 = some (.inr (ci, vs))) (hca : Cond.castable C "java/lang/Object" ∈ BW) (hw : vwCl[ci]? = some (C, T, NN)) (hnr : v0 ≠ r0) : Sp l g yJx4a65c_add_72be8 (.code yJx4a65c_add_72be8 cJx4a65c_add_72be8 4 none) (rmv 3 0 0) [.ref (ad r0), .ref (ad v0), .ref (ad r2), .int (nI n)] ad τ 0 0 (fun v ad' τ' => v = none ∧ ad' = ad ∧ τ' = va_up (va_up τ r2 (some (arQ g 10 (va_up f n (some (ad v0)))))) r0 (some (liO mc (.ref (ad r2)) (n + 1)))) (NoX) := by
  refine Sp.of 0 [some (.ref (ad r0)), some (.ref (ad v0)), some (.ref (ad r2)), some (.int (nI n))] (by decide +kernel) (Nat.le_of_ble_eq_true rfl) rfl ?_
  intro p e s m args below meth c A cx hout hr hnm
  refine a_iload_n cx dJx4a65c_add_72be8_0 rfl rfl ?_
  refine a_aload_n cx dJx4a65c_add_72be8_1 rfl rfl ?_
  refine a_alen cx 3 ha rfl rfl dJx4a65c_add_72be8_2 ?_
  refine a_icmp_ne cx (tgt := 11) dJx4a65c_add_72be8_3 (by decide) (fun c_3 => ?_) (fun c_3 => absurd ((nI_eq (by omega) (by decide)).mp c_3) (by omega))
  refine a_aload_n cx dJx4a65c_add_72be8_11 rfl rfl ?_
  refine a_iload_n cx dJx4a65c_add_72be8_12 rfl rfl ?_
  refine a_aload_n cx dJx4a65c_add_72be8_13 rfl rfl ?_
  refine a_qst cx (r := r2) (v := v0) n ha hv hw (Or.inr (a_sub cx hca hw)) rfl h10 (by decide) dJx4a65c_add_72be8_14 ?_
  refine a_aload_n cx dJx4a65c_add_72be8_15 rfl rfl ?_
  refine a_iload_n cx dJx4a65c_add_72be8_16 rfl rfl ?_
  refine a_iconst cx (v := 1) dJx4a65c_add_72be8_17 (by decide) ?_
  refine a_iadd cx dJx4a65c_add_72be8_18 ?_
  refine pf_Jx4a65c_48 cx (by rw [va_up_ne _ _ (r_ne hq ha (by simp))]; exact hq) dJx4a65c_add_72be8_19 ?_
  exact a_vret cx hr dJx4a65c_add_72be8_22 (Nat.le_of_ble_eq_true rfl) (Nat.le_of_ble_eq_true rfl) ⟨rfl, rfl, by rw [nI_1]⟩

