set_option maxHeartbeats 4000000 in
set_option maxRecDepth 100000 in
theorem sp_Jxa1e45_init_da8c8 {l : Launch} {g : GW} {ad : AD} {τ : RH} {r0 : Nat}  : Sp l g yJxa1e45_init_da8c8 (.code yJxa1e45_init_da8c8 cJxa1e45_init_da8c8 1 none) (rmv 1 0 0) [.ref (ad r0)] ad τ 0 0 (fun v ad' τ' => v = none ∧ ad' = ad ∧ τ' = τ) (NoX) := by
  refine Sp.of 0 [some (.ref (ad r0))] (by decide +kernel) (Nat.le_of_ble_eq_true rfl) rfl ?_
  intro p e s m args below meth c A cx hout hr hnm
  refine a_aload_n cx dJxa1e45_init_da8c8_0 rfl rfl ?_
  refine a_objInit cx ml_Jxa1e45_1 (Nat.le_of_ble_eq_true rfl) (Nat.le_of_ble_eq_true rfl) dJxa1e45_init_da8c8_1 ?_
  exact a_vret cx hr dJxa1e45_init_da8c8_4 (Nat.le_of_ble_eq_true rfl) (Nat.le_of_ble_eq_true rfl) ⟨rfl, rfl, rfl⟩

set_option maxHeartbeats 4000000 in
set_option maxRecDepth 100000 in
theorem sp_Jxc12de_init_da8c8 {l : Launch} {g : GW} {ad : AD} {τ : RH} {r0 : Nat} {v0 v1 v2 : Value} (hq : τ r0 = some (.inr (2, [v0, v1, v2]))) : Sp l g yJxc12de_init_da8c8 (.code yJxc12de_init_da8c8 cJxc12de_init_da8c8 1 none) (rmv 2 0 0) [.ref (ad r0)] ad τ 0 0 (fun v ad' τ' => v = none ∧ ad' = ad ∧ τ' = va_up τ r0 (some (.inr (2, [.int 0, v1, v2])))) (NoX) := by
  refine Sp.of 0 [some (.ref (ad r0))] (by decide +kernel) (Nat.le_of_ble_eq_true rfl) rfl ?_
  intro p e s m args below meth c A cx hout hr hnm
  refine a_aload_n cx dJxc12de_init_da8c8_0 rfl rfl ?_
  refine a_callI cx 0 (sp_Jxa1e45_init_da8c8) ml_Jxc12de_1 im_Jxa1e45_init_da8c8 ini_Jxa1e45 cd_Jxa1e45_init_da8c8 rfl rfl rfl (by decide +kernel) rfl rfl ⟨(Nat.le_of_ble_eq_true rfl), (Nat.le_of_ble_eq_true rfl)⟩ (Nat.le_of_ble_eq_true rfl) dJxc12de_init_da8c8_1 ⟨(Nat.le_of_ble_eq_true rfl), (Nat.le_of_ble_eq_true rfl)⟩ (fun v9 ad9 τ9 hP => ?_)
  obtain ⟨rfl, h2, h3⟩ := hP
  replace h2 := h2.symm
  subst h2
  replace h3 := h3.symm
  subst h3
  refine a_aload_n cx dJxc12de_init_da8c8_4 rfl rfl ?_
  refine a_iconst cx (v := 0) dJxc12de_init_da8c8_5 (by decide) ?_
  refine pf_Jxc12de_7 cx hq dJxc12de_init_da8c8_6 ?_
  exact a_vret cx hr dJxc12de_init_da8c8_9 (Nat.le_of_ble_eq_true rfl) (Nat.le_of_ble_eq_true rfl) ⟨rfl, rfl, rfl⟩

set_option maxHeartbeats 4000000 in
set_option maxRecDepth 100000 in
theorem sp_Jx4a65c_init_da8c8 {l : Launch} {g : GW} {ad : AD} {τ : RH} {r0 : Nat} {v0 v1 : Value} (hq : τ r0 = some (.inr (2, [v0, v1, .int 0]))) : Sp l g yJx4a65c_init_da8c8 (.code yJx4a65c_init_da8c8 cJx4a65c_init_da8c8 1 none) (rmv 3 0 0) [.ref (ad r0)] ad τ 0 0 (fun v ad' τ' => v = none ∧ ad' = ad ∧ τ' = va_up τ r0 (some (liO 0 (.ref g.2.2.1) 0))) (NoX) := by
  refine Sp.of 0 [some (.ref (ad r0))] (by decide +kernel) (Nat.le_of_ble_eq_true rfl) rfl ?_
  intro p e s m args below meth c A cx hout hr hnm
  refine a_aload_n cx dJx4a65c_init_da8c8_0 rfl rfl ?_
  refine a_callI cx 0 (sp_Jxc12de_init_da8c8 hq) ml_Jx4a65c_1 im_Jxc12de_init_da8c8 ini_Jxc12de cd_Jxc12de_init_da8c8 rfl rfl rfl (by decide +kernel) rfl rfl ⟨(Nat.le_of_ble_eq_true rfl), (Nat.le_of_ble_eq_true rfl)⟩ (Nat.le_of_ble_eq_true rfl) dJx4a65c_init_da8c8_1 ⟨(Nat.le_of_ble_eq_true rfl), (Nat.le_of_ble_eq_true rfl)⟩ (fun v9 ad9 τ9 hP => ?_)
  obtain ⟨rfl, h2, h3⟩ := hP
  replace h2 := h2.symm
  subst h2
  replace h3 := h3.symm
  subst h3
  refine a_aload_n cx dJx4a65c_init_da8c8_4 rfl rfl ?_
  refine a_gets cx fl_Jx4a65c_39 dJx4a65c_init_da8c8_5 ?_
  refine pf_Jx4a65c_9 cx (va_up_self _ _ _) dJx4a65c_init_da8c8_8 ?_
  exact a_vret cx hr dJx4a65c_init_da8c8_11 (Nat.le_of_ble_eq_true rfl) (Nat.le_of_ble_eq_true rfl) ⟨rfl, rfl, by rw [up_up]; rfl⟩

set_option maxHeartbeats 4000000 in
set_option maxRecDepth 100000 in
theorem sp_X1_init {l : Launch} {g : GW} {ad : AD} {τ : RH} {c0 la : Nat} {v0 v1 v2 : Value} (hc : τ c0 = some (.inr (4, [v0, v1, v2]))) (hl : τ la = none) : Sp l g yX1_init (.code yX1_init cX1_init 1 none) (rmv 1 1 8) [.ref (ad c0)] ad τ 1 8 (fun v ad' τ' => (∀ x, x ≠ la → ad' x = ad x) ∧ v = none ∧ τ' = va_up (va_up τ la (some (arI g 8 (fun _ => 0)))) c0 (some (calO ad' la 0 0))) (NoX) := by
  refine Sp.of 0 [some (.ref (ad c0))] (by decide +kernel) (Nat.le_of_ble_eq_true rfl) rfl ?_
  intro p e s m args below meth c A cx hout hr hnm
  have hne : c0 ≠ la := fun q => by rw [q, hl] at hc; cases hc
  refine a_aload_n cx dX1_init_0 rfl rfl ?_
  refine a_objInit cx ml_X1_3 (Nat.le_of_ble_eq_true rfl) (Nat.le_of_ble_eq_true rfl) dX1_init_1 ?_
  refine a_aload_n cx dX1_init_4 rfl rfl ?_
  refine a_bipush cx (v := 8) dX1_init_5 (by decide) ?_
  refine a_newaG cx (atype := .int) (t0 := 1) (N := 8) (la) (hl) (.inl (fun _ => 0)) ac_int rfl rfl rfl (fun _ => rfl) (by decide) (by decide) (Nat.le_of_ble_eq_true rfl) (Nat.le_of_ble_eq_true rfl) (Nat.le_of_ble_eq_true rfl) dX1_init_7 (fun ad9 had_7 => ?_)
  rw [← had_7 c0 hne]
  refine pf_X1_9 cx hnm (by rw [va_up_ne _ _ hne]; exact hc) dX1_init_9 ?_
  refine a_aload_n cx dX1_init_12 rfl rfl ?_
  refine a_iconst cx (v := 0) dX1_init_13 (by decide) ?_
  refine pf_X1_15 cx (va_up_self _ _ _) dX1_init_14 ?_
  refine a_aload_n cx dX1_init_17 rfl rfl ?_
  refine a_iconst cx (v := 0) dX1_init_18 (by decide) ?_
  refine pf_X1_19 cx (va_up_self _ _ _) dX1_init_19 ?_
  exact a_vret cx hr dX1_init_22 (Nat.le_of_ble_eq_true rfl) (Nat.le_of_ble_eq_true rfl) ⟨had_7, rfl, by simp only [up_up]; rfl⟩

/-- a beamline made at r0 -/
def tLine (g : GW) (ad' : AD) (τ : RH) (r0 : Nat) (s m : Int32) : RH := va_up (va_up (va_up (va_up (va_up (va_up (va_up τ (r0 + 1) (some (liO 0 (.ref g.2.2.1) 0))) (r0 + 4) (some (arI g 8 (fun _ => 0)))) (r0 + 3) (some (calO ad' (r0 + 4) 0 s))) (r0 + 6) (some (arI g 8 (fun _ => 0)))) (r0 + 5) (some (calO ad' (r0 + 6) 0 0))) (r0 + 7) (some (arC g 200 (fun _ => 0)))) r0 (some (.inr (3, [.int s, .int m, .ref (ad' (r0 + 1)), .ref (ad' (r0 + 3)), .ref (ad' (r0 + 5)), .ref (ad' (r0 + 7)), .int 0, .int 0, .int 0, .int 0, .int 0])))
theorem up_eval {α : Type} (f : Nat → α) (k : Nat) (x : α) (j : Nat) : va_up f k x j = if j = k then x else f j := by
  by_cases h : j = k
  · subst h; rw [va_up_self, if_pos rfl]
  · rw [va_up_ne _ _ h, if_neg h]
set_option maxHeartbeats 4000000 in
set_option maxRecDepth 100000 in
/-- Beamline(..) -/
theorem sp_X0_init {l : Launch} {g : GW} {ad : AD} {τ : RH} {r0 : Nat} {s9 m9 : Int32} {v0 v1 v2 v3 v4 v5 v6 v7 v8 v9 v10 : Value} (hB : τ r0 = some (.inr (3, [v0, v1, v2, v3, v4, v5, v6, v7, v8, v9, v10]))) (n1 : τ (r0 + 1) = none) (n3 : τ (r0 + 3) = none) (n4 : τ (r0 + 4) = none) (n5 : τ (r0 + 5) = none) (n6 : τ (r0 + 6) = none) (n7 : τ (r0 + 7) = none) : Sp l g yX0_init (.code yX0_init cX0_init 3 none) (rmv 4 6 225) [.ref (ad r0), .int s9, .int m9] ad τ 6 225 (fun v ad' τ' => (∀ x, x ≠ r0 + 1 → x ≠ r0 + 3 → x ≠ r0 + 4 → x ≠ r0 + 5 → x ≠ r0 + 6 → x ≠ r0 + 7 → ad' x = ad x) ∧ v = none ∧ τ' = tLine g ad' τ r0 s9 m9) (NoX) := by
  refine Sp.of 0 [some (.ref (ad r0)), some (.int s9), some (.int m9)] (by decide +kernel) (Nat.le_of_ble_eq_true rfl) rfl ?_
  intro p e s m args below meth c A cx hout hr hnm
  refine a_aload_n cx dX0_init_0 rfl rfl ?_
  refine a_objInit cx ml_X0_3 (Nat.le_of_ble_eq_true rfl) (Nat.le_of_ble_eq_true rfl) dX0_init_1 ?_
  refine a_aload_n cx dX0_init_4 rfl rfl ?_
  refine a_newG cx (fs := dvJx4a65c) (ci := 2) (r0 + 1) (n1) uw_Jx4a65c tyJx4a65c tyJx4a65c_ok cl_X0_9 ins_Jx4a65c ini_Jx4a65c rfl dvJx4a65c_ok (Nat.le_of_ble_eq_true rfl) (Nat.le_of_ble_eq_true rfl) dX0_init_5 (fun ad9 had_5 => ?_)
  try dsimp only [calO]
  try simp (disch := omega) only [← had_5]
  refine a_dup cx dX0_init_8 rfl ?_
  refine a_callI cx 0 (sp_Jx4a65c_init_da8c8 (va_up_self _ _ _)) ml_X0_11 im_Jx4a65c_init_da8c8 ini_Jx4a65c cd_Jx4a65c_init_da8c8 rfl rfl rfl (by decide +kernel) rfl rfl ⟨(Nat.le_of_ble_eq_true rfl), (Nat.le_of_ble_eq_true rfl)⟩ (Nat.le_of_ble_eq_true rfl) dX0_init_9 ⟨(Nat.le_of_ble_eq_true rfl), (Nat.le_of_ble_eq_true rfl)⟩ (fun v9 ad9 τ9 hP => ?_)
  obtain ⟨rfl, h2, h3⟩ := hP
  replace h2 := h2.symm
  subst h2
  replace h3 := h3.symm
  subst h3
  refine pf_X0_12 cx hnm (by first | exact va_up_self _ _ _ | assumption | (repeat rw [va_up_ne _ _ (by omega)]); first | exact va_up_self _ _ _ | assumption) dX0_init_12 ?_
  refine a_aload_n cx dX0_init_15 rfl rfl ?_
  refine a_newG cx (fs := dvX1) (ci := 4) (r0 + 3) ((by first | exact va_up_self _ _ _ | assumption | (repeat rw [va_up_ne _ _ (by omega)]); first | exact va_up_self _ _ _ | assumption)) uw_X1 tyX1 tyX1_ok cl_X0_18 ins_X1 ini_X1 rfl dvX1_ok (Nat.le_of_ble_eq_true rfl) (Nat.le_of_ble_eq_true rfl) dX0_init_16 (fun ad9 had_16 => ?_)
  try dsimp only [calO]
  try simp (disch := omega) only [← had_16]
  refine a_dup cx dX0_init_19 rfl ?_
  refine a_callIN cx 0 (sp_X1_init (c0 := r0 + 3) (la := r0 + 4) (va_up_self _ _ _) (by first | exact va_up_self _ _ _ | assumption | (repeat rw [va_up_ne _ _ (by omega)]); first | exact va_up_self _ _ _ | assumption)) mn_X0_20 im_X1_init ini_X1 cd_X1_init rfl rfl rfl (by decide +kernel) rfl rfl ⟨(Nat.le_of_ble_eq_true rfl), (Nat.le_of_ble_eq_true rfl)⟩ (Nat.le_of_ble_eq_true rfl) dX0_init_20 ⟨(Nat.le_of_ble_eq_true rfl), (Nat.le_of_ble_eq_true rfl)⟩ (fun v9 ad9 τ9 hP => ?_)
  obtain ⟨had_20, rfl, h3⟩ := hP
  replace h3 := h3.symm
  subst h3
  try dsimp only [calO]
  try simp (disch := omega) only [← had_20]
  refine pf_X0_21 cx hnm (by first | exact va_up_self _ _ _ | assumption | (repeat rw [va_up_ne _ _ (by omega)]); first | exact va_up_self _ _ _ | assumption) dX0_init_23 ?_
  refine a_aload_n cx dX0_init_26 rfl rfl ?_
  refine a_newG cx (fs := dvX1) (ci := 4) (r0 + 5) ((by first | exact va_up_self _ _ _ | assumption | (repeat rw [va_up_ne _ _ (by omega)]); first | exact va_up_self _ _ _ | assumption)) uw_X1 tyX1 tyX1_ok cl_X0_18 ins_X1 ini_X1 rfl dvX1_ok (Nat.le_of_ble_eq_true rfl) (Nat.le_of_ble_eq_true rfl) dX0_init_27 (fun ad9 had_27 => ?_)
  try dsimp only [calO]
  try simp (disch := omega) only [← had_27]
  refine a_dup cx dX0_init_30 rfl ?_
  refine a_callIN cx 0 (sp_X1_init (c0 := r0 + 5) (la := r0 + 6) (va_up_self _ _ _) (by first | exact va_up_self _ _ _ | assumption | (repeat rw [va_up_ne _ _ (by omega)]); first | exact va_up_self _ _ _ | assumption)) mn_X0_20 im_X1_init ini_X1 cd_X1_init rfl rfl rfl (by decide +kernel) rfl rfl ⟨(Nat.le_of_ble_eq_true rfl), (Nat.le_of_ble_eq_true rfl)⟩ (Nat.le_of_ble_eq_true rfl) dX0_init_31 ⟨(Nat.le_of_ble_eq_true rfl), (Nat.le_of_ble_eq_true rfl)⟩ (fun v9 ad9 τ9 hP => ?_)
  obtain ⟨had_31, rfl, h3⟩ := hP
  replace h3 := h3.symm
  subst h3
  try dsimp only [calO]
  try simp (disch := omega) only [← had_31]
  refine pf_X0_25 cx hnm (by first | exact va_up_self _ _ _ | assumption | (repeat rw [va_up_ne _ _ (by omega)]); first | exact va_up_self _ _ _ | assumption) dX0_init_34 ?_
  refine a_aload_n cx dX0_init_37 rfl rfl ?_
  refine a_sipush cx (v := 200) dX0_init_38 (by decide) ?_
  refine a_newaG cx (atype := .char) (t0 := 0) (N := 200) (r0 + 7) ((by first | exact va_up_self _ _ _ | assumption | (repeat rw [va_up_ne _ _ (by omega)]); first | exact va_up_self _ _ _ | assumption)) (.inl (fun _ => 0)) ac_char rfl rfl rfl (fun _ => rfl) (by decide) (by decide) (Nat.le_of_ble_eq_true rfl) (Nat.le_of_ble_eq_true rfl) (Nat.le_of_ble_eq_true rfl) dX0_init_41 (fun ad9 had_41 => ?_)
  try dsimp only [calO]
  try simp (disch := omega) only [← had_41]
  refine pf_X0_28 cx hnm (by first | exact va_up_self _ _ _ | assumption | (repeat rw [va_up_ne _ _ (by omega)]); first | exact va_up_self _ _ _ | assumption) dX0_init_43 ?_
  refine a_aload_n cx dX0_init_46 rfl rfl ?_
  refine a_iconst cx (v := 0) dX0_init_47 (by decide) ?_
  refine pf_X0_32 cx (by first | exact va_up_self _ _ _ | assumption | (repeat rw [va_up_ne _ _ (by omega)]); first | exact va_up_self _ _ _ | assumption) dX0_init_48 ?_
  refine a_aload_n cx dX0_init_51 rfl rfl ?_
  refine a_iconst cx (v := 0) dX0_init_52 (by decide) ?_
  refine pf_X0_36 cx (by first | exact va_up_self _ _ _ | assumption | (repeat rw [va_up_ne _ _ (by omega)]); first | exact va_up_self _ _ _ | assumption) dX0_init_53 ?_
  refine a_aload_n cx dX0_init_56 rfl rfl ?_
  refine a_iconst cx (v := 0) dX0_init_57 (by decide) ?_
  refine pf_X0_39 cx (by first | exact va_up_self _ _ _ | assumption | (repeat rw [va_up_ne _ _ (by omega)]); first | exact va_up_self _ _ _ | assumption) dX0_init_58 ?_
  refine a_aload_n cx dX0_init_61 rfl rfl ?_
  refine a_iconst cx (v := 0) dX0_init_62 (by decide) ?_
  refine pf_X0_42 cx (by first | exact va_up_self _ _ _ | assumption | (repeat rw [va_up_ne _ _ (by omega)]); first | exact va_up_self _ _ _ | assumption) (by first | exact Or.inl rfl | exact Or.inr rfl | assumption) dX0_init_63 ?_
  refine a_aload_n cx dX0_init_66 rfl rfl ?_
  refine a_iconst cx (v := 0) dX0_init_67 (by decide) ?_
  refine pf_X0_46 cx (by first | exact va_up_self _ _ _ | assumption | (repeat rw [va_up_ne _ _ (by omega)]); first | exact va_up_self _ _ _ | assumption) (by first | exact Or.inl rfl | exact Or.inr rfl | assumption) dX0_init_68 ?_
  refine a_aload_n cx dX0_init_71 rfl rfl ?_
  refine a_iload_n cx dX0_init_72 rfl rfl ?_
  refine pf_X0_49 cx hnm (by first | exact va_up_self _ _ _ | assumption | (repeat rw [va_up_ne _ _ (by omega)]); first | exact va_up_self _ _ _ | assumption) dX0_init_73 ?_
  refine a_aload_n cx dX0_init_76 rfl rfl ?_
  refine a_iload_n cx dX0_init_77 rfl rfl ?_
  refine pf_X0_52 cx hnm (by first | exact va_up_self _ _ _ | assumption | (repeat rw [va_up_ne _ _ (by omega)]); first | exact va_up_self _ _ _ | assumption) dX0_init_78 ?_
  refine a_aload_n cx dX0_init_81 rfl rfl ?_
  refine gf_X0_21 cx (by first | exact va_up_self _ _ _ | assumption | (repeat rw [va_up_ne _ _ (by omega)]); first | exact va_up_self _ _ _ | assumption) dX0_init_82 ?_
  refine a_iload_n cx dX0_init_85 rfl rfl ?_
  refine a_callV cx 1 (sp_X1_begin (lf := fun _ => 0) (w := s9) (by first | exact va_up_self _ _ _ | assumption | (repeat rw [va_up_ne _ _ (by omega)]); first | exact va_up_self _ _ _ | assumption)) (by first | exact va_up_self _ _ _ | assumption | (repeat rw [va_up_ne _ _ (by omega)]); first | exact va_up_self _ _ _ | assumption) rfl ml_X0_55 im_X1_begin se_X1_begin ini_X1 cd_X1_begin rfl rfl (by decide +kernel) rfl rfl ⟨(Nat.le_of_ble_eq_true rfl), (Nat.le_of_ble_eq_true rfl)⟩ (Nat.le_of_ble_eq_true rfl) dX0_init_86 ⟨(Nat.le_of_ble_eq_true rfl), (Nat.le_of_ble_eq_true rfl)⟩ (fun _ _ _ h => h.elim) (fun v9 ad9 τ9 hP => ?_)
  obtain ⟨rfl, h2, h3⟩ := hP
  replace h2 := h2.symm
  subst h2
  replace h3 := h3.symm
  subst h3
  exact a_vret cx hr dX0_init_89 (Nat.le_of_ble_eq_true rfl) (Nat.le_of_ble_eq_true rfl) ⟨fun x h1 h2 h3 h4 h5 h6 => by simp (disch := omega) only [had_41, had_31, had_27, had_20, had_16, had_5], rfl, by funext x; rcases (show x = r0 ∨ x = r0 + 1 ∨ x = r0 + 3 ∨ x = r0 + 4 ∨ x = r0 + 5 ∨ x = r0 + 6 ∨ x = r0 + 7 ∨ (x ≠ r0 ∧ x ≠ r0 + 1 ∧ x ≠ r0 + 3 ∧ x ≠ r0 + 4 ∧ x ≠ r0 + 5 ∧ x ≠ r0 + 6 ∧ x ≠ r0 + 7) by omega) with q | q | q | q | q | q | q | ⟨h0, h1, h3, h4, h5, h6, h7⟩ <;> simp [tLine, up_eval, *]⟩

set_option maxHeartbeats 4000000 in
set_option maxRecDepth 100000 in
/-- add(e), empty -/
theorem sp_Jx4a65c_add_9ea2d {l : Launch} {g : GW} {ad : AD} {τ : RH} {r0 r2 v0 n ci NN : Nat} {mc : Int32} {f : Nat → Option Nat} {vs : List Value} {C : String} {T : u_T} (hq : τ r0 = some (liO mc (.ref g.2.2.1) 0)) (h2 : τ r2 = none) (hv : τ v0 = some (.inr (ci, vs))) (hca : Cond.castable C "java/lang/Object" ∈ BW) (hw : vwCl[ci]? = some (C, T, NN)) (hnr : v0 ≠ r0) : Sp l g yJx4a65c_add_9ea2d (.code yJx4a65c_add_9ea2d cJx4a65c_add_9ea2d 2 (some .boolean)) (rmv 4 1 10) [.ref (ad r0), .ref (ad v0)] ad τ 1 10 (fun v ad' τ' => (∀ x, x ≠ r2 → ad' x = ad x) ∧ v = some (.int 1) ∧ τ' = va_up (va_up τ r2 (some (arQ g 10 (va_up (fun _ => none) 0 (some (ad' v0)))))) r0 (some (liO (mc + 1) (.ref (ad' r2)) 1))) (NoX) := by
  refine Sp.of 0 [some (.ref (ad r0)), some (.ref (ad v0))] (by decide +kernel) (Nat.le_of_ble_eq_true rfl) rfl ?_
  intro p e s m args below meth c A cx hout hr hnm
  have hne : r0 ≠ r2 := fun q => by rw [q, h2] at hq; cases hq
  refine a_aload_n cx dJx4a65c_add_9ea2d_0 rfl rfl ?_
  refine a_dup cx dJx4a65c_add_9ea2d_1 rfl ?_
  refine gf_Jx4a65c_63 cx hq dJx4a65c_add_9ea2d_2 ?_
  refine a_iconst cx (v := 1) dJx4a65c_add_9ea2d_5 (by decide) ?_
  refine a_iadd cx dJx4a65c_add_9ea2d_6 ?_
  refine pf_Jx4a65c_63 cx hq dJx4a65c_add_9ea2d_7 ?_
  have hq1 : (va_up τ r0 (some (liO (mc + 1) (.ref g.2.2.1) 0))) r0 = some (liO (mc + 1) (.ref g.2.2.1) 0) := va_up_self _ _ _
  refine a_aload_n cx dJx4a65c_add_9ea2d_10 rfl rfl ?_
  refine a_aload_n cx dJx4a65c_add_9ea2d_11 rfl rfl ?_
  refine a_aload_n cx dJx4a65c_add_9ea2d_12 rfl rfl ?_
  refine gf_Jx4a65c_9 cx hq1 dJx4a65c_add_9ea2d_13 ?_
  refine a_aload_n cx dJx4a65c_add_9ea2d_16 rfl rfl ?_
  refine gf_Jx4a65c_48 cx hq1 dJx4a65c_add_9ea2d_17 ?_
  refine a_callV cx 3 (sp_Jx4a65c_add_72be8 (r2 := r2) (n := 0) (f := fun _ => none) hq1 (by rw [va_up_ne _ _ hne.symm]; exact h2) (by rw [va_up_ne _ _ hnr]; exact hv) hca hw hnr) hq1 rfl ml_Jx4a65c_131 im_Jx4a65c_add_72be8 se_Jx4a65c_add_72be8 ini_Jx4a65c cd_Jx4a65c_add_72be8 rfl rfl (by decide +kernel) rfl rfl ⟨(Nat.le_of_ble_eq_true rfl), (Nat.le_of_ble_eq_true rfl)⟩ (Nat.le_of_ble_eq_true rfl) dJx4a65c_add_9ea2d_20 ⟨(Nat.le_of_ble_eq_true rfl), (Nat.le_of_ble_eq_true rfl)⟩ (fun _ _ _ h => h.elim) (fun v9 ad9 τ9 hP => ?_)
  obtain ⟨had, rfl, h3⟩ := hP
  replace h3 := h3.symm
  subst h3
  refine a_iconst cx (v := 1) dJx4a65c_add_9ea2d_23 (by decide) ?_
  exact a_zret cx hr dJx4a65c_add_9ea2d_24 (by first | rfl | decide) (Nat.le_of_ble_eq_true rfl) (Nat.le_of_ble_eq_true rfl) ⟨had, rfl, by rw [up_com _ _ _ hne, up_up]⟩

set_option maxHeartbeats 4000000 in
set_option maxRecDepth 100000 in
/-- add(e), not empty -/
theorem sp_addE_more {l : Launch} {g : GW} {ad : AD} {τ : RH} {r0 r2 v0 n ci NN : Nat} {mc : Int32} {f : Nat → Option Nat} {vs : List Value} {C : String} {T : u_T} (hq : τ r0 = some (liO mc (.ref (ad r2)) n)) (ha : τ r2 = some (arQ g 10 f)) (h0 : 0 < n) (h10 : n < 10) (hv : τ v0 = some (.inr (ci, vs))) (hca : Cond.castable C "java/lang/Object" ∈ BW) (hw : vwCl[ci]? = some (C, T, NN)) (hnr : v0 ≠ r0) : Sp l g yJx4a65c_add_9ea2d (.code yJx4a65c_add_9ea2d cJx4a65c_add_9ea2d 2 (some .boolean)) (rmv 4 1 10) [.ref (ad r0), .ref (ad v0)] ad τ 1 10 (fun v ad' τ' => v = some (.int 1) ∧ ad' = ad ∧ τ' = va_up (va_up τ r2 (some (arQ g 10 (va_up f n (some (ad v0)))))) r0 (some (liO (mc + 1) (.ref (ad r2)) (n + 1)))) (NoX) := by
  refine Sp.of 0 [some (.ref (ad r0)), some (.ref (ad v0))] (by decide +kernel) (Nat.le_of_ble_eq_true rfl) rfl ?_
  intro p e s m args below meth c A cx hout hr hnm
  have hne : r0 ≠ r2 := r_ne hq ha (by simp)
  refine a_aload_n cx dJx4a65c_add_9ea2d_0 rfl rfl ?_
  refine a_dup cx dJx4a65c_add_9ea2d_1 rfl ?_
  refine gf_Jx4a65c_63 cx hq dJx4a65c_add_9ea2d_2 ?_
  refine a_iconst cx (v := 1) dJx4a65c_add_9ea2d_5 (by decide) ?_
  refine a_iadd cx dJx4a65c_add_9ea2d_6 ?_
  refine pf_Jx4a65c_63 cx hq dJx4a65c_add_9ea2d_7 ?_
  have hq1 : (va_up τ r0 (some (liO (mc + 1) (.ref (ad r2)) n))) r0 = some (liO (mc + 1) (.ref (ad r2)) n) := va_up_self _ _ _
  refine a_aload_n cx dJx4a65c_add_9ea2d_10 rfl rfl ?_
  refine a_aload_n cx dJx4a65c_add_9ea2d_11 rfl rfl ?_
  refine a_aload_n cx dJx4a65c_add_9ea2d_12 rfl rfl ?_
  refine gf_Jx4a65c_9 cx hq1 dJx4a65c_add_9ea2d_13 ?_
  refine a_aload_n cx dJx4a65c_add_9ea2d_16 rfl rfl ?_
  refine gf_Jx4a65c_48 cx hq1 dJx4a65c_add_9ea2d_17 ?_
  refine a_callV cx 3 (sp_add_more hq1 (by rw [va_up_ne _ _ hne.symm]; exact ha) h0 h10 (by rw [va_up_ne _ _ hnr]; exact hv) hca hw hnr) hq1 rfl ml_Jx4a65c_131 im_Jx4a65c_add_72be8 se_Jx4a65c_add_72be8 ini_Jx4a65c cd_Jx4a65c_add_72be8 rfl rfl (by decide +kernel) rfl rfl ⟨(Nat.le_of_ble_eq_true rfl), (Nat.le_of_ble_eq_true rfl)⟩ (Nat.le_of_ble_eq_true rfl) dJx4a65c_add_9ea2d_20 ⟨(Nat.le_of_ble_eq_true rfl), (Nat.le_of_ble_eq_true rfl)⟩ (fun _ _ _ h => h.elim) (fun v9 ad9 τ9 hP => ?_)
  obtain ⟨rfl, h2, h3⟩ := hP
  replace h2 := h2.symm
  subst h2
  replace h3 := h3.symm
  subst h3
  refine a_iconst cx (v := 1) dJx4a65c_add_9ea2d_23 (by decide) ?_
  exact a_zret cx hr dJx4a65c_add_9ea2d_24 (by first | rfl | decide) (Nat.le_of_ble_eq_true rfl) (Nat.le_of_ble_eq_true rfl) ⟨rfl, rfl, by rw [up_com _ _ _ hne, up_up]⟩

