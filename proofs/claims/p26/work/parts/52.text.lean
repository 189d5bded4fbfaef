theorem int_lt {a b : Nat} (ha : a < 2 ^ 31) (hb : b < 2 ^ 31) (h : ¬ nI a ≤ nI b) : b < a := by
  rcases Nat.lt_or_ge b a with q | q
  · exact q
  · exact absurd (nI_le q hb) h
theorem chB_nar {k : Nat} (hk : k < 5) : narrow .char (.int (chB k)) = .int (chB k) := by
  rcases (show k = 0 ∨ k = 1 ∨ k = 2 ∨ k = 3 ∨ k = 4 by omega) with rfl | rfl | rfl | rfl | rfl <;> decide +kernel
theorem chB_c {k : Nat} (hk : k < 5) : ((chB k &&& 255).toUInt32 % 65536).toInt32 = chB k := by
  rcases (show k = 0 ∨ k = 1 ∨ k = 2 ∨ k = 3 ∨ k = 4 by omega) with rfl | rfl | rfl | rfl | rfl <;> decide +kernel
theorem chB_in {k : Nat} (hk : k < 5) : chB k = 114 ∨ chB k = 99 ∨ chB k = 98 := by
  rcases (show k = 0 ∨ k = 1 ∨ k = 2 ∨ k = 3 ∨ k = 4 by omega) with rfl | rfl | rfl | rfl | rfl <;> decide +kernel
set_option maxHeartbeats 4000000 in
set_option maxRecDepth 100000 in
/-- cell -/
theorem sp_L_cell {l : Launch} {g : GW} {ad : AD} {τ : RH} {k : Nat} (hk : k < 2 ^ 31) : Sp l g yL_cell (.code yL_cell cL_cell 2 (some .int)) (rmv 1 0 0) [.ref g.2.2.2.1, .int (nI k)] ad τ 0 0 (fun v ad' τ' => (∃ x, v = some (.int x)) ∧ ad' = ad ∧ τ' = τ) (NoX) := by
  refine Sp.of 0 [some (.ref g.2.2.2.1), some (.int (nI k))] (by decide +kernel) (Nat.le_of_ble_eq_true rfl) rfl ?_
  intro p e s m args below meth c A cx hout hr hnm
  refine a_iload_n cx dL_cell_0 rfl rfl ?_
  refine a_aload_n cx dL_cell_1 rfl rfl ?_
  refine a_xlen cx dL_cell_2 ?_
  have hL9 := (cx_S cx).1.1
  refine a_icmp_ge cx (tgt := 12) dL_cell_3 (by decide) (fun c_3 => ?_) (fun c_3 => ?_)
  · refine a_ldc cx (v := 40503) (by decide +kernel) dL_cell_12 ?_
    refine a_iload_n cx dL_cell_14 rfl rfl ?_
    refine a_imul cx dL_cell_15 ?_
    refine a_bipush cx (v := 31) dL_cell_16 (by decide) ?_
    refine a_iadd cx dL_cell_18 ?_
    exact a_iret cx hr dL_cell_19 (Nat.le_of_ble_eq_true rfl) (Nat.le_of_ble_eq_true rfl) ⟨⟨_, rfl⟩, rfl, rfl⟩
  · refine a_aload_n cx dL_cell_6 rfl rfl ?_
    refine a_iload_n cx dL_cell_7 rfl rfl ?_
    refine a_xld cx (k := k) (int_lt (by omega) hk c_3) dL_cell_8 (fun x => ?_)
    refine a_goto cx (tgt := 19) dL_cell_9 (by decide) ?_
    exact a_iret cx hr dL_cell_19 (Nat.le_of_ble_eq_true rfl) (Nat.le_of_ble_eq_true rfl) ⟨⟨_, rfl⟩, rfl, rfl⟩

set_option maxHeartbeats 4000000 in
set_option maxRecDepth 100000 in
/-- pick -/
theorem sp_L_pick {l : Launch} {g : GW} {ad : AD} {τ : RH} {k n : Nat} (hk : k < 2 ^ 31) (hn0 : 0 < n) (hn : n < 2 ^ 31) : Sp l g yL_pick (.code yL_pick cL_pick 3 (some .int)) (rmv 3 0 0) [.ref g.2.2.2.1, .int (nI k), .int (nI n)] ad τ 0 0 (fun v ad' τ' => (∃ r, r < n ∧ v = some (.int (nI r))) ∧ ad' = ad ∧ τ' = τ) (NoX) := by
  refine Sp.of 0 [some (.ref g.2.2.2.1), some (.int (nI k)), some (.int (nI n))] (by decide +kernel) (Nat.le_of_ble_eq_true rfl) rfl ?_
  intro p e s m args below meth c A cx hout hr hnm
  refine a_aload_n cx dL_pick_0 rfl rfl ?_
  refine a_iload_n cx dL_pick_1 rfl rfl ?_
  refine a_callS cx 2 (sp_L_cell (k := k) hk) ml_L_8 st_L_cell ini_L cd_L_cell rfl rfl (by decide +kernel) rfl rfl ⟨(Nat.le_of_ble_eq_true rfl), (Nat.le_of_ble_eq_true rfl)⟩ (Nat.le_of_ble_eq_true rfl) dL_pick_2 ⟨(Nat.le_of_ble_eq_true rfl), (Nat.le_of_ble_eq_true rfl)⟩ (fun _ _ _ h => h.elim) (fun v9 ad9 τ9 hP => ?_)
  obtain ⟨⟨x9, rfl⟩, h2, h3⟩ := hP
  replace h2 := h2.symm
  subst h2
  replace h3 := h3.symm
  subst h3
  refine a_iconst cx (v := 1) dL_pick_5 (by decide) ?_
  refine a_ushr1 cx rfl dL_pick_6 (fun V hV => ?_)
  refine a_iload_n cx dL_pick_7 rfl rfl ?_
  refine a_irem cx (a := V) (b := n) rfl rfl (by omega) (by omega) (by omega) dL_pick_8 ?_
  exact a_iret cx hr dL_pick_9 (Nat.le_of_ble_eq_true rfl) (Nat.le_of_ble_eq_true rfl) ⟨⟨_, Nat.mod_lt _ hn0, rfl⟩, rfl, rfl⟩

set_option maxHeartbeats 4000000 in
set_option maxRecDepth 100000 in
/-- checkIndex -/
theorem sp_J3_checkN {l : Launch} {g : GW} {ad : AD} {τ : RH} {i n : Nat} (hi : i < n) (hn : n < 2 ^ 31) : Sp l g yJ3_checkIndex_8e157 (.code yJ3_checkIndex_8e157 cJ3_checkIndex_8e157 3 (some .int)) (rmv 1 0 0) [.int (nI i), .int (nI n), .null] ad τ 0 0 (fun v ad' τ' => v = some (.int (nI i)) ∧ ad' = ad ∧ τ' = τ) (NoX) := by
  refine Sp.of 0 [some (.int (nI i)), some (.int (nI n)), some (.null)] (by decide +kernel) (Nat.le_of_ble_eq_true rfl) rfl ?_
  intro p e s m args below meth c A cx hout hr hnm
  refine a_iload_n cx dJ3_checkIndex_8e157_0 rfl rfl ?_
  refine a_if_lt cx (tgt := 9) dJ3_checkIndex_8e157_1 (by decide) (fun c_1 => absurd c_1 (nI_pos (by omega))) (fun c_1 => ?_)
  refine a_iload_n cx dJ3_checkIndex_8e157_4 rfl rfl ?_
  refine a_iload_n cx dJ3_checkIndex_8e157_5 rfl rfl ?_
  refine a_icmp_lt cx (tgt := 16) dJ3_checkIndex_8e157_6 (by decide) (fun c_6 => ?_) (fun c_6 => absurd (nI_lt hi hn) c_6)
  refine a_iload_n cx dJ3_checkIndex_8e157_16 rfl rfl ?_
  exact a_iret cx hr dJ3_checkIndex_8e157_17 (Nat.le_of_ble_eq_true rfl) (Nat.le_of_ble_eq_true rfl) ⟨rfl, rfl, rfl⟩

set_option maxHeartbeats 4000000 in
set_option maxRecDepth 100000 in
/-- checkIndex -/
theorem sp_J3_checkR {l : Launch} {g : GW} {ad : AD} {τ : RH} {i n t : Nat} (hi : i < n) (hn : n < 2 ^ 31) : Sp l g yJ3_checkIndex_8e157 (.code yJ3_checkIndex_8e157 cJ3_checkIndex_8e157 3 (some .int)) (rmv 1 0 0) [.int (nI i), .int (nI n), .ref t] ad τ 0 0 (fun v ad' τ' => v = some (.int (nI i)) ∧ ad' = ad ∧ τ' = τ) (NoX) := by
  refine Sp.of 0 [some (.int (nI i)), some (.int (nI n)), some (.ref t)] (by decide +kernel) (Nat.le_of_ble_eq_true rfl) rfl ?_
  intro p e s m args below meth c A cx hout hr hnm
  refine a_iload_n cx dJ3_checkIndex_8e157_0 rfl rfl ?_
  refine a_if_lt cx (tgt := 9) dJ3_checkIndex_8e157_1 (by decide) (fun c_1 => absurd c_1 (nI_pos (by omega))) (fun c_1 => ?_)
  refine a_iload_n cx dJ3_checkIndex_8e157_4 rfl rfl ?_
  refine a_iload_n cx dJ3_checkIndex_8e157_5 rfl rfl ?_
  refine a_icmp_lt cx (tgt := 16) dJ3_checkIndex_8e157_6 (by decide) (fun c_6 => ?_) (fun c_6 => absurd (nI_lt hi hn) c_6)
  refine a_iload_n cx dJ3_checkIndex_8e157_16 rfl rfl ?_
  exact a_iret cx hr dJ3_checkIndex_8e157_17 (Nat.le_of_ble_eq_true rfl) (Nat.le_of_ble_eq_true rfl) ⟨rfl, rfl, rfl⟩

set_option maxHeartbeats 4000000 in
set_option maxRecDepth 100000 in
/-- String.checkIndex -/
theorem sp_J0_checkIndex_df160 {l : Launch} {g : GW} {ad : AD} {τ : RH} {i n : Nat} (hi : i < n) (hn : n < 2 ^ 31) : Sp l g yJ0_checkIndex_df160 (.code yJ0_checkIndex_df160 cJ0_checkIndex_df160 2 none) (rmv 3 0 0) [.int (nI i), .int (nI n)] ad τ 0 0 (fun v ad' τ' => v = none ∧ ad' = ad ∧ τ' = τ) (NoX) := by
  refine Sp.of 0 [some (.int (nI i)), some (.int (nI n))] (by decide +kernel) (Nat.le_of_ble_eq_true rfl) rfl ?_
  intro p e s m args below meth c A cx hout hr hnm
  refine a_iload_n cx dJ0_checkIndex_df160_0 rfl rfl ?_
  refine a_iload_n cx dJ0_checkIndex_df160_1 rfl rfl ?_
  refine a_sioobe cx fl_J0_1053 dJ0_checkIndex_df160_2 ?_ (fun t => ?_)
  · refine a_callS cx 3 (sp_J3_checkN hi hn) ml_J0_1059 st_J3_checkIndex_8e157 ini_J3 cd_J3_checkIndex_8e157 rfl rfl (by decide +kernel) rfl rfl ⟨(Nat.le_of_ble_eq_true rfl), (Nat.le_of_ble_eq_true rfl)⟩ (Nat.le_of_ble_eq_true rfl) dJ0_checkIndex_df160_5 ⟨(Nat.le_of_ble_eq_true rfl), (Nat.le_of_ble_eq_true rfl)⟩ (fun _ _ _ h => h.elim) (fun v9 ad9 τ9 hP => ?_)
    obtain ⟨rfl, h2, h3⟩ := hP
    replace h2 := h2.symm
    subst h2
    replace h3 := h3.symm
    subst h3
    refine a_pop cx dJ0_checkIndex_df160_8 rfl ?_
    exact a_vret cx hr dJ0_checkIndex_df160_9 (Nat.le_of_ble_eq_true rfl) (Nat.le_of_ble_eq_true rfl) ⟨rfl, rfl, rfl⟩
  · refine a_callS cx 3 (sp_J3_checkR hi hn) ml_J0_1059 st_J3_checkIndex_8e157 ini_J3 cd_J3_checkIndex_8e157 rfl rfl (by decide +kernel) rfl rfl ⟨(Nat.le_of_ble_eq_true rfl), (Nat.le_of_ble_eq_true rfl)⟩ (Nat.le_of_ble_eq_true rfl) dJ0_checkIndex_df160_5 ⟨(Nat.le_of_ble_eq_true rfl), (Nat.le_of_ble_eq_true rfl)⟩ (fun _ _ _ h => h.elim) (fun v9 ad9 τ9 hP => ?_)
    obtain ⟨rfl, h2, h3⟩ := hP
    replace h2 := h2.symm
    subst h2
    replace h3 := h3.symm
    subst h3
    refine a_pop cx dJ0_checkIndex_df160_8 rfl ?_
    exact a_vret cx hr dJ0_checkIndex_df160_9 (Nat.le_of_ble_eq_true rfl) (Nat.le_of_ble_eq_true rfl) ⟨rfl, rfl, rfl⟩

set_option maxHeartbeats 4000000 in
set_option maxRecDepth 100000 in
/-- StringLatin1.charAt -/
theorem sp_J1_charAt_3b067 {l : Launch} {g : GW} {ad : AD} {τ : RH} {k : Nat} (hk : k < 5) : Sp l g yJ1_charAt_3b067 (.code yJ1_charAt_3b067 cJ1_charAt_3b067 2 (some .char)) (rmv 5 0 0) [.ref (g.2.2.2.2.2.2 1), .int (nI k)] ad τ 0 0 (fun v ad' τ' => v = some (.int (chB k)) ∧ ad' = ad ∧ τ' = τ) (NoX) := by
  refine Sp.of 0 [some (.ref (g.2.2.2.2.2.2 1)), some (.int (nI k))] (by decide +kernel) (Nat.le_of_ble_eq_true rfl) rfl ?_
  intro p e s m args below meth c A cx hout hr hnm
  refine a_iload_n cx dJ1_charAt_3b067_0 rfl rfl ?_
  refine a_aload_n cx dJ1_charAt_3b067_1 rfl rfl ?_
  refine a_tlen cx dJ1_charAt_3b067_2 ?_
  refine a_callS cx 2 (sp_J0_checkIndex_df160 hk (by decide)) ml_J1_9 st_J0_checkIndex_df160 ini_J0 cd_J0_checkIndex_df160 rfl rfl (by decide +kernel) rfl rfl ⟨(Nat.le_of_ble_eq_true rfl), (Nat.le_of_ble_eq_true rfl)⟩ (Nat.le_of_ble_eq_true rfl) dJ1_charAt_3b067_3 ⟨(Nat.le_of_ble_eq_true rfl), (Nat.le_of_ble_eq_true rfl)⟩ (fun _ _ _ h => h.elim) (fun v9 ad9 τ9 hP => ?_)
  obtain ⟨rfl, h2, h3⟩ := hP
  replace h2 := h2.symm
  subst h2
  replace h3 := h3.symm
  subst h3
  refine a_aload_n cx dJ1_charAt_3b067_6 rfl rfl ?_
  refine a_iload_n cx dJ1_charAt_3b067_7 rfl rfl ?_
  refine a_tld cx hk dJ1_charAt_3b067_8 ?_
  refine a_sipush cx (v := 255) dJ1_charAt_3b067_9 (by decide) ?_
  refine a_iand cx dJ1_charAt_3b067_12 ?_
  refine a_i2c cx dJ1_charAt_3b067_13 (chB_c hk) ?_
  exact a_zret cx hr dJ1_charAt_3b067_14 (chB_nar hk) (Nat.le_of_ble_eq_true rfl) (Nat.le_of_ble_eq_true rfl) ⟨rfl, rfl, rfl⟩

set_option maxHeartbeats 4000000 in
set_option maxRecDepth 100000 in
/-- isLatin1 -/
theorem sp_J0_isLatin1_aae02 {l : Launch} {g : GW} {ad : AD} {τ : RH}  : Sp l g yJ0_isLatin1_aae02 (.code yJ0_isLatin1_aae02 cJ0_isLatin1_aae02 1 (some .boolean)) (rmv 1 0 0) [.ref (g.2.2.2.2.2.2 0)] ad τ 0 0 (fun v ad' τ' => v = some (.int 1) ∧ ad' = ad ∧ τ' = τ) (NoX) := by
  refine Sp.of 0 [some (.ref (g.2.2.2.2.2.2 0))] (by decide +kernel) (Nat.le_of_ble_eq_true rfl) rfl ?_
  intro p e s m args below meth c A cx hout hr hnm
  refine a_compact cx fl_J0_38 dJ0_isLatin1_aae02_0 ?_
  refine a_if_eq cx (tgt := 17) dJ0_isLatin1_aae02_3 (by decide) (fun c_3 => absurd c_3 (by decide)) (fun c_3 => ?_)
  refine a_aload_n cx dJ0_isLatin1_aae02_6 rfl rfl ?_
  refine a_tcod cx fl_J0_15 dJ0_isLatin1_aae02_7 ?_
  refine a_if_ne cx (tgt := 17) dJ0_isLatin1_aae02_10 (by decide) (fun c_10 => absurd rfl c_10) (fun c_10 => ?_)
  refine a_iconst cx (v := 1) dJ0_isLatin1_aae02_13 (by decide) ?_
  refine a_goto cx (tgt := 18) dJ0_isLatin1_aae02_14 (by decide) ?_
  exact a_zret cx hr dJ0_isLatin1_aae02_18 (by first | rfl | decide) (Nat.le_of_ble_eq_true rfl) (Nat.le_of_ble_eq_true rfl) ⟨rfl, rfl, rfl⟩

set_option maxHeartbeats 4000000 in
set_option maxRecDepth 100000 in
/-- String.charAt -/
theorem sp_J0_charAt_5068e {l : Launch} {g : GW} {ad : AD} {τ : RH} {k : Nat} (hk : k < 5) : Sp l g yJ0_charAt_5068e (.code yJ0_charAt_5068e cJ0_charAt_5068e 2 (some .char)) (rmv 7 0 0) [.ref (g.2.2.2.2.2.2 0), .int (nI k)] ad τ 0 0 (fun v ad' τ' => v = some (.int (chB k)) ∧ ad' = ad ∧ τ' = τ) (NoX) := by
  refine Sp.of 0 [some (.ref (g.2.2.2.2.2.2 0)), some (.int (nI k))] (by decide +kernel) (Nat.le_of_ble_eq_true rfl) rfl ?_
  intro p e s m args below meth c A cx hout hr hnm
  refine a_aload_n cx dJ0_charAt_5068e_0 rfl rfl ?_
  refine a_callT cx 0 (sp_J0_isLatin1_aae02) ml_J0_492 im_J0_isLatin1_aae02 se_J0_isLatin1_aae02 ini_J0 cd_J0_isLatin1_aae02 rfl rfl (by decide +kernel) rfl rfl ⟨(Nat.le_of_ble_eq_true rfl), (Nat.le_of_ble_eq_true rfl)⟩ (Nat.le_of_ble_eq_true rfl) dJ0_charAt_5068e_1 ⟨(Nat.le_of_ble_eq_true rfl), (Nat.le_of_ble_eq_true rfl)⟩ (fun _ _ _ h => h.elim) (fun v9 ad9 τ9 hP => ?_)
  obtain ⟨rfl, h2, h3⟩ := hP
  replace h2 := h2.symm
  subst h2
  replace h3 := h3.symm
  subst h3
  refine a_if_eq cx (tgt := 16) dJ0_charAt_5068e_4 (by decide) (fun c_4 => absurd c_4 (by decide)) (fun c_4 => ?_)
  refine a_aload_n cx dJ0_charAt_5068e_7 rfl rfl ?_
  refine a_tval cx fl_J0_9 dJ0_charAt_5068e_8 ?_
  refine a_iload_n cx dJ0_charAt_5068e_11 rfl rfl ?_
  refine a_callS cx 2 (sp_J1_charAt_3b067 hk) ml_J0_495 st_J1_charAt_3b067 ini_J1 cd_J1_charAt_3b067 rfl rfl (by decide +kernel) rfl rfl ⟨(Nat.le_of_ble_eq_true rfl), (Nat.le_of_ble_eq_true rfl)⟩ (Nat.le_of_ble_eq_true rfl) dJ0_charAt_5068e_12 ⟨(Nat.le_of_ble_eq_true rfl), (Nat.le_of_ble_eq_true rfl)⟩ (fun _ _ _ h => h.elim) (fun v9 ad9 τ9 hP => ?_)
  obtain ⟨rfl, h2, h3⟩ := hP
  replace h2 := h2.symm
  subst h2
  replace h3 := h3.symm
  subst h3
  exact a_zret cx hr dJ0_charAt_5068e_15 (chB_nar hk) (Nat.le_of_ble_eq_true rfl) (Nat.le_of_ble_eq_true rfl) ⟨rfl, rfl, rfl⟩

