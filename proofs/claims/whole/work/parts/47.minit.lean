def pl0 : Nat → Int32 := va_up (va_up (va_up (va_up (va_up (va_up (va_up (va_up (fun _ => 0) 0 110) 1 110) 2 110) 3 110) 4 110) 5 110) 6 110) 7 110
def tMod (g : GW) (ad' : AD) (τ : RH) : RH := fun r => if r = 60 then some (moO ad' (fun _ => 0)) else if 61 ≤ r ∧ r < 84 then some (ob g ad' r (if r = 81 then pl0 else fun _ => 0)) else τ r
theorem rng23 {x : Nat} (h : 61 ≤ x ∧ x < 84) : x = 61 ∨ x = 62 ∨ x = 63 ∨ x = 64 ∨ x = 65 ∨ x = 66 ∨ x = 67 ∨ x = 68 ∨ x = 69 ∨ x = 70 ∨ x = 71 ∨ x = 72 ∨ x = 73 ∨ x = 74 ∨ x = 75 ∨ x = 76 ∨ x = 77 ∨ x = 78 ∨ x = 79 ∨ x = 80 ∨ x = 81 ∨ x = 82 ∨ x = 83 := by omega
set_option maxHeartbeats 4000000 in
set_option maxRecDepth 100000 in
/-- BeamOfficeModel() -/
theorem sp_X4_init {l : Launch} {g : GW} {ad : AD} {τ : RH} {v5 v6 v7 v8 v9 v10 v11 v12 v13 v14 v15 v16 v17 v18 v19 v20 v21 v22 v23 v24 v25 v26 v27 : Value} (h0 : τ 60 = some (.inr (7, [.int 0, .int 0, .int 0, .int 0, .int 0, v5, v6, v7, v8, v9, v10, v11, v12, v13, v14, v15, v16, v17, v18, v19, v20, v21, v22, v23, v24, v25, v26, v27]))) (hn : ∀ r, 61 ≤ r → r < 84 → τ r = none) : Sp l g yX4_init (.code yX4_init cX4_init 1 none) (rmv 1 23 148) [.ref (ad 60)] ad τ 23 148 (fun v ad' τ' => (∀ x, ¬ (61 ≤ x ∧ x < 84) → ad' x = ad x) ∧ v = none ∧ τ' = tMod g ad' τ) (NoX) := by
  refine Sp.of 0 [some (.ref (ad 60))] (by decide +kernel) (Nat.le_of_ble_eq_true rfl) rfl ?_
  intro p e s m args below meth c A cx hout hr hnm
  refine a_aload_n cx dX4_init_0 rfl rfl ?_
  refine a_objInit cx ml_X4_1 (Nat.le_of_ble_eq_true rfl) (Nat.le_of_ble_eq_true rfl) dX4_init_1 ?_
  refine a_aload_n cx dX4_init_4 rfl rfl ?_
  refine a_iconst cx (v := 2) dX4_init_5 (by decide) ?_
  refine a_newaG cx (atype := .int) (t0 := 1) (N := 2) (61) ((hn 61 (by decide) (by decide))) (.inl (fun _ => 0)) ac_int rfl rfl rfl (fun _ => rfl) (by decide) (by decide) (Nat.le_of_ble_eq_true rfl) (Nat.le_of_ble_eq_true rfl) (Nat.le_of_ble_eq_true rfl) dX4_init_6 (fun ad9 had_6 => ?_)
  simp (disch := omega) only [← had_6]
  refine pf_X4_7 cx hnm (by first | exact va_up_self _ _ _ | assumption | ((repeat rw [va_up_ne _ _ (by decide)]); first | exact va_up_self _ _ _ | assumption)) dX4_init_8 ?_
  refine a_aload_n cx dX4_init_11 rfl rfl ?_
  refine a_iconst cx (v := 2) dX4_init_12 (by decide) ?_
  refine a_newaG cx (atype := .int) (t0 := 1) (N := 2) (62) ((by (repeat rw [va_up_ne _ _ (by decide)]); exact hn _ (by decide) (by decide))) (.inl (fun _ => 0)) ac_int rfl rfl rfl (fun _ => rfl) (by decide) (by decide) (Nat.le_of_ble_eq_true rfl) (Nat.le_of_ble_eq_true rfl) (Nat.le_of_ble_eq_true rfl) dX4_init_13 (fun ad9 had_13 => ?_)
  simp (disch := omega) only [← had_13]
  refine pf_X4_13 cx hnm (by first | exact va_up_self _ _ _ | assumption | ((repeat rw [va_up_ne _ _ (by decide)]); first | exact va_up_self _ _ _ | assumption)) dX4_init_15 ?_
  refine a_aload_n cx dX4_init_18 rfl rfl ?_
  refine a_iconst cx (v := 2) dX4_init_19 (by decide) ?_
  refine a_newaG cx (atype := .int) (t0 := 1) (N := 2) (63) ((by (repeat rw [va_up_ne _ _ (by decide)]); exact hn _ (by decide) (by decide))) (.inl (fun _ => 0)) ac_int rfl rfl rfl (fun _ => rfl) (by decide) (by decide) (Nat.le_of_ble_eq_true rfl) (Nat.le_of_ble_eq_true rfl) (Nat.le_of_ble_eq_true rfl) dX4_init_20 (fun ad9 had_20 => ?_)
  simp (disch := omega) only [← had_20]
  refine pf_X4_16 cx hnm (by first | exact va_up_self _ _ _ | assumption | ((repeat rw [va_up_ne _ _ (by decide)]); first | exact va_up_self _ _ _ | assumption)) dX4_init_22 ?_
  refine a_aload_n cx dX4_init_25 rfl rfl ?_
  refine a_iconst cx (v := 2) dX4_init_26 (by decide) ?_
  refine a_newaG cx (atype := .int) (t0 := 1) (N := 2) (64) ((by (repeat rw [va_up_ne _ _ (by decide)]); exact hn _ (by decide) (by decide))) (.inl (fun _ => 0)) ac_int rfl rfl rfl (fun _ => rfl) (by decide) (by decide) (Nat.le_of_ble_eq_true rfl) (Nat.le_of_ble_eq_true rfl) (Nat.le_of_ble_eq_true rfl) dX4_init_27 (fun ad9 had_27 => ?_)
  simp (disch := omega) only [← had_27]
  refine pf_X4_19 cx hnm (by first | exact va_up_self _ _ _ | assumption | ((repeat rw [va_up_ne _ _ (by decide)]); first | exact va_up_self _ _ _ | assumption)) dX4_init_29 ?_
  refine a_aload_n cx dX4_init_32 rfl rfl ?_
  refine a_iconst cx (v := 2) dX4_init_33 (by decide) ?_
  refine a_newaG cx (atype := .int) (t0 := 1) (N := 2) (65) ((by (repeat rw [va_up_ne _ _ (by decide)]); exact hn _ (by decide) (by decide))) (.inl (fun _ => 0)) ac_int rfl rfl rfl (fun _ => rfl) (by decide) (by decide) (Nat.le_of_ble_eq_true rfl) (Nat.le_of_ble_eq_true rfl) (Nat.le_of_ble_eq_true rfl) dX4_init_34 (fun ad9 had_34 => ?_)
  simp (disch := omega) only [← had_34]
  refine pf_X4_22 cx hnm (by first | exact va_up_self _ _ _ | assumption | ((repeat rw [va_up_ne _ _ (by decide)]); first | exact va_up_self _ _ _ | assumption)) dX4_init_36 ?_
  refine a_aload_n cx dX4_init_39 rfl rfl ?_
  refine a_iconst cx (v := 2) dX4_init_40 (by decide) ?_
  refine a_newaG cx (atype := .int) (t0 := 1) (N := 2) (66) ((by (repeat rw [va_up_ne _ _ (by decide)]); exact hn _ (by decide) (by decide))) (.inl (fun _ => 0)) ac_int rfl rfl rfl (fun _ => rfl) (by decide) (by decide) (Nat.le_of_ble_eq_true rfl) (Nat.le_of_ble_eq_true rfl) (Nat.le_of_ble_eq_true rfl) dX4_init_41 (fun ad9 had_41 => ?_)
  simp (disch := omega) only [← had_41]
  refine pf_X4_25 cx hnm (by first | exact va_up_self _ _ _ | assumption | ((repeat rw [va_up_ne _ _ (by decide)]); first | exact va_up_self _ _ _ | assumption)) dX4_init_43 ?_
  refine a_aload_n cx dX4_init_46 rfl rfl ?_
  refine a_bipush cx (v := 16) dX4_init_47 (by decide) ?_
  refine a_newaG cx (atype := .int) (t0 := 1) (N := 16) (67) ((by (repeat rw [va_up_ne _ _ (by decide)]); exact hn _ (by decide) (by decide))) (.inl (fun _ => 0)) ac_int rfl rfl rfl (fun _ => rfl) (by decide) (by decide) (Nat.le_of_ble_eq_true rfl) (Nat.le_of_ble_eq_true rfl) (Nat.le_of_ble_eq_true rfl) dX4_init_49 (fun ad9 had_49 => ?_)
  simp (disch := omega) only [← had_49]
  refine pf_X4_28 cx hnm (by first | exact va_up_self _ _ _ | assumption | ((repeat rw [va_up_ne _ _ (by decide)]); first | exact va_up_self _ _ _ | assumption)) dX4_init_51 ?_
  refine a_aload_n cx dX4_init_54 rfl rfl ?_
  refine a_iconst cx (v := 2) dX4_init_55 (by decide) ?_
  refine a_newaG cx (atype := .boolean) (t0 := 2) (N := 2) (68) ((by (repeat rw [va_up_ne _ _ (by decide)]); exact hn _ (by decide) (by decide))) (.inl (fun _ => 0)) ac_boolean rfl rfl rfl (fun _ => rfl) (by decide) (by decide) (Nat.le_of_ble_eq_true rfl) (Nat.le_of_ble_eq_true rfl) (Nat.le_of_ble_eq_true rfl) dX4_init_56 (fun ad9 had_56 => ?_)
  simp (disch := omega) only [← had_56]
  refine pf_X4_31 cx hnm (by first | exact va_up_self _ _ _ | assumption | ((repeat rw [va_up_ne _ _ (by decide)]); first | exact va_up_self _ _ _ | assumption)) dX4_init_58 ?_
  refine a_aload_n cx dX4_init_61 rfl rfl ?_
  refine a_iconst cx (v := 2) dX4_init_62 (by decide) ?_
  refine a_newaG cx (atype := .boolean) (t0 := 2) (N := 2) (69) ((by (repeat rw [va_up_ne _ _ (by decide)]); exact hn _ (by decide) (by decide))) (.inl (fun _ => 0)) ac_boolean rfl rfl rfl (fun _ => rfl) (by decide) (by decide) (Nat.le_of_ble_eq_true rfl) (Nat.le_of_ble_eq_true rfl) (Nat.le_of_ble_eq_true rfl) dX4_init_63 (fun ad9 had_63 => ?_)
  simp (disch := omega) only [← had_63]
  refine pf_X4_35 cx hnm (by first | exact va_up_self _ _ _ | assumption | ((repeat rw [va_up_ne _ _ (by decide)]); first | exact va_up_self _ _ _ | assumption)) dX4_init_65 ?_
  refine a_aload_n cx dX4_init_68 rfl rfl ?_
  refine a_bipush cx (v := 8) dX4_init_69 (by decide) ?_
  refine a_newaG cx (atype := .int) (t0 := 1) (N := 8) (70) ((by (repeat rw [va_up_ne _ _ (by decide)]); exact hn _ (by decide) (by decide))) (.inl (fun _ => 0)) ac_int rfl rfl rfl (fun _ => rfl) (by decide) (by decide) (Nat.le_of_ble_eq_true rfl) (Nat.le_of_ble_eq_true rfl) (Nat.le_of_ble_eq_true rfl) dX4_init_71 (fun ad9 had_71 => ?_)
  simp (disch := omega) only [← had_71]
  refine pf_X4_38 cx hnm (by first | exact va_up_self _ _ _ | assumption | ((repeat rw [va_up_ne _ _ (by decide)]); first | exact va_up_self _ _ _ | assumption)) dX4_init_73 ?_
  refine a_aload_n cx dX4_init_76 rfl rfl ?_
  refine a_bipush cx (v := 8) dX4_init_77 (by decide) ?_
  refine a_newaG cx (atype := .int) (t0 := 1) (N := 8) (71) ((by (repeat rw [va_up_ne _ _ (by decide)]); exact hn _ (by decide) (by decide))) (.inl (fun _ => 0)) ac_int rfl rfl rfl (fun _ => rfl) (by decide) (by decide) (Nat.le_of_ble_eq_true rfl) (Nat.le_of_ble_eq_true rfl) (Nat.le_of_ble_eq_true rfl) dX4_init_79 (fun ad9 had_79 => ?_)
  simp (disch := omega) only [← had_79]
  refine pf_X4_41 cx hnm (by first | exact va_up_self _ _ _ | assumption | ((repeat rw [va_up_ne _ _ (by decide)]); first | exact va_up_self _ _ _ | assumption)) dX4_init_81 ?_
  refine a_aload_n cx dX4_init_84 rfl rfl ?_
  refine a_bipush cx (v := 8) dX4_init_85 (by decide) ?_
  refine a_newaG cx (atype := .int) (t0 := 1) (N := 8) (72) ((by (repeat rw [va_up_ne _ _ (by decide)]); exact hn _ (by decide) (by decide))) (.inl (fun _ => 0)) ac_int rfl rfl rfl (fun _ => rfl) (by decide) (by decide) (Nat.le_of_ble_eq_true rfl) (Nat.le_of_ble_eq_true rfl) (Nat.le_of_ble_eq_true rfl) dX4_init_87 (fun ad9 had_87 => ?_)
  simp (disch := omega) only [← had_87]
  refine pf_X4_44 cx hnm (by first | exact va_up_self _ _ _ | assumption | ((repeat rw [va_up_ne _ _ (by decide)]); first | exact va_up_self _ _ _ | assumption)) dX4_init_89 ?_
  refine a_aload_n cx dX4_init_92 rfl rfl ?_
  refine a_bipush cx (v := 8) dX4_init_93 (by decide) ?_
  refine a_newaG cx (atype := .int) (t0 := 1) (N := 8) (73) ((by (repeat rw [va_up_ne _ _ (by decide)]); exact hn _ (by decide) (by decide))) (.inl (fun _ => 0)) ac_int rfl rfl rfl (fun _ => rfl) (by decide) (by decide) (Nat.le_of_ble_eq_true rfl) (Nat.le_of_ble_eq_true rfl) (Nat.le_of_ble_eq_true rfl) dX4_init_95 (fun ad9 had_95 => ?_)
  simp (disch := omega) only [← had_95]
  refine pf_X4_47 cx hnm (by first | exact va_up_self _ _ _ | assumption | ((repeat rw [va_up_ne _ _ (by decide)]); first | exact va_up_self _ _ _ | assumption)) dX4_init_97 ?_
  refine a_aload_n cx dX4_init_100 rfl rfl ?_
  refine a_bipush cx (v := 8) dX4_init_101 (by decide) ?_
  refine a_newaG cx (atype := .int) (t0 := 1) (N := 8) (74) ((by (repeat rw [va_up_ne _ _ (by decide)]); exact hn _ (by decide) (by decide))) (.inl (fun _ => 0)) ac_int rfl rfl rfl (fun _ => rfl) (by decide) (by decide) (Nat.le_of_ble_eq_true rfl) (Nat.le_of_ble_eq_true rfl) (Nat.le_of_ble_eq_true rfl) dX4_init_103 (fun ad9 had_103 => ?_)
  simp (disch := omega) only [← had_103]
  refine pf_X4_50 cx hnm (by first | exact va_up_self _ _ _ | assumption | ((repeat rw [va_up_ne _ _ (by decide)]); first | exact va_up_self _ _ _ | assumption)) dX4_init_105 ?_
  refine a_aload_n cx dX4_init_108 rfl rfl ?_
  refine a_bipush cx (v := 8) dX4_init_109 (by decide) ?_
  refine a_newaG cx (atype := .int) (t0 := 1) (N := 8) (75) ((by (repeat rw [va_up_ne _ _ (by decide)]); exact hn _ (by decide) (by decide))) (.inl (fun _ => 0)) ac_int rfl rfl rfl (fun _ => rfl) (by decide) (by decide) (Nat.le_of_ble_eq_true rfl) (Nat.le_of_ble_eq_true rfl) (Nat.le_of_ble_eq_true rfl) dX4_init_111 (fun ad9 had_111 => ?_)
  simp (disch := omega) only [← had_111]
  refine pf_X4_53 cx hnm (by first | exact va_up_self _ _ _ | assumption | ((repeat rw [va_up_ne _ _ (by decide)]); first | exact va_up_self _ _ _ | assumption)) dX4_init_113 ?_
  refine a_aload_n cx dX4_init_116 rfl rfl ?_
  refine a_bipush cx (v := 8) dX4_init_117 (by decide) ?_
  refine a_newaG cx (atype := .int) (t0 := 1) (N := 8) (76) ((by (repeat rw [va_up_ne _ _ (by decide)]); exact hn _ (by decide) (by decide))) (.inl (fun _ => 0)) ac_int rfl rfl rfl (fun _ => rfl) (by decide) (by decide) (Nat.le_of_ble_eq_true rfl) (Nat.le_of_ble_eq_true rfl) (Nat.le_of_ble_eq_true rfl) dX4_init_119 (fun ad9 had_119 => ?_)
  simp (disch := omega) only [← had_119]
  refine pf_X4_56 cx hnm (by first | exact va_up_self _ _ _ | assumption | ((repeat rw [va_up_ne _ _ (by decide)]); first | exact va_up_self _ _ _ | assumption)) dX4_init_121 ?_
  refine a_aload_n cx dX4_init_124 rfl rfl ?_
  refine a_bipush cx (v := 8) dX4_init_125 (by decide) ?_
  refine a_newaG cx (atype := .int) (t0 := 1) (N := 8) (77) ((by (repeat rw [va_up_ne _ _ (by decide)]); exact hn _ (by decide) (by decide))) (.inl (fun _ => 0)) ac_int rfl rfl rfl (fun _ => rfl) (by decide) (by decide) (Nat.le_of_ble_eq_true rfl) (Nat.le_of_ble_eq_true rfl) (Nat.le_of_ble_eq_true rfl) dX4_init_127 (fun ad9 had_127 => ?_)
  simp (disch := omega) only [← had_127]
  refine pf_X4_59 cx hnm (by first | exact va_up_self _ _ _ | assumption | ((repeat rw [va_up_ne _ _ (by decide)]); first | exact va_up_self _ _ _ | assumption)) dX4_init_129 ?_
  refine a_aload_n cx dX4_init_132 rfl rfl ?_
  refine a_bipush cx (v := 8) dX4_init_133 (by decide) ?_
  refine a_newaG cx (atype := .int) (t0 := 1) (N := 8) (78) ((by (repeat rw [va_up_ne _ _ (by decide)]); exact hn _ (by decide) (by decide))) (.inl (fun _ => 0)) ac_int rfl rfl rfl (fun _ => rfl) (by decide) (by decide) (Nat.le_of_ble_eq_true rfl) (Nat.le_of_ble_eq_true rfl) (Nat.le_of_ble_eq_true rfl) dX4_init_135 (fun ad9 had_135 => ?_)
  simp (disch := omega) only [← had_135]
  refine pf_X4_62 cx hnm (by first | exact va_up_self _ _ _ | assumption | ((repeat rw [va_up_ne _ _ (by decide)]); first | exact va_up_self _ _ _ | assumption)) dX4_init_137 ?_
  refine a_aload_n cx dX4_init_140 rfl rfl ?_
  refine a_bipush cx (v := 8) dX4_init_141 (by decide) ?_
  refine a_newaG cx (atype := .int) (t0 := 1) (N := 8) (79) ((by (repeat rw [va_up_ne _ _ (by decide)]); exact hn _ (by decide) (by decide))) (.inl (fun _ => 0)) ac_int rfl rfl rfl (fun _ => rfl) (by decide) (by decide) (Nat.le_of_ble_eq_true rfl) (Nat.le_of_ble_eq_true rfl) (Nat.le_of_ble_eq_true rfl) dX4_init_143 (fun ad9 had_143 => ?_)
  simp (disch := omega) only [← had_143]
  refine pf_X4_65 cx hnm (by first | exact va_up_self _ _ _ | assumption | ((repeat rw [va_up_ne _ _ (by decide)]); first | exact va_up_self _ _ _ | assumption)) dX4_init_145 ?_
  refine a_aload_n cx dX4_init_148 rfl rfl ?_
  refine a_bipush cx (v := 8) dX4_init_149 (by decide) ?_
  refine a_newaG cx (atype := .int) (t0 := 1) (N := 8) (80) ((by (repeat rw [va_up_ne _ _ (by decide)]); exact hn _ (by decide) (by decide))) (.inl (fun _ => 0)) ac_int rfl rfl rfl (fun _ => rfl) (by decide) (by decide) (Nat.le_of_ble_eq_true rfl) (Nat.le_of_ble_eq_true rfl) (Nat.le_of_ble_eq_true rfl) dX4_init_151 (fun ad9 had_151 => ?_)
  simp (disch := omega) only [← had_151]
  refine pf_X4_68 cx hnm (by first | exact va_up_self _ _ _ | assumption | ((repeat rw [va_up_ne _ _ (by decide)]); first | exact va_up_self _ _ _ | assumption)) dX4_init_153 ?_
  refine a_aload_n cx dX4_init_156 rfl rfl ?_
  refine a_bipush cx (v := 8) dX4_init_157 (by decide) ?_
  refine a_newaG cx (atype := .char) (t0 := 0) (N := 8) (81) ((by (repeat rw [va_up_ne _ _ (by decide)]); exact hn _ (by decide) (by decide))) (.inl (fun _ => 0)) ac_char rfl rfl rfl (fun _ => rfl) (by decide) (by decide) (Nat.le_of_ble_eq_true rfl) (Nat.le_of_ble_eq_true rfl) (Nat.le_of_ble_eq_true rfl) dX4_init_159 (fun ad9 had_159 => ?_)
  simp (disch := omega) only [← had_159]
  refine a_dup cx dX4_init_161 rfl ?_
  refine a_iconst cx (v := 0) dX4_init_162 (by decide) ?_
  refine a_bipush cx (v := 110) dX4_init_163 (by decide) ?_
  refine a_cst cx (0) (va_up_self _ _ _) (rfl) ((by decide)) (by decide) (by first | rfl | decide) dX4_init_165 ?_
  refine a_dup cx dX4_init_166 rfl ?_
  refine a_iconst cx (v := 1) dX4_init_167 (by decide) ?_
  refine a_bipush cx (v := 110) dX4_init_168 (by decide) ?_
  refine a_cst cx (1) (va_up_self _ _ _) (rfl) ((by decide)) (by decide) (by first | rfl | decide) dX4_init_170 ?_
  refine a_dup cx dX4_init_171 rfl ?_
  refine a_iconst cx (v := 2) dX4_init_172 (by decide) ?_
  refine a_bipush cx (v := 110) dX4_init_173 (by decide) ?_
  refine a_cst cx (2) (va_up_self _ _ _) (rfl) ((by decide)) (by decide) (by first | rfl | decide) dX4_init_175 ?_
  refine a_dup cx dX4_init_176 rfl ?_
  refine a_iconst cx (v := 3) dX4_init_177 (by decide) ?_
  refine a_bipush cx (v := 110) dX4_init_178 (by decide) ?_
  refine a_cst cx (3) (va_up_self _ _ _) (rfl) ((by decide)) (by decide) (by first | rfl | decide) dX4_init_180 ?_
  refine a_dup cx dX4_init_181 rfl ?_
  refine a_iconst cx (v := 4) dX4_init_182 (by decide) ?_
  refine a_bipush cx (v := 110) dX4_init_183 (by decide) ?_
  refine a_cst cx (4) (va_up_self _ _ _) (rfl) ((by decide)) (by decide) (by first | rfl | decide) dX4_init_185 ?_
  refine a_dup cx dX4_init_186 rfl ?_
  refine a_iconst cx (v := 5) dX4_init_187 (by decide) ?_
  refine a_bipush cx (v := 110) dX4_init_188 (by decide) ?_
  refine a_cst cx (5) (va_up_self _ _ _) (rfl) ((by decide)) (by decide) (by first | rfl | decide) dX4_init_190 ?_
  refine a_dup cx dX4_init_191 rfl ?_
  refine a_bipush cx (v := 6) dX4_init_192 (by decide) ?_
  refine a_bipush cx (v := 110) dX4_init_194 (by decide) ?_
  refine a_cst cx (6) (va_up_self _ _ _) (rfl) ((by decide)) (by decide) (by first | rfl | decide) dX4_init_196 ?_
  refine a_dup cx dX4_init_197 rfl ?_
  refine a_bipush cx (v := 7) dX4_init_198 (by decide) ?_
  refine a_bipush cx (v := 110) dX4_init_200 (by decide) ?_
  refine a_cst cx (7) (va_up_self _ _ _) (rfl) ((by decide)) (by decide) (by first | rfl | decide) dX4_init_202 ?_
  refine pf_X4_71 cx hnm (by first | exact va_up_self _ _ _ | assumption | ((repeat rw [va_up_ne _ _ (by decide)]); first | exact va_up_self _ _ _ | assumption)) dX4_init_203 ?_
  refine a_aload_n cx dX4_init_206 rfl rfl ?_
  refine a_bipush cx (v := 10) dX4_init_207 (by decide) ?_
  refine a_newaG cx (atype := .boolean) (t0 := 2) (N := 10) (82) ((by (repeat rw [va_up_ne _ _ (by decide)]); exact hn _ (by decide) (by decide))) (.inl (fun _ => 0)) ac_boolean rfl rfl rfl (fun _ => rfl) (by decide) (by decide) (Nat.le_of_ble_eq_true rfl) (Nat.le_of_ble_eq_true rfl) (Nat.le_of_ble_eq_true rfl) dX4_init_209 (fun ad9 had_209 => ?_)
  simp (disch := omega) only [← had_209]
  refine pf_X4_75 cx hnm (by first | exact va_up_self _ _ _ | assumption | ((repeat rw [va_up_ne _ _ (by decide)]); first | exact va_up_self _ _ _ | assumption)) dX4_init_211 ?_
  refine a_aload_n cx dX4_init_214 rfl rfl ?_
  refine a_bipush cx (v := 10) dX4_init_215 (by decide) ?_
  refine a_newaG cx (atype := .boolean) (t0 := 2) (N := 10) (83) ((by (repeat rw [va_up_ne _ _ (by decide)]); exact hn _ (by decide) (by decide))) (.inl (fun _ => 0)) ac_boolean rfl rfl rfl (fun _ => rfl) (by decide) (by decide) (Nat.le_of_ble_eq_true rfl) (Nat.le_of_ble_eq_true rfl) (Nat.le_of_ble_eq_true rfl) dX4_init_217 (fun ad9 had_217 => ?_)
  simp (disch := omega) only [← had_217]
  refine pf_X4_78 cx hnm (by first | exact va_up_self _ _ _ | assumption | ((repeat rw [va_up_ne _ _ (by decide)]); first | exact va_up_self _ _ _ | assumption)) dX4_init_219 ?_
  refine a_vret cx hr dX4_init_222 (Nat.le_of_ble_eq_true rfl) (Nat.le_of_ble_eq_true rfl) ⟨fun x9 hx9 => ?_, rfl, ?_⟩
  · simp (disch := omega) only [had_217, had_209, had_159, had_151, had_143, had_135, had_127, had_119, had_111, had_103, had_95, had_87, had_79, had_71, had_63, had_56, had_49, had_41, had_34, had_27, had_20, had_13, had_6]
  · funext x9
    rcases (show x9 = 60 ∨ (61 ≤ x9 ∧ x9 < 84) ∨ (x9 ≠ 60 ∧ ¬ (61 ≤ x9 ∧ x9 < 84)) by omega) with h60 | hr9 | ⟨h60, hr9⟩
    · subst h60
      simp [tMod, up_eval]
    · rcases rng23 hr9 with rfl | rfl | rfl | rfl | rfl | rfl | rfl | rfl | rfl | rfl | rfl | rfl | rfl | rfl | rfl | rfl | rfl | rfl | rfl | rfl | rfl | rfl | rfl <;> simp [tMod, up_eval, ob, pl0]
    · unfold tMod
      rw [if_neg h60, if_neg hr9]
      repeat rw [va_up_ne _ _ (by omega)]

