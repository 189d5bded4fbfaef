def mQ (C : ME) (b k : Nat) : Int32 := C 67 (8 * b + k)
def mLf (C : ME) (b : Nat) : Nat → Int32 := fun k => C 75 (tn (mQ C b k))
def mOn (C : ME) (b : Nat) : Int32 := match kFst (mNq C b) (mLf C b) with
  | none => -1
  | some k => mQ C b k
theorem q8 {b k : Nat} (hb : b < 2) (hk : k < 100) : 8 * nI b + nI k = nI (8 * b + k) := by
  rcases (show b = 0 ∨ b = 1 by omega) with rfl | rfl
  · rw [show (8 : Int32) * nI 0 = nI 0 from rfl, nI_add]
  · rw [show (8 : Int32) * nI 1 = nI 8 from rfl, nI_add]
theorem mQ_ix {C : ME} (hI : mI C) {b k : Nat} (hb : b < 2) (hk : k < mNq C b) : C 67 (8 * b + k) = nI (tn (mQ C b k)) ∧ tn (mQ C b k) < mNp C := by
  obtain ⟨q, h1, h2⟩ := (hI.2.2.2.2.1 b hb).2.2 k hk
  have h8 := hI.2.2.2.1
  unfold mQ
  rw [h2, tn_nI (by omega)]
  exact ⟨rfl, h1⟩
theorem mOn_n {C : ME} {b : Nat} (h : kFst (mNq C b) (mLf C b) = none) : mOn C b = -1 := by unfold mOn; rw [h]
theorem mOn_s {C : ME} (hI : mI C) {b k : Nat} (hb : b < 2) (h : kFst (mNq C b) (mLf C b) = some k) : mOn C b = nI (tn (mQ C b k)) ∧ tn (mQ C b k) < mNp C := by
  have hk := (fsti_some h).2.1
  have e : mOn C b = mQ C b k := by unfold mOn; rw [h]
  rw [e]
  exact mQ_ix hI hb (by omega)
set_option maxHeartbeats 4000000 in
set_option maxRecDepth 100000 in
/-- isOn(b) -/
theorem sp_X4_isOn {l : Launch} {g : GW} {ad : AD} {τ : RH} {Lv : Nat → Bool} {C : ME} {ρ : RH} {b9 : Int32} {b : Nat} (hH : HH g ad Lv C ρ τ) (hL : mL Lv) (hI : mI C) (hb9 : b9 = nI b) (hb : b < 2) : Sp l g yX4_isOn (.code yX4_isOn cX4_isOn 3 (some .int)) (rmv 0 0 0) [.ref (ad 60), .int b9] ad τ 0 0 (fun v ad' τ' => v = some (.int (mOn C b)) ∧ ad' = ad ∧ τ' = τ) (NoX) := by
  refine Sp.of 1 [some (.ref (ad 60)), some (.int b9), none] (by decide +kernel) (Nat.le_of_ble_eq_true rfl) rfl ?_
  intro p e s m args below meth c A cx hout hr hnm
  have hM := M_obj hH hL
  have hR := M_row hH hL
  subst hb9
  have hnq := hI.2.2.2.2.1 b hb
  refine a_iconst cx (v := 0) dX4_isOn_0 (by decide) ?_
  refine a_istore_n2 cx dX4_isOn_1 rfl (by decide) (by intro w h; first | (cases h; rfl) | (cases h; assumption) | (cases h; done)) ?_
  refine a_loop (σ := Nat) (fun f k => k + f = mNq C b ∧ fsti (kPos (mLf C b)) f k = kFst (mNq C b) (mLf C b)) (fun _ => ad) (fun _ => τ) (fun k => [some (.ref (ad 60)), some (.int (nI b)), some (.int (nI k))]) (mNq C b) 0 ⟨Nat.zero_add _, rfl⟩ rfl rfl rfl ?_
  rintro f k ⟨hk, hx⟩ ih
  try dsimp only
  refine a_iload_n cx dX4_isOn_2 rfl rfl ?_
  refine a_aload_n cx dX4_isOn_3 rfl rfl ?_
  refine gf_X4_25 cx hM dX4_isOn_4 ?_
  refine a_iload_n cx dX4_isOn_7 rfl rfl ?_
  refine a_ild cx (b) (by exact hR _ (by decide) (by decide)) (rfl) (hb) (by decide) dX4_isOn_8 ?_
  refine a_icmp_ge cx (tgt := 49) dX4_isOn_9 (by decide) (fun c_9 => ?_) (fun c_9 => ?_)
  · refine a_iconst cx (v := -1) dX4_isOn_49 (by decide) ?_
    exact a_iret cx hr dX4_isOn_50 (Nat.le_of_ble_eq_true rfl) (Nat.le_of_ble_eq_true rfl) ⟨vI (by rw [hnq.1] at c_9; have h9 := le_nI c_9 (by omega) (by omega); have hz : f = 0 := (by omega); subst hz; unfold mOn; rw [← hx]; rfl), rfl, rfl⟩
  · have hkn : k < mNq C b := by
      rcases Nat.lt_or_ge k (mNq C b) with h9 | h9
      · exact h9
      · exact absurd (by rw [hnq.1]; exact nI_le h9 (by omega)) c_9
    obtain ⟨f, rfl⟩ : ∃ f9, f = f9 + 1 := ⟨f - 1, by omega⟩
    unfold fsti at hx
    refine a_aload_n cx dX4_isOn_12 rfl rfl ?_
    refine gf_X4_53 cx hM dX4_isOn_13 ?_
    refine a_aload_n cx dX4_isOn_16 rfl rfl ?_
    refine gf_X4_28 cx hM dX4_isOn_17 ?_
    refine a_bipush cx (v := 8) dX4_isOn_20 (by decide) ?_
    refine a_iload_n cx dX4_isOn_22 rfl rfl ?_
    refine a_imul cx dX4_isOn_23 ?_
    refine a_iload_n cx dX4_isOn_24 rfl rfl ?_
    refine a_iadd cx dX4_isOn_25 ?_
    refine a_ild cx (8 * b + k) (by exact hR _ (by decide) (by decide)) (q8 hb (by omega)) ((show 8 * b + k < 16 by omega)) (by decide) dX4_isOn_26 ?_
    refine a_ild cx (tn (mQ C b k)) (by exact hR _ (by decide) (by decide)) ((mQ_ix hI hb hkn).1) ((by have := (mQ_ix hI hb hkn).2; have := hI.2.2.2.1; omega)) (by decide) dX4_isOn_27 ?_
    refine a_if_le cx (tgt := 43) dX4_isOn_28 (by decide) (fun c_28 => ?_) (fun c_28 => ?_)
    · refine a_iinc2 cx (nI (k + 1)) dX4_isOn_43 (nI_1 k) (by decide) (by intro w h; first | (cases h; rfl) | (cases h; assumption) | (cases h; done)) ?_
      refine a_goto cx (tgt := 2) dX4_isOn_46 (by decide) ?_
      rw [if_neg (show ¬ kPos (mLf C b) k = true from fun h => le_not_pos c_28 (of_decide_eq_true h))] at hx
      exact ih f (k + 1) (Nat.lt_succ_self f) ⟨by omega, hx⟩
    · refine a_aload_n cx dX4_isOn_31 rfl rfl ?_
      refine gf_X4_28 cx hM dX4_isOn_32 ?_
      refine a_bipush cx (v := 8) dX4_isOn_35 (by decide) ?_
      refine a_iload_n cx dX4_isOn_37 rfl rfl ?_
      refine a_imul cx dX4_isOn_38 ?_
      refine a_iload_n cx dX4_isOn_39 rfl rfl ?_
      refine a_iadd cx dX4_isOn_40 ?_
      refine a_ild cx (8 * b + k) (by exact hR _ (by decide) (by decide)) (q8 hb (by omega)) ((show 8 * b + k < 16 by omega)) (by decide) dX4_isOn_41 ?_
      exact a_iret cx hr dX4_isOn_42 (Nat.le_of_ble_eq_true rfl) (Nat.le_of_ble_eq_true rfl) ⟨vI (by rw [if_pos (show kPos (mLf C b) k = true from decide_eq_true (not_le_pos c_28))] at hx; unfold mOn; rw [← hx]; rfl), rfl, rfl⟩

def mWhyJ (C : ME) (b j : Nat) : Int32 := if ¬ C 69 b = 0 then 102 else if C 82 (tn (C 71 j)) = 0 then 116 else if C 83 (tn (C 71 j)) = 0 then 112 else if ¬ (C 81 j = 98 ∧ ¬ C 80 j = 0) then 115 else if C 62 b < C 64 b + C 74 j then 100 else 45
def mWhy (C : ME) (b : Nat) : Int32 := match kFst (mNq C b) (mLf C b) with
  | none => 113
  | some k => mWhyJ C b (tn (mQ C b k))
theorem mWhy_n {C : ME} {b : Nat} (h : kFst (mNq C b) (mLf C b) = none) : mWhy C b = 113 := by unfold mWhy; rw [h]
theorem mWhy_s {C : ME} {b k : Nat} (h : kFst (mNq C b) (mLf C b) = some k) : mWhy C b = mWhyJ C b (tn (mQ C b k)) := by unfold mWhy; rw [h]
theorem mU_ix {C : ME} (hI : mI C) {j : Nat} (hj : j < mNp C) : C 71 j = nI (tn (C 71 j)) ∧ tn (C 71 j) < 10 := by
  obtain ⟨-, u, h1, h2⟩ := hI.2.2.2.2.2 j hj
  rw [h2, tn_nI (by omega)]
  exact ⟨rfl, h1⟩
set_option maxHeartbeats 4000000 in
set_option maxRecDepth 100000 in
/-- why(b) -/
theorem sp_X4_why {l : Launch} {g : GW} {ad : AD} {τ : RH} {Lv : Nat → Bool} {C : ME} {ρ : RH} {b9 : Int32} {b : Nat} (hH : HH g ad Lv C ρ τ) (hL : mL Lv) (hI : mI C) (hb9 : b9 = nI b) (hb : b < 2) : Sp l g yX4_why (.code yX4_why cX4_why 3 (some .char)) (rmv 1 0 0) [.ref (ad 60), .int b9] ad τ 0 0 (fun v ad' τ' => v = some (.int (mWhy C b)) ∧ ad' = ad ∧ τ' = τ) (NoX) := by
  refine Sp.of 1 [some (.ref (ad 60)), some (.int b9), none] (by decide +kernel) (Nat.le_of_ble_eq_true rfl) rfl ?_
  intro p e s m args below meth c A cx hout hr hnm
  have hM := M_obj hH hL
  have hR := M_row hH hL
  subst hb9
  refine a_aload_n cx dX4_why_0 rfl rfl ?_
  refine a_iload_n cx dX4_why_1 rfl rfl ?_
  refine a_callV cx 1 (sp_X4_isOn hH hL hI rfl hb) hM rfl ml_X4_123 im_X4_isOn se_X4_isOn ini_X4 cd_X4_isOn rfl rfl (by decide +kernel) rfl rfl ⟨(Nat.le_of_ble_eq_true rfl), (Nat.le_of_ble_eq_true rfl)⟩ (Nat.le_of_ble_eq_true rfl) dX4_why_2 ⟨(Nat.le_of_ble_eq_true rfl), (Nat.le_of_ble_eq_true rfl)⟩ (fun _ _ _ h => h.elim) (fun v9 ad9 τ9 hP => ?_)
  obtain ⟨rfl, h2, h3⟩ := hP
  replace h2 := h2.symm
  subst h2
  replace h3 := h3.symm
  subst h3
  rcases hq : kFst (mNq C b) (mLf C b) with _ | k
  · refine a_int (mOn_n hq) ?_
    refine a_istore_n2 cx dX4_why_5 rfl (by decide) (by intro w h; first | (cases h; rfl) | (cases h; assumption) | (cases h; done)) ?_
    refine a_iload_n cx dX4_why_6 rfl rfl ?_
    refine a_iconst cx (v := -1) dX4_why_7 (by decide) ?_
    refine a_icmp_ne cx (tgt := 14) dX4_why_8 (by decide) (fun c_8 => absurd rfl c_8) (fun c_8 => ?_)
    refine a_bipush cx (v := 113) dX4_why_11 (by decide) ?_
    exact a_zret cx hr dX4_why_13 (by first | rfl | decide) (Nat.le_of_ble_eq_true rfl) (Nat.le_of_ble_eq_true rfl) ⟨vI (mWhy_n hq).symm, rfl, rfl⟩
  · obtain ⟨e9, hj⟩ := mOn_s hI hb hq
    generalize hjj : tn (mQ C b k) = j at e9 hj
    refine a_int e9 ?_
    have hj8 : j < 8 := by have := hI.2.2.2.1; omega
    refine a_istore_n2 cx dX4_why_5 rfl (by decide) (by intro w h; first | (cases h; rfl) | (cases h; assumption) | (cases h; done)) ?_
    refine a_iload_n cx dX4_why_6 rfl rfl ?_
    refine a_iconst cx (v := -1) dX4_why_7 (by decide) ?_
    refine a_icmp_ne cx (tgt := 14) dX4_why_8 (by decide) (fun c_8 => ?_) (fun c_8 => absurd c_8 (nI_ne1 (by omega)))
    refine a_aload_n cx dX4_why_14 rfl rfl ?_
    refine gf_X4_35 cx hM dX4_why_15 ?_
    refine a_iload_n cx dX4_why_18 rfl rfl ?_
    refine a_zld cx (b) (by exact hR _ (by decide) (by decide)) (rfl) (hb) (by decide) dX4_why_19 ?_
    refine a_if_eq cx (tgt := 26) dX4_why_20 (by decide) (fun c_20 => ?_) (fun c_20 => ?_)
    · refine a_aload_n cx dX4_why_26 rfl rfl ?_
      refine gf_X4_75 cx hM dX4_why_27 ?_
      refine a_aload_n cx dX4_why_30 rfl rfl ?_
      refine gf_X4_41 cx hM dX4_why_31 ?_
      refine a_iload_n cx dX4_why_34 rfl rfl ?_
      refine a_ild cx (j) (by exact hR _ (by decide) (by decide)) (rfl) (hj8) (by decide) dX4_why_35 ?_
      refine a_zld cx (tn (C 71 j)) (by exact hR _ (by decide) (by decide)) ((mU_ix hI hj).1) ((mU_ix hI hj).2) (by decide) dX4_why_36 ?_
      refine a_if_ne cx (tgt := 43) dX4_why_37 (by decide) (fun c_37 => ?_) (fun c_37 => ?_)
      · refine a_aload_n cx dX4_why_43 rfl rfl ?_
        refine gf_X4_78 cx hM dX4_why_44 ?_
        refine a_aload_n cx dX4_why_47 rfl rfl ?_
        refine gf_X4_41 cx hM dX4_why_48 ?_
        refine a_iload_n cx dX4_why_51 rfl rfl ?_
        refine a_ild cx (j) (by exact hR _ (by decide) (by decide)) (rfl) (hj8) (by decide) dX4_why_52 ?_
        refine a_zld cx (tn (C 71 j)) (by exact hR _ (by decide) (by decide)) ((mU_ix hI hj).1) ((mU_ix hI hj).2) (by decide) dX4_why_53 ?_
        refine a_if_ne cx (tgt := 60) dX4_why_54 (by decide) (fun c_54 => ?_) (fun c_54 => ?_)
        · refine a_aload_n cx dX4_why_60 rfl rfl ?_
          refine gf_X4_71 cx hM dX4_why_61 ?_
          refine a_iload_n cx dX4_why_64 rfl rfl ?_
          refine a_cld cx (j) (by exact hR _ (by decide) (by decide)) (rfl) (hj8) (by decide) dX4_why_65 ?_
          refine a_bipush cx (v := 98) dX4_why_66 (by decide) ?_
          refine a_icmp_ne cx (tgt := 80) dX4_why_68 (by decide) (fun c_68 => ?_) (fun c_68 => ?_)
          · refine a_bipush cx (v := 115) dX4_why_80 (by decide) ?_
            exact a_zret cx hr dX4_why_82 (by first | rfl | decide) (Nat.le_of_ble_eq_true rfl) (Nat.le_of_ble_eq_true rfl) ⟨vI (by rw [mWhy_s hq, hjj]; unfold mWhyJ; rw [if_neg (fun h => h c_20), if_neg c_37, if_neg c_54, if_pos (fun h => c_68 h.1)]), rfl, rfl⟩
          · refine a_aload_n cx dX4_why_71 rfl rfl ?_
            refine gf_X4_68 cx hM dX4_why_72 ?_
            refine a_iload_n cx dX4_why_75 rfl rfl ?_
            refine a_ild cx (j) (by exact hR _ (by decide) (by decide)) (rfl) (hj8) (by decide) dX4_why_76 ?_
            refine a_if_ne cx (tgt := 83) dX4_why_77 (by decide) (fun c_77 => ?_) (fun c_77 => ?_)
            · refine a_aload_n cx dX4_why_83 rfl rfl ?_
              refine gf_X4_19 cx hM dX4_why_84 ?_
              refine a_iload_n cx dX4_why_87 rfl rfl ?_
              refine a_ild cx (b) (by exact hR _ (by decide) (by decide)) (rfl) (hb) (by decide) dX4_why_88 ?_
              refine a_aload_n cx dX4_why_89 rfl rfl ?_
              refine gf_X4_50 cx hM dX4_why_90 ?_
              refine a_iload_n cx dX4_why_93 rfl rfl ?_
              refine a_ild cx (j) (by exact hR _ (by decide) (by decide)) (rfl) (hj8) (by decide) dX4_why_94 ?_
              refine a_iadd cx dX4_why_95 ?_
              refine a_aload_n cx dX4_why_96 rfl rfl ?_
              refine gf_X4_13 cx hM dX4_why_97 ?_
              refine a_iload_n cx dX4_why_100 rfl rfl ?_
              refine a_ild cx (b) (by exact hR _ (by decide) (by decide)) (rfl) (hb) (by decide) dX4_why_101 ?_
              refine a_icmp_le cx (tgt := 110) dX4_why_102 (by decide) (fun c_102 => ?_) (fun c_102 => ?_)
              · refine a_bipush cx (v := 45) dX4_why_110 (by decide) ?_
                exact a_zret cx hr dX4_why_112 (by first | rfl | decide) (Nat.le_of_ble_eq_true rfl) (Nat.le_of_ble_eq_true rfl) ⟨vI (by rw [mWhy_s hq, hjj]; unfold mWhyJ; rw [if_neg (fun h => h c_20), if_neg c_37, if_neg c_54, if_neg (fun h => h ⟨c_68, c_77⟩), if_neg (fun h => lt_ge h c_102)]), rfl, rfl⟩
              · refine a_bipush cx (v := 100) dX4_why_105 (by decide) ?_
                refine a_goto cx (tgt := 112) dX4_why_107 (by decide) ?_
                exact a_zret cx hr dX4_why_112 (by first | rfl | decide) (Nat.le_of_ble_eq_true rfl) (Nat.le_of_ble_eq_true rfl) ⟨vI (by rw [mWhy_s hq, hjj]; unfold mWhyJ; rw [if_neg (fun h => h c_20), if_neg c_37, if_neg c_54, if_neg (fun h => h ⟨c_68, c_77⟩), if_pos (le_gt c_102)]), rfl, rfl⟩
            · refine a_bipush cx (v := 115) dX4_why_80 (by decide) ?_
              exact a_zret cx hr dX4_why_82 (by first | rfl | decide) (Nat.le_of_ble_eq_true rfl) (Nat.le_of_ble_eq_true rfl) ⟨vI (by rw [mWhy_s hq, hjj]; unfold mWhyJ; rw [if_neg (fun h => h c_20), if_neg c_37, if_neg c_54, if_pos (fun h => h.2 c_77)]), rfl, rfl⟩
        · refine a_bipush cx (v := 112) dX4_why_57 (by decide) ?_
          exact a_zret cx hr dX4_why_59 (by first | rfl | decide) (Nat.le_of_ble_eq_true rfl) (Nat.le_of_ble_eq_true rfl) ⟨vI (by rw [mWhy_s hq, hjj]; unfold mWhyJ; rw [if_neg (fun h => h c_20), if_neg c_37, if_pos c_54]), rfl, rfl⟩
      · refine a_bipush cx (v := 116) dX4_why_40 (by decide) ?_
        exact a_zret cx hr dX4_why_42 (by first | rfl | decide) (Nat.le_of_ble_eq_true rfl) (Nat.le_of_ble_eq_true rfl) ⟨vI (by rw [mWhy_s hq, hjj]; unfold mWhyJ; rw [if_neg (fun h => h c_20), if_pos c_37]), rfl, rfl⟩
    · refine a_bipush cx (v := 102) dX4_why_23 (by decide) ?_
      exact a_zret cx hr dX4_why_25 (by first | rfl | decide) (Nat.le_of_ble_eq_true rfl) (Nat.le_of_ble_eq_true rfl) ⟨vI (by rw [mWhy_s hq, hjj]; unfold mWhyJ; rw [if_pos c_20]), rfl, rfl⟩

theorem mWhy_in (C : ME) (b : Nat) : mWhy C b ∈ ([113, 102, 116, 112, 115, 100, 45] : List Int32) := by
  unfold mWhy
  split
  · decide
  · unfold mWhyJ
    repeat' split
    all_goals decide
theorem mWhy_nar (C : ME) (b : Nat) : narrow .char (.int (mWhy C b)) = .int (mWhy C b) := by
  have h := mWhy_in C b
  revert h
  generalize mWhy C b = x
  intro h
  simp only [List.mem_cons, List.mem_nil_iff, or_false] at h
  rcases h with rfl | rfl | rfl | rfl | rfl | rfl | rfl <;> rfl
def jOn (C : ME) (b : Int32) : Int32 := if okm (mNb C) b then (if ¬ mOn C (tn b) = -1 then (0) else 2) else 1
set_option maxHeartbeats 4000000 in
set_option maxRecDepth 100000 in
/-- model: on -/
theorem sp_X4_on {l : Launch} {g : GW} {ad : AD} {τ : RH} {Lv : Nat → Bool} {C : ME} {ρ : RH} {b : Int32} (hH : HH g ad Lv C ρ τ) (hL : mL Lv) (hI : mI C) : Sp l g yX4_on (.code yX4_on cX4_on 2 (some .int)) (rmv 4 0 0) [.ref (ad 60), .int b] ad τ 0 0 (fun v ad' τ' => (∃ w, v = some (.int w) ∧ (jOn C b = 0 → w = mOn C (tn b))) ∧ ad' = ad ∧ HH g ad Lv (up2 (if jOn C b = 0 then C else C) 60 0 (jOn C b)) ρ τ') (NoX) := by
  refine Sp.of 0 [some (.ref (ad 60)), some (.int b)] (by decide +kernel) (Nat.le_of_ble_eq_true rfl) rfl ?_
  intro p e s m args below meth c A cx hout hr hnm
  have hM := M_obj hH hL
  have hR := M_row hH hL
  refine a_aload_n cx dX4_on_0 rfl rfl ?_
  refine a_iload_n cx dX4_on_1 rfl rfl ?_
  refine a_callV cx 1 (sp_X4_isLine (b := b) hH hL hI) hM rfl ml_X4_102 im_X4_isLine se_X4_isLine ini_X4 cd_X4_isLine rfl rfl (by decide +kernel) rfl rfl ⟨(Nat.le_of_ble_eq_true rfl), (Nat.le_of_ble_eq_true rfl)⟩ (Nat.le_of_ble_eq_true rfl) dX4_on_2 ⟨(Nat.le_of_ble_eq_true rfl), (Nat.le_of_ble_eq_true rfl)⟩ (fun _ _ _ h => h.elim) (fun v9 ad9 τ9 hP => ?_)
  obtain ⟨⟨w2, rfl, hw2⟩, h2, h3⟩ := hP
  replace h2 := h2.symm
  subst h2
  replace h3 := h3.symm
  subst h3
  replace hw2 := w_if hw2
  refine a_if_ne cx (tgt := 14) dX4_on_5 (by decide) (fun c_5 => ?_) (fun c_5 => ?_)
  · refine a_aload_n cx dX4_on_14 rfl rfl ?_
    refine a_iload_n cx dX4_on_15 rfl rfl ?_
    refine a_callV cx 1 (sp_X4_isOn hH hL hI (okm_ix (hw2.2 c_5) (by have := hI.2.1; omega)).1 (by have h9 := (okm_ix (hw2.2 c_5) (by have := hI.2.1; omega)).2; have := hI.2.1; omega)) hM rfl ml_X4_123 im_X4_isOn se_X4_isOn ini_X4 cd_X4_isOn rfl rfl (by decide +kernel) rfl rfl ⟨(Nat.le_of_ble_eq_true rfl), (Nat.le_of_ble_eq_true rfl)⟩ (Nat.le_of_ble_eq_true rfl) dX4_on_16 ⟨(Nat.le_of_ble_eq_true rfl), (Nat.le_of_ble_eq_true rfl)⟩ (fun _ _ _ h => h.elim) (fun v9 ad9 τ9 hP => ?_)
    obtain ⟨rfl, h2, h3⟩ := hP
    replace h2 := h2.symm
    subst h2
    replace h3 := h3.symm
    subst h3
    refine a_iconst cx (v := -1) dX4_on_19 (by decide) ?_
    refine a_icmp_ne cx (tgt := 31) dX4_on_20 (by decide) (fun c_20 => ?_) (fun c_20 => ?_)
    · refine a_aload_n cx dX4_on_31 rfl rfl ?_
      refine a_aload_n cx dX4_on_32 rfl rfl ?_
      refine a_iload_n cx dX4_on_33 rfl rfl ?_
      refine a_callV cx 1 (sp_X4_isOn hH hL hI (okm_ix (hw2.2 c_5) (by have := hI.2.1; omega)).1 (by have h9 := (okm_ix (hw2.2 c_5) (by have := hI.2.1; omega)).2; have := hI.2.1; omega)) hM rfl ml_X4_123 im_X4_isOn se_X4_isOn ini_X4 cd_X4_isOn rfl rfl (by decide +kernel) rfl rfl ⟨(Nat.le_of_ble_eq_true rfl), (Nat.le_of_ble_eq_true rfl)⟩ (Nat.le_of_ble_eq_true rfl) dX4_on_34 ⟨(Nat.le_of_ble_eq_true rfl), (Nat.le_of_ble_eq_true rfl)⟩ (fun _ _ _ h => h.elim) (fun v9 ad9 τ9 hP => ?_)
      obtain ⟨rfl, h2, h3⟩ := hP
      replace h2 := h2.symm
      subst h2
      replace h3 := h3.symm
      subst h3
      refine a_callV cx 1 (sp_X4_tells hH hL) hM rfl ml_X4_99 im_X4_tells se_X4_tells ini_X4 cd_X4_tells rfl rfl (by decide +kernel) rfl rfl ⟨(Nat.le_of_ble_eq_true rfl), (Nat.le_of_ble_eq_true rfl)⟩ (Nat.le_of_ble_eq_true rfl) dX4_on_37 ⟨(Nat.le_of_ble_eq_true rfl), (Nat.le_of_ble_eq_true rfl)⟩ (fun _ _ _ h => h.elim) (fun v9 ad9 τ9 hP => ?_)
      obtain ⟨rfl, h2, hH⟩ := hP
      replace h2 := h2.symm
      subst h2
      exact a_iret cx hr dX4_on_40 (Nat.le_of_ble_eq_true rfl) (Nat.le_of_ble_eq_true rfl) ⟨⟨_, rfl, fun _ => rfl⟩, rfl, m_ok (show jOn C b = 0 from (by unfold jOn; rw [if_pos (hw2.2 c_5), if_pos (c_20)])) hH⟩
    · refine a_aload_n cx dX4_on_23 rfl rfl ?_
      refine a_iconst cx (v := 2) dX4_on_24 (by decide) ?_
      refine a_callV cx 1 (sp_X4_fails (k := 2) hH hL) hM rfl ml_X4_95 im_X4_fails se_X4_fails ini_X4 cd_X4_fails rfl rfl (by decide +kernel) rfl rfl ⟨(Nat.le_of_ble_eq_true rfl), (Nat.le_of_ble_eq_true rfl)⟩ (Nat.le_of_ble_eq_true rfl) dX4_on_25 ⟨(Nat.le_of_ble_eq_true rfl), (Nat.le_of_ble_eq_true rfl)⟩ (fun _ _ _ h => h.elim) (fun v9 ad9 τ9 hP => ?_)
      obtain ⟨rfl, h2, hH⟩ := hP
      replace h2 := h2.symm
      subst h2
      refine a_goto cx (tgt := 40) dX4_on_28 (by decide) ?_
      exact a_iret cx hr dX4_on_40 (Nat.le_of_ble_eq_true rfl) (Nat.le_of_ble_eq_true rfl) ⟨⟨_, rfl, fun q => absurd (((show jOn C b = 2 from (by unfold jOn; rw [if_pos (hw2.2 c_5), if_neg (fun h => h c_20)]))).symm.trans q) (by decide)⟩, rfl, m_no (show jOn C b = 2 from (by unfold jOn; rw [if_pos (hw2.2 c_5), if_neg (fun h => h c_20)])) (by decide) hH⟩
  · refine a_aload_n cx dX4_on_8 rfl rfl ?_
    refine a_iconst cx (v := 1) dX4_on_9 (by decide) ?_
    refine a_callV cx 1 (sp_X4_fails (k := 1) hH hL) hM rfl ml_X4_95 im_X4_fails se_X4_fails ini_X4 cd_X4_fails rfl rfl (by decide +kernel) rfl rfl ⟨(Nat.le_of_ble_eq_true rfl), (Nat.le_of_ble_eq_true rfl)⟩ (Nat.le_of_ble_eq_true rfl) dX4_on_10 ⟨(Nat.le_of_ble_eq_true rfl), (Nat.le_of_ble_eq_true rfl)⟩ (fun _ _ _ h => h.elim) (fun v9 ad9 τ9 hP => ?_)
    obtain ⟨rfl, h2, hH⟩ := hP
    replace h2 := h2.symm
    subst h2
    exact a_iret cx hr dX4_on_13 (Nat.le_of_ble_eq_true rfl) (Nat.le_of_ble_eq_true rfl) ⟨⟨_, rfl, fun q => absurd (((show jOn C b = 1 from (by unfold jOn; rw [if_neg (hw2.1 c_5)]))).symm.trans q) (by decide)⟩, rfl, m_no (show jOn C b = 1 from (by unfold jOn; rw [if_neg (hw2.1 c_5)])) (by decide) hH⟩

set_option maxHeartbeats 4000000 in
set_option maxRecDepth 100000 in
/-- model: reason -/
theorem sp_X4_reason {l : Launch} {g : GW} {ad : AD} {τ : RH} {Lv : Nat → Bool} {C : ME} {ρ : RH} {b : Int32} (hH : HH g ad Lv C ρ τ) (hL : mL Lv) (hI : mI C) : Sp l g yX4_reason (.code yX4_reason cX4_reason 2 (some .char)) (rmv 4 0 0) [.ref (ad 60), .int b] ad τ 0 0 (fun v ad' τ' => (∃ w, v = some (.int w) ∧ (jLine C b = 0 → w = mWhy C (tn b))) ∧ ad' = ad ∧ HH g ad Lv (up2 (if jLine C b = 0 then C else C) 60 0 (jLine C b)) ρ τ') (NoX) := by
  refine Sp.of 0 [some (.ref (ad 60)), some (.int b)] (by decide +kernel) (Nat.le_of_ble_eq_true rfl) rfl ?_
  intro p e s m args below meth c A cx hout hr hnm
  have hM := M_obj hH hL
  have hR := M_row hH hL
  refine a_aload_n cx dX4_reason_0 rfl rfl ?_
  refine a_aload_n cx dX4_reason_1 rfl rfl ?_
  refine a_iload_n cx dX4_reason_2 rfl rfl ?_
  refine a_callV cx 1 (sp_X4_isLine (b := b) hH hL hI) hM rfl ml_X4_102 im_X4_isLine se_X4_isLine ini_X4 cd_X4_isLine rfl rfl (by decide +kernel) rfl rfl ⟨(Nat.le_of_ble_eq_true rfl), (Nat.le_of_ble_eq_true rfl)⟩ (Nat.le_of_ble_eq_true rfl) dX4_reason_3 ⟨(Nat.le_of_ble_eq_true rfl), (Nat.le_of_ble_eq_true rfl)⟩ (fun _ _ _ h => h.elim) (fun v9 ad9 τ9 hP => ?_)
  obtain ⟨⟨w3, rfl, hw3⟩, h2, h3⟩ := hP
  replace h2 := h2.symm
  subst h2
  replace h3 := h3.symm
  subst h3
  replace hw3 := w_if hw3
  refine a_if_eq cx (tgt := 13) dX4_reason_6 (by decide) (fun c_6 => ?_) (fun c_6 => ?_)
  · refine a_iconst cx (v := 1) dX4_reason_13 (by decide) ?_
    refine pf_X4_81 cx hM dX4_reason_14 ?_
    refine a_HH (hH.put (r := 60) (0) _ (by decide) (hL 60 (by decide) (by decide)) rfl) (fun τ hH => ?_)
    have hR := M_row hH hL
    have hM := M_obj hH hL
    refine a_aload_n cx dX4_reason_17 rfl rfl ?_
    refine gf_X4_81 cx hM dX4_reason_18 ?_
    refine a_if_ne cx (tgt := 32) dX4_reason_21 (by decide) (fun c_21 => ?_) (fun c_21 => absurd (show (1 : Int32) = 0 from c_21) (by decide))
    refine a_bipush cx (v := 97) dX4_reason_32 (by decide) ?_
    exact a_zret cx hr dX4_reason_34 (by first | rfl | decide) (Nat.le_of_ble_eq_true rfl) (Nat.le_of_ble_eq_true rfl) ⟨⟨_, rfl, fun q => absurd (((show jLine C b = 1 from (by unfold jLine; rw [if_neg (hw3.1 c_6)]))).symm.trans q) (by decide)⟩, rfl, m_no (show jLine C b = 1 from (by unfold jLine; rw [if_neg (hw3.1 c_6)])) (by decide) hH⟩
  · refine a_iconst cx (v := 0) dX4_reason_9 (by decide) ?_
    refine a_goto cx (tgt := 14) dX4_reason_10 (by decide) ?_
    refine pf_X4_81 cx hM dX4_reason_14 ?_
    refine a_HH (hH.put (r := 60) (0) _ (by decide) (hL 60 (by decide) (by decide)) rfl) (fun τ hH => ?_)
    have hR := M_row hH hL
    have hM := M_obj hH hL
    refine a_aload_n cx dX4_reason_17 rfl rfl ?_
    refine gf_X4_81 cx hM dX4_reason_18 ?_
    refine a_if_ne cx (tgt := 32) dX4_reason_21 (by decide) (fun c_21 => absurd (show (0 : Int32) = 0 from rfl) c_21) (fun c_21 => ?_)
    refine a_aload_n cx dX4_reason_24 rfl rfl ?_
    refine a_iload_n cx dX4_reason_25 rfl rfl ?_
    refine a_callV cx 1 (sp_X4_why hH hL (show mI (up2 C 60 0 0) from hI) (okm_ix (hw3.2 c_6) (by have := hI.2.1; omega)).1 (by have h9 := (okm_ix (hw3.2 c_6) (by have := hI.2.1; omega)).2; have := hI.2.1; omega)) hM rfl ml_X4_126 im_X4_why se_X4_why ini_X4 cd_X4_why rfl rfl (by decide +kernel) rfl rfl ⟨(Nat.le_of_ble_eq_true rfl), (Nat.le_of_ble_eq_true rfl)⟩ (Nat.le_of_ble_eq_true rfl) dX4_reason_26 ⟨(Nat.le_of_ble_eq_true rfl), (Nat.le_of_ble_eq_true rfl)⟩ (fun _ _ _ h => h.elim) (fun v9 ad9 τ9 hP => ?_)
    obtain ⟨rfl, h2, h3⟩ := hP
    replace h2 := h2.symm
    subst h2
    replace h3 := h3.symm
    subst h3
    refine a_goto cx (tgt := 34) dX4_reason_29 (by decide) ?_
    exact a_zret cx hr dX4_reason_34 (mWhy_nar (up2 C 60 0 0) _) (Nat.le_of_ble_eq_true rfl) (Nat.le_of_ble_eq_true rfl) ⟨⟨_, rfl, fun _ => rfl⟩, rfl, m_ok (show jLine C b = 0 from (by unfold jLine; rw [if_pos (hw3.2 c_6)])) hH⟩

def jFail (C : ME) (b : Int32) : Int32 := if okm (mNb C) b then (if C 69 (tn b) = 0 then (0) else 2) else 1
set_option maxHeartbeats 4000000 in
set_option maxRecDepth 100000 in
/-- model: fail -/
theorem sp_X4_fail {l : Launch} {g : GW} {ad : AD} {τ : RH} {Lv : Nat → Bool} {C : ME} {ρ : RH} {b : Int32} (hH : HH g ad Lv C ρ τ) (hL : mL Lv) (hI : mI C) : Sp l g yX4_fail (.code yX4_fail cX4_fail 2 (some .boolean)) (rmv 4 0 0) [.ref (ad 60), .int b] ad τ 0 0 (fun v ad' τ' => (∃ w, v = some (.int w) ∧ (jFail C b = 0 → w = (if mOn C (tn b) = -1 then 0 else 1))) ∧ ad' = ad ∧ HH g ad Lv (up2 (if jFail C b = 0 then up2 C 69 (tn b) 1 else C) 60 0 (jFail C b)) ρ τ') (NoX) := by
  refine Sp.of 0 [some (.ref (ad 60)), some (.int b)] (by decide +kernel) (Nat.le_of_ble_eq_true rfl) rfl ?_
  intro p e s m args below meth c A cx hout hr hnm
  have hM := M_obj hH hL
  have hR := M_row hH hL
  refine a_aload_n cx dX4_fail_0 rfl rfl ?_
  refine a_iload_n cx dX4_fail_1 rfl rfl ?_
  refine a_callV cx 1 (sp_X4_isLine (b := b) hH hL hI) hM rfl ml_X4_102 im_X4_isLine se_X4_isLine ini_X4 cd_X4_isLine rfl rfl (by decide +kernel) rfl rfl ⟨(Nat.le_of_ble_eq_true rfl), (Nat.le_of_ble_eq_true rfl)⟩ (Nat.le_of_ble_eq_true rfl) dX4_fail_2 ⟨(Nat.le_of_ble_eq_true rfl), (Nat.le_of_ble_eq_true rfl)⟩ (fun _ _ _ h => h.elim) (fun v9 ad9 τ9 hP => ?_)
  obtain ⟨⟨w2, rfl, hw2⟩, h2, h3⟩ := hP
  replace h2 := h2.symm
  subst h2
  replace h3 := h3.symm
  subst h3
  replace hw2 := w_if hw2
  refine a_if_ne cx (tgt := 15) dX4_fail_5 (by decide) (fun c_5 => ?_) (fun c_5 => ?_)
  · refine a_aload_n cx dX4_fail_15 rfl rfl ?_
    refine gf_X4_35 cx hM dX4_fail_16 ?_
    refine a_iload_n cx dX4_fail_19 rfl rfl ?_
    refine a_zld cx (tn b) (by exact hR _ (by decide) (by decide)) ((okm_ix (hw2.2 c_5) (by have := hI.2.1; omega)).1) ((by have h9 := (okm_ix (hw2.2 c_5) (by have := hI.2.1; omega)).2; have := hI.2.1; omega)) (by decide) dX4_fail_20 ?_
    refine a_if_eq cx (tgt := 31) dX4_fail_21 (by decide) (fun c_21 => ?_) (fun c_21 => ?_)
    · refine a_aload_n cx dX4_fail_31 rfl rfl ?_
      refine gf_X4_35 cx hM dX4_fail_32 ?_
      refine a_iload_n cx dX4_fail_35 rfl rfl ?_
      refine a_iconst cx (v := 1) dX4_fail_36 (by decide) ?_
      refine a_zst cx (tn b) (by exact hR _ (by decide) (by decide)) ((okm_ix (hw2.2 c_5) (by have := hI.2.1; omega)).1) ((by have h9 := (okm_ix (hw2.2 c_5) (by have := hI.2.1; omega)).2; have := hI.2.1; omega)) (by decide) (by first | rfl | decide) dX4_fail_37 ?_
      refine a_HH (hH.put (r := 69) (tn b) _ (by decide) (hL 69 (by decide) (by decide)) rfl) (fun τ hH => ?_)
      have hR := M_row hH hL
      have hM := M_obj hH hL
      refine a_aload_n cx dX4_fail_38 rfl rfl ?_
      refine a_iconst cx (v := 0) dX4_fail_39 (by decide) ?_
      refine a_aload_n cx dX4_fail_40 rfl rfl ?_
      refine a_iload_n cx dX4_fail_41 rfl rfl ?_
      refine a_callV cx 1 (sp_X4_isOn hH hL (show mI (up2 C 69 (tn b) 1) from hI) (okm_ix (hw2.2 c_5) (by have := hI.2.1; omega)).1 (by have h9 := (okm_ix (hw2.2 c_5) (by have := hI.2.1; omega)).2; have := hI.2.1; omega)) hM rfl ml_X4_123 im_X4_isOn se_X4_isOn ini_X4 cd_X4_isOn rfl rfl (by decide +kernel) rfl rfl ⟨(Nat.le_of_ble_eq_true rfl), (Nat.le_of_ble_eq_true rfl)⟩ (Nat.le_of_ble_eq_true rfl) dX4_fail_42 ⟨(Nat.le_of_ble_eq_true rfl), (Nat.le_of_ble_eq_true rfl)⟩ (fun _ _ _ h => h.elim) (fun v9 ad9 τ9 hP => ?_)
      obtain ⟨rfl, h2, h3⟩ := hP
      replace h2 := h2.symm
      subst h2
      replace h3 := h3.symm
      subst h3
      refine a_iconst cx (v := -1) dX4_fail_45 (by decide) ?_
      refine a_icmp_eq cx (tgt := 53) dX4_fail_46 (by decide) (fun c_46 => ?_) (fun c_46 => ?_)
      · refine a_iconst cx (v := 0) dX4_fail_53 (by decide) ?_
        refine a_callV cx 2 (sp_X4_asks (k := 0) hH hL) hM rfl ml_X4_112 im_X4_asks se_X4_asks ini_X4 cd_X4_asks rfl rfl (by decide +kernel) rfl rfl ⟨(Nat.le_of_ble_eq_true rfl), (Nat.le_of_ble_eq_true rfl)⟩ (Nat.le_of_ble_eq_true rfl) dX4_fail_54 ⟨(Nat.le_of_ble_eq_true rfl), (Nat.le_of_ble_eq_true rfl)⟩ (fun _ _ _ h => h.elim) (fun v9 ad9 τ9 hP => ?_)
        obtain ⟨rfl, h2, hH⟩ := hP
        replace h2 := h2.symm
        subst h2
        exact a_zret cx hr dX4_fail_57 (by split <;> rfl) (Nat.le_of_ble_eq_true rfl) (Nat.le_of_ble_eq_true rfl) ⟨⟨_, rfl, fun _ => (by rw [if_pos (show mOn C (tn b) = -1 from c_46)]; rfl)⟩, rfl, m_ok (show jFail C b = 0 from (by unfold jFail; rw [if_pos (hw2.2 c_5), if_pos (c_21)])) hH⟩
      · refine a_iconst cx (v := 1) dX4_fail_49 (by decide) ?_
        refine a_goto cx (tgt := 54) dX4_fail_50 (by decide) ?_
        refine a_callV cx 2 (sp_X4_asks (k := 0) hH hL) hM rfl ml_X4_112 im_X4_asks se_X4_asks ini_X4 cd_X4_asks rfl rfl (by decide +kernel) rfl rfl ⟨(Nat.le_of_ble_eq_true rfl), (Nat.le_of_ble_eq_true rfl)⟩ (Nat.le_of_ble_eq_true rfl) dX4_fail_54 ⟨(Nat.le_of_ble_eq_true rfl), (Nat.le_of_ble_eq_true rfl)⟩ (fun _ _ _ h => h.elim) (fun v9 ad9 τ9 hP => ?_)
        obtain ⟨rfl, h2, hH⟩ := hP
        replace h2 := h2.symm
        subst h2
        exact a_zret cx hr dX4_fail_57 (by split <;> rfl) (Nat.le_of_ble_eq_true rfl) (Nat.le_of_ble_eq_true rfl) ⟨⟨_, rfl, fun _ => (by rw [if_neg (show ¬ mOn C (tn b) = -1 from c_46)]; rfl)⟩, rfl, m_ok (show jFail C b = 0 from (by unfold jFail; rw [if_pos (hw2.2 c_5), if_pos (c_21)])) hH⟩
    · refine a_aload_n cx dX4_fail_24 rfl rfl ?_
      refine a_iconst cx (v := 2) dX4_fail_25 (by decide) ?_
      refine a_iconst cx (v := 0) dX4_fail_26 (by decide) ?_
      refine a_callV cx 2 (sp_X4_asks (k := 2) hH hL) hM rfl ml_X4_112 im_X4_asks se_X4_asks ini_X4 cd_X4_asks rfl rfl (by decide +kernel) rfl rfl ⟨(Nat.le_of_ble_eq_true rfl), (Nat.le_of_ble_eq_true rfl)⟩ (Nat.le_of_ble_eq_true rfl) dX4_fail_27 ⟨(Nat.le_of_ble_eq_true rfl), (Nat.le_of_ble_eq_true rfl)⟩ (fun _ _ _ h => h.elim) (fun v9 ad9 τ9 hP => ?_)
      obtain ⟨rfl, h2, hH⟩ := hP
      replace h2 := h2.symm
      subst h2
      exact a_zret cx hr dX4_fail_30 (by split <;> rfl) (Nat.le_of_ble_eq_true rfl) (Nat.le_of_ble_eq_true rfl) ⟨⟨_, rfl, fun q => absurd (((show jFail C b = 2 from (by unfold jFail; rw [if_pos (hw2.2 c_5), if_neg (c_21)]))).symm.trans q) (by decide)⟩, rfl, m_no (show jFail C b = 2 from (by unfold jFail; rw [if_pos (hw2.2 c_5), if_neg (c_21)])) (by decide) hH⟩
  · refine a_aload_n cx dX4_fail_8 rfl rfl ?_
    refine a_iconst cx (v := 1) dX4_fail_9 (by decide) ?_
    refine a_iconst cx (v := 0) dX4_fail_10 (by decide) ?_
    refine a_callV cx 2 (sp_X4_asks (k := 1) hH hL) hM rfl ml_X4_112 im_X4_asks se_X4_asks ini_X4 cd_X4_asks rfl rfl (by decide +kernel) rfl rfl ⟨(Nat.le_of_ble_eq_true rfl), (Nat.le_of_ble_eq_true rfl)⟩ (Nat.le_of_ble_eq_true rfl) dX4_fail_11 ⟨(Nat.le_of_ble_eq_true rfl), (Nat.le_of_ble_eq_true rfl)⟩ (fun _ _ _ h => h.elim) (fun v9 ad9 τ9 hP => ?_)
    obtain ⟨rfl, h2, hH⟩ := hP
    replace h2 := h2.symm
    subst h2
    exact a_zret cx hr dX4_fail_14 (by split <;> rfl) (Nat.le_of_ble_eq_true rfl) (Nat.le_of_ble_eq_true rfl) ⟨⟨_, rfl, fun q => absurd (((show jFail C b = 1 from (by unfold jFail; rw [if_neg (hw2.1 c_5)]))).symm.trans q) (by decide)⟩, rfl, m_no (show jFail C b = 1 from (by unfold jFail; rw [if_neg (hw2.1 c_5)])) (by decide) hH⟩

def isK (C : ME) (p : Nat) : Int32 := if C 81 p = 99 then 1 else 0
def mCold (C : ME) : Int32 := sumf (isK C) (mNp C) 0 0
def ouJ (C : ME) (u : Int32) (p : Nat) : Int32 := if C 71 p = u then C 79 p else 0
def mOwed (C : ME) (u : Int32) : Int32 := sumf (ouJ C u) (mNp C) 0 0
set_option maxHeartbeats 4000000 in
set_option maxRecDepth 100000 in
/-- cold() -/
theorem sp_X4_cold {l : Launch} {g : GW} {ad : AD} {τ : RH} {Lv : Nat → Bool} {C : ME} {ρ : RH} (hH : HH g ad Lv C ρ τ) (hL : mL Lv) (hI : mI C) : Sp l g yX4_cold (.code yX4_cold cX4_cold 3 (some .int)) (rmv 0 0 0) [.ref (ad 60)] ad τ 0 0 (fun v ad' τ' => v = some (.int (mCold C)) ∧ ad' = ad ∧ τ' = τ) (NoX) := by
  refine Sp.of 2 [some (.ref (ad 60)), none, none] (by decide +kernel) (Nat.le_of_ble_eq_true rfl) rfl ?_
  intro p e s m args below meth c A cx hout hr hnm
  have hM := M_obj hH hL
  have hR := M_row hH hL
  refine a_iconst cx (v := 0) dX4_cold_0 (by decide) ?_
  refine a_istore_n1 cx dX4_cold_1 rfl (by decide) (by intro w h; first | (cases h; rfl) | (cases h; assumption) | (cases h; done)) ?_
  refine a_iconst cx (v := 0) dX4_cold_2 (by decide) ?_
  refine a_istore_n2 cx dX4_cold_3 rfl (by decide) (by intro w h; first | (cases h; rfl) | (cases h; assumption) | (cases h; done)) ?_
  refine a_loop (σ := Nat × Int32) (fun f s => s.1 + f = mNp C ∧ sumf (isK C) f s.1 s.2 = mCold C) (fun _ => ad) (fun _ => τ) (fun s => [some (.ref (ad 60)), some (.int s.2), some (.int (nI s.1))]) (mNp C) (0, 0) ⟨Nat.zero_add _, rfl⟩ rfl rfl rfl ?_
  rintro f ⟨i, x⟩ ⟨hi, hx⟩ ih
  dsimp only at hi hx ⊢
  refine a_iload_n cx dX4_cold_4 rfl rfl ?_
  refine a_aload_n cx dX4_cold_5 rfl rfl ?_
  refine gf_X4_92 cx hM dX4_cold_6 ?_
  refine a_icmp_ge cx (tgt := 37) dX4_cold_9 (by decide) (fun c_9 => ?_) (fun c_9 => ?_)
  · refine a_iload_n cx dX4_cold_37 rfl rfl ?_
    exact a_iret cx hr dX4_cold_38 (Nat.le_of_ble_eq_true rfl) (Nat.le_of_ble_eq_true rfl) ⟨vI (by have hz : f = 0 := (by rw [hI.2.2.1] at c_9; have := le_nI c_9 (by have := hI.2.2.2.1; omega) (by have := hI.2.2.2.1; omega); omega); subst hz; exact hx), rfl, rfl⟩
  · have hin : i < mNp C := by
      rcases Nat.lt_or_ge i (mNp C) with h9 | h9
      · exact h9
      · exact absurd (by rw [hI.2.2.1]; exact nI_le h9 (by have := hI.2.2.2.1; omega)) c_9
    have hi8 : i < 8 := by have := hI.2.2.2.1; omega
    obtain ⟨f, rfl⟩ : ∃ f9, f = f9 + 1 := ⟨f - 1, by omega⟩
    refine a_iload_n cx dX4_cold_12 rfl rfl ?_
    refine a_aload_n cx dX4_cold_13 rfl rfl ?_
    refine gf_X4_71 cx hM dX4_cold_14 ?_
    refine a_iload_n cx dX4_cold_17 rfl rfl ?_
    refine a_cld cx (i) (by exact hR _ (by decide) (by decide)) (rfl) (hi8) (by decide) dX4_cold_18 ?_
    refine a_bipush cx (v := 99) dX4_cold_19 (by decide) ?_
    refine a_icmp_ne cx (tgt := 28) dX4_cold_21 (by decide) (fun c_21 => ?_) (fun c_21 => ?_)
    · refine a_iconst cx (v := 0) dX4_cold_28 (by decide) ?_
      refine a_iadd cx dX4_cold_29 ?_
      refine a_istore_n1 cx dX4_cold_30 rfl (by decide) (by intro w h; first | (cases h; rfl) | (cases h; assumption) | (cases h; done)) ?_
      refine a_iinc2 cx (nI (i + 1)) dX4_cold_31 (nI_1 i) (by decide) (by intro w h; first | (cases h; rfl) | (cases h; assumption) | (cases h; done)) ?_
      refine a_goto cx (tgt := 4) dX4_cold_34 (by decide) ?_
      have hx9 : sumf (isK C) f (i + 1) (x + 0) = mCold C := by rw [← hx]; show _ = sumf (isK C) f (i + 1) (x + isK C i); rw [show isK C i = 0 from if_neg c_21]
      exact ih f (i + 1, x + 0) (Nat.lt_succ_self f) ⟨by omega, hx9⟩
    · refine a_iconst cx (v := 1) dX4_cold_24 (by decide) ?_
      refine a_goto cx (tgt := 29) dX4_cold_25 (by decide) ?_
      refine a_iadd cx dX4_cold_29 ?_
      refine a_istore_n1 cx dX4_cold_30 rfl (by decide) (by intro w h; first | (cases h; rfl) | (cases h; assumption) | (cases h; done)) ?_
      refine a_iinc2 cx (nI (i + 1)) dX4_cold_31 (nI_1 i) (by decide) (by intro w h; first | (cases h; rfl) | (cases h; assumption) | (cases h; done)) ?_
      refine a_goto cx (tgt := 4) dX4_cold_34 (by decide) ?_
      have hx9 : sumf (isK C) f (i + 1) (x + 1) = mCold C := by rw [← hx]; show _ = sumf (isK C) f (i + 1) (x + isK C i); rw [show isK C i = 1 from if_pos c_21]
      exact ih f (i + 1, x + 1) (Nat.lt_succ_self f) ⟨by omega, hx9⟩

set_option maxHeartbeats 4000000 in
set_option maxRecDepth 100000 in
/-- owedTo(u) -/
theorem sp_X4_owedTo {l : Launch} {g : GW} {ad : AD} {τ : RH} {Lv : Nat → Bool} {C : ME} {ρ : RH} {u : Int32} (hH : HH g ad Lv C ρ τ) (hL : mL Lv) (hI : mI C) : Sp l g yX4_owedTo (.code yX4_owedTo cX4_owedTo 4 (some .int)) (rmv 0 0 0) [.ref (ad 60), .int u] ad τ 0 0 (fun v ad' τ' => v = some (.int (mOwed C u)) ∧ ad' = ad ∧ τ' = τ) (NoX) := by
  refine Sp.of 2 [some (.ref (ad 60)), some (.int u), none, none] (by decide +kernel) (Nat.le_of_ble_eq_true rfl) rfl ?_
  intro p e s m args below meth c A cx hout hr hnm
  have hM := M_obj hH hL
  have hR := M_row hH hL
  refine a_iconst cx (v := 0) dX4_owedTo_0 (by decide) ?_
  refine a_istore_n2 cx dX4_owedTo_1 rfl (by decide) (by intro w h; first | (cases h; rfl) | (cases h; assumption) | (cases h; done)) ?_
  refine a_iconst cx (v := 0) dX4_owedTo_2 (by decide) ?_
  refine a_istore_n3 cx dX4_owedTo_3 rfl (by decide) (by intro w h; first | (cases h; rfl) | (cases h; assumption) | (cases h; done)) ?_
  refine a_loop (σ := Nat × Int32) (fun f s => s.1 + f = mNp C ∧ sumf (ouJ C u) f s.1 s.2 = mOwed C u) (fun _ => ad) (fun _ => τ) (fun s => [some (.ref (ad 60)), some (.int u), some (.int s.2), some (.int (nI s.1))]) (mNp C) (0, 0) ⟨Nat.zero_add _, rfl⟩ rfl rfl rfl ?_
  rintro f ⟨i, x⟩ ⟨hi, hx⟩ ih
  dsimp only at hi hx ⊢
  refine a_iload_n cx dX4_owedTo_4 rfl rfl ?_
  refine a_aload_n cx dX4_owedTo_5 rfl rfl ?_
  refine gf_X4_92 cx hM dX4_owedTo_6 ?_
  refine a_icmp_ge cx (tgt := 41) dX4_owedTo_9 (by decide) (fun c_9 => ?_) (fun c_9 => ?_)
  · refine a_iload_n cx dX4_owedTo_41 rfl rfl ?_
    exact a_iret cx hr dX4_owedTo_42 (Nat.le_of_ble_eq_true rfl) (Nat.le_of_ble_eq_true rfl) ⟨vI (by have hz : f = 0 := (by rw [hI.2.2.1] at c_9; have := le_nI c_9 (by have := hI.2.2.2.1; omega) (by have := hI.2.2.2.1; omega); omega); subst hz; exact hx), rfl, rfl⟩
  · have hin : i < mNp C := by
      rcases Nat.lt_or_ge i (mNp C) with h9 | h9
      · exact h9
      · exact absurd (by rw [hI.2.2.1]; exact nI_le h9 (by have := hI.2.2.2.1; omega)) c_9
    have hi8 : i < 8 := by have := hI.2.2.2.1; omega
    obtain ⟨f, rfl⟩ : ∃ f9, f = f9 + 1 := ⟨f - 1, by omega⟩
    refine a_iload_n cx dX4_owedTo_12 rfl rfl ?_
    refine a_aload_n cx dX4_owedTo_13 rfl rfl ?_
    refine gf_X4_41 cx hM dX4_owedTo_14 ?_
    refine a_iload_n cx dX4_owedTo_17 rfl rfl ?_
    refine a_ild cx (i) (by exact hR _ (by decide) (by decide)) (rfl) (hi8) (by decide) dX4_owedTo_18 ?_
    refine a_iload_n cx dX4_owedTo_19 rfl rfl ?_
    refine a_icmp_ne cx (tgt := 32) dX4_owedTo_20 (by decide) (fun c_20 => ?_) (fun c_20 => ?_)
    · refine a_iconst cx (v := 0) dX4_owedTo_32 (by decide) ?_
      refine a_iadd cx dX4_owedTo_33 ?_
      refine a_istore_n2 cx dX4_owedTo_34 rfl (by decide) (by intro w h; first | (cases h; rfl) | (cases h; assumption) | (cases h; done)) ?_
      refine a_iinc3 cx (nI (i + 1)) dX4_owedTo_35 (nI_1 i) (by decide) (by intro w h; first | (cases h; rfl) | (cases h; assumption) | (cases h; done)) ?_
      refine a_goto cx (tgt := 4) dX4_owedTo_38 (by decide) ?_
      have hx9 : sumf (ouJ C u) f (i + 1) (x + 0) = mOwed C u := by rw [← hx]; show _ = sumf (ouJ C u) f (i + 1) (x + ouJ C u i); rw [show ouJ C u i = 0 from if_neg c_20]
      exact ih f (i + 1, x + 0) (Nat.lt_succ_self f) ⟨by omega, hx9⟩
    · refine a_aload_n cx dX4_owedTo_23 rfl rfl ?_
      refine gf_X4_65 cx hM dX4_owedTo_24 ?_
      refine a_iload_n cx dX4_owedTo_27 rfl rfl ?_
      refine a_ild cx (i) (by exact hR _ (by decide) (by decide)) (rfl) (hi8) (by decide) dX4_owedTo_28 ?_
      refine a_goto cx (tgt := 33) dX4_owedTo_29 (by decide) ?_
      refine a_iadd cx dX4_owedTo_33 ?_
      refine a_istore_n2 cx dX4_owedTo_34 rfl (by decide) (by intro w h; first | (cases h; rfl) | (cases h; assumption) | (cases h; done)) ?_
      refine a_iinc3 cx (nI (i + 1)) dX4_owedTo_35 (nI_1 i) (by decide) (by intro w h; first | (cases h; rfl) | (cases h; assumption) | (cases h; done)) ?_
      refine a_goto cx (tgt := 4) dX4_owedTo_38 (by decide) ?_
      have hx9 : sumf (ouJ C u) f (i + 1) (x + C 79 i) = mOwed C u := by rw [← hx]; show _ = sumf (ouJ C u) f (i + 1) (x + ouJ C u i); rw [show ouJ C u i = C 79 i from if_pos c_20]
      exact ih f (i + 1, x + C 79 i) (Nat.lt_succ_self f) ⟨by omega, hx9⟩

