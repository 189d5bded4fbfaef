/-! the replay -/
abbrev K3 : Type := Nat × (Nat → Int32) × Int32
def kAl (q : K3) (w : Int32) : K3 := ((kAllot q.1 q.2.1 q.2.2 w).1, (kAllot q.1 q.2.1 q.2.2 w).2.1, (kAllot q.1 q.2.1 q.2.2 w).2.2.1)
def kFo (q : K3) (kd : Int32) : K3 := (q.1, (kFollow q.1 q.2.1 q.2.2 kd).1, (kFollow q.1 q.2.1 q.2.2 kd).2.1)
def rpA (w : Nat → Int32) : Nat → Nat → K3 → K3
  | 0, _, q => q
  | f + 1, i, q => rpA w f (i + 1) (kAl q (w i))
def rpF (kd : Nat → Int32) : Nat → Nat → K3 → K3
  | 0, _, q => q
  | f + 1, i, q => rpF kd f (i + 1) (kFo q (kd i))
theorem kAl_8 {q : K3} {w : Int32} (h : q.1 ≤ 8) : (kAl q w).1 ≤ 8 := by
  unfold kAl kAllot
  dsimp only
  split
  · exact h
  · omega
def oK (C : ME) (b : Nat) (q : K3) : ME := oCal C (15 + 10 * b) q.1 q.2.1 q.2.2
def cAll (C : ME) (b : Nat) : K3 := rpA (fun i => C (40 + tn (C (12 + 10 * b) i)) 4) (cNq C b) 0 (0, C (16 + 10 * b), C (10 + 10 * b) 0)
def cReplay (C : ME) (b : Nat) : K3 := rpF (C (17 + 10 * b)) (tn (C (10 + 10 * b) 6)) 0 (cAll C b)
theorem oCal_2 (C : ME) (r n n' : Nat) (f f' : Nat → Int32) (rs rs' : Int32) : oCal (oCal C r n f rs) r n' f' rs' = oCal C r n' f' rs' := by
  unfold oCal
  rw [va_up_self, up_com _ _ _ (show r ≠ r + 1 by omega), up_up, up_up, up_com _ rs (nI n') (by decide : 2 ≠ 1), up_up, up_up]
theorem oK_2 (C : ME) (b : Nat) (q q' : K3) : oCal (oK C b q) (15 + 10 * b) q'.1 q'.2.1 q'.2.2 = oK C b q' := oCal_2 _ _ _ _ _ _ _ _
theorem oK_ne (C : ME) {b : Nat} (q : K3) {r : Nat} (h : r ≠ 15 + 10 * b) (h2 : r ≠ 16 + 10 * b) : oK C b q r = C r := by
  unfold oK oCal
  rw [va_up_ne _ _ h, va_up_ne _ _ (by omega)]
theorem cE_k {C : ME} {b : Nat} {q : K3} (hb : b < 2) (hn : q.1 ≤ 8) : cE C (oK C b q) := by
  have e : oK C b q = up2 (up2 (va_up C (15 + 10 * b + 1) q.2.1) (15 + 10 * b) 1 (nI q.1)) (15 + 10 * b) 2 q.2.2 := by
    unfold oK oCal up2
    rw [va_up_self, up_up, va_up_ne _ _ (by omega : 15 + 10 * b ≠ 15 + 10 * b + 1)]
  rw [e]
  exact ((cE.row (fun k hk => absurd hk (by unfold cT; omega))).trans (cE.anew hb hn)).trans (cE.put (by unfold cT; omega))
theorem H_k {g : GW} {ad : AD} {Lv : Nat → Bool} {C : ME} {ρ τ : RH} {b : Nat} {q : K3} (hH : HH g ad Lv (oK C b q) ρ τ) (hb : b < 2) (h1 : Lv (15 + 10 * b) = true) (h2 : Lv (16 + 10 * b) = true) : τ (10 + 10 * b + 5) = some (calO ad (10 + 10 * b + 6) q.1 q.2.2) ∧ τ (10 + 10 * b + 6) = some (arI g 8 q.2.1) := by
  rw [show 10 + 10 * b + 5 = 15 + 10 * b by omega, show 10 + 10 * b + 6 = 16 + 10 * b by omega]
  constructor
  · rw [hH.at (by omega) h1, ob_anew hb]
    unfold oK oCal
    rw [va_up_self, show 16 + 10 * b = 15 + 10 * b + 1 by omega]
    rfl
  · rw [hH.at (by omega) h2, ob_anewL hb]
    unfold oK oCal
    rw [va_up_ne _ _ (by omega : 16 + 10 * b ≠ 15 + 10 * b), show 16 + 10 * b = 15 + 10 * b + 1 by omega, va_up_self]
theorem HH.k {g : GW} {ad : AD} {Lv : Nat → Bool} {C : ME} {ρ τ : RH} {b : Nat} {q q' : K3} (hH : HH g ad Lv (oK C b q) ρ τ) (hb : b < 2) (h1 : Lv (15 + 10 * b) = true) (h2 : Lv (16 + 10 * b) = true) : HH g ad Lv (oK C b q') ρ (va_up (va_up τ (10 + 10 * b + 6) (some (arI g 8 q'.2.1))) (10 + 10 * b + 5) (some (calO ad (10 + 10 * b + 6) q'.1 q'.2.2))) := by
  have h := hH.anew (b := b) (n := q'.1) (f := q'.2.1) (rs := q'.2.2) hb h1 h2
  rw [oK_2] at h
  exact h
theorem H_anew' {g : GW} {ad : AD} {Lv : Nat → Bool} {C : ME} {ρ τ : RH} (hH : HH g ad Lv C ρ τ) (hI : cI Lv C) {b : Nat} (hb : b < cNb C) : ∃ na, τ (10 + 10 * b + 5) = some (calO ad (10 + 10 * b + 6) na (C (15 + 10 * b) 2)) ∧ τ (10 + 10 * b + 6) = some (arI g 8 (C (16 + 10 * b))) ∧ na ≤ 8 := by
  obtain ⟨⟨-, -, -, h1, h2, -, -, -, -, ⟨na, h3, h4⟩, -⟩, hb2⟩ := cI_lin hI hb
  rw [show 10 + 10 * b + 5 = 15 + 10 * b by omega, show 10 + 10 * b + 6 = 16 + 10 * b by omega]
  refine ⟨na, ?_, by rw [hH.at (by omega) h2, ob_anewL hb2], h3⟩
  rw [hH.at (by omega) h1, ob_anew hb2, show 16 + 10 * b = 15 + 10 * b + 1 by omega]
  unfold caO calO
  rw [h4]
set_option maxHeartbeats 4000000 in
set_option maxRecDepth 100000 in
/-- replay() -/
theorem sp_X0_replay {l : Launch} {g : GW} {ad : AD} {τ : RH} {Lv : Nat → Bool} {C : ME} {ρ : RH} {b : Nat} (hH : HH g ad Lv C ρ τ) (hI : cI Lv C) (hb : b < cNb C) : Sp l g yX0_replay (.code yX0_replay cX0_replay 2 none) (rmv 5 0 0) [.ref (ad (10 + 10 * b))] ad τ 0 0 (fun v ad' τ' => v = none ∧ ad' = ad ∧ HH g ad Lv (oK C b (cReplay C b)) ρ τ') (NoX) := by
  refine Sp.of 1 [some (.ref (ad (10 + 10 * b))), none] (by decide +kernel) (Nat.le_of_ble_eq_true rfl) rfl ?_
  intro p e s m args below meth c A cx hout hr hnm
  have hB := H_beam hH hI hb
  obtain ⟨hL, hb2⟩ := cI_lin hI hb
  have hL15 := hL.2.2.2.1
  have hL16 := hL.2.2.2.2.1
  obtain ⟨na, ha, hal, hna⟩ := H_anew' hH hI hb
  have hqn := hL.2.2.2.2.2.2.1
  obtain ⟨ps, hps, hps2⟩ := hL.2.2.2.2.2.2.2.2.2.2.1
  refine a_aload_n cx dX0_replay_0 rfl rfl ?_
  refine gf_X0_25 cx hB dX0_replay_1 ?_
  refine a_aload_n cx dX0_replay_4 rfl rfl ?_
  refine gf_X0_49 cx hB dX0_replay_5 ?_
  refine a_callV cx 1 (sp_X1_begin (lf := fun _ => 0) (w := C (10 + 10 * b) 0) ha) ha rfl ml_X0_55 im_X1_begin se_X1_begin ini_X1 cd_X1_begin rfl rfl (by decide +kernel) rfl rfl ⟨(Nat.le_of_ble_eq_true rfl), (Nat.le_of_ble_eq_true rfl)⟩ (Nat.le_of_ble_eq_true rfl) dX0_replay_8 ⟨(Nat.le_of_ble_eq_true rfl), (Nat.le_of_ble_eq_true rfl)⟩ (fun _ _ _ h => h.elim) (fun v9 ad9 τ9 hP9 => ?_)
  obtain ⟨rfl, h2, h3⟩ := hP9
  replace h2 := h2.symm
  subst h2
  replace h3 := h3.symm
  subst h3
  have hH1 := hH.anew (b := b) (n := 0) (f := C (16 + 10 * b)) (rs := C (10 + 10 * b) 0) hb2 hL15 hL16
  rw [up_some hal] at hH1
  refine a_iconst cx (v := 0) dX0_replay_11 (by decide) ?_
  refine a_istore_n1 cx dX0_replay_12 rfl (by decide) (by intro w h; first | (cases h; rfl) | (cases h; assumption) | (cases h; done)) ?_
  refine a_loop (σ := Nat × K3 × RH) (fun f s => s.1 + f = cNq C b ∧ s.2.1.1 ≤ 8 ∧ HH g ad Lv (oK C b s.2.1) ρ s.2.2 ∧ rpA (fun i => C (40 + tn (C (12 + 10 * b) i)) 4) f s.1 s.2.1 = cAll C b) (fun _ => ad) (fun s => s.2.2) (fun s => [some (.ref (ad (10 + 10 * b))), some (.int (nI s.1))]) (cNq C b) (0, (0, C (16 + 10 * b), C (10 + 10 * b) 0), _) ⟨Nat.zero_add _, Nat.zero_le _, hH1, rfl⟩ rfl rfl rfl ?_
  rintro f ⟨i, q, τ1⟩ ⟨hi, hq8, hH, hx⟩ ih
  dsimp only at hi hq8 hH hx ⊢
  have hE := cE_k (C := C) (q := q) hb2 hq8
  have hB := H_beam hH (hE.keep hI) (hE.lb hb)
  rw [oK_ne C q (by omega : 10 + 10 * b ≠ 15 + 10 * b) (by omega)] at hB
  obtain ⟨hc, hl⟩ := H_k hH hb2 hL15 hL16
  have hQ := H_queue' hH (hE.keep hI) (hE.lb hb)
  rw [hE.nq hb2] at hQ
  refine a_iload_n cx dX0_replay_13 rfl rfl ?_
  refine a_aload_n cx dX0_replay_14 rfl rfl ?_
  refine gf_X0_12 cx hB dX0_replay_15 ?_
  refine a_callV cx 0 (sp_Jx4a65c_size_8abf5 hQ) hQ rfl ml_X0_75 im_Jx4a65c_size_8abf5 se_Jx4a65c_size_8abf5 ini_Jx4a65c cd_Jx4a65c_size_8abf5 rfl rfl (by decide +kernel) rfl rfl ⟨(Nat.le_of_ble_eq_true rfl), (Nat.le_of_ble_eq_true rfl)⟩ (Nat.le_of_ble_eq_true rfl) dX0_replay_18 ⟨(Nat.le_of_ble_eq_true rfl), (Nat.le_of_ble_eq_true rfl)⟩ (fun _ _ _ h => h.elim) (fun v9 ad9 τ9 hP => ?_)
  obtain ⟨rfl, h2, h3⟩ := hP
  replace h2 := h2.symm
  subst h2
  replace h3 := h3.symm
  subst h3
  refine a_icmp_ge cx (tgt := 52) dX0_replay_21 (by decide) (fun c_21 => ?_) (fun c_21 => ?_)
  · refine a_iconst cx (v := 0) dX0_replay_52 (by decide) ?_
    refine a_istore_n1 cx dX0_replay_53 rfl (by decide) (by intro w h; first | (cases h; rfl) | (cases h; assumption) | (cases h; done)) ?_
    have hz : f = 0 := by
      have h9 := le_nI c_21 (by omega) (by omega)
      omega
    subst hz
    replace hx : q = cAll C b := hx
    refine a_loop (σ := Nat × K3 × RH) (fun f s => s.1 + f = ps ∧ s.2.1.1 ≤ 8 ∧ HH g ad Lv (oK C b s.2.1) ρ s.2.2 ∧ rpF (C (17 + 10 * b)) f s.1 s.2.1 = cReplay C b) (fun _ => ad) (fun s => s.2.2) (fun s => [some (.ref (ad (10 + 10 * b))), some (.int (nI s.1))]) ps (0, q, τ1) ⟨Nat.zero_add _, hq8, hH, by rw [hx]; unfold cReplay; rw [hps2, tn_nI (by omega)]⟩ rfl rfl rfl ?_
    clear hx hH hE hB hc hl ih hi
    rintro f ⟨i, q, τ1⟩ ⟨hi, hq8, hH, hx⟩ ih
    dsimp only at hi hq8 hH hx ⊢
    have hE := cE_k (C := C) (q := q) hb2 hq8
    have hB := H_beam hH (hE.keep hI) (hE.lb hb)
    rw [oK_ne C q (by omega : 10 + 10 * b ≠ 15 + 10 * b) (by omega)] at hB
    obtain ⟨hc, hl⟩ := H_k hH hb2 hL15 hL16
    have hK := H_kinds hH (hE.keep hI) (hE.lb hb)
    rw [oK_ne C q (by omega : 17 + 10 * b ≠ 15 + 10 * b) (by omega)] at hK
    refine a_iload_n cx dX0_replay_54 rfl rfl ?_
    refine a_aload_n cx dX0_replay_55 rfl rfl ?_
    refine gf_X0_32 cx hB dX0_replay_56 ?_
    refine a_icmp_ge cx (tgt := 91) dX0_replay_59 (by decide) (fun c_59 => ?_) (fun c_59 => ?_)
    · exact a_vret cx hr dX0_replay_91 (Nat.le_of_ble_eq_true rfl) (Nat.le_of_ble_eq_true rfl) ⟨rfl, rfl, by have hz : f = 0 := (by rw [hps2] at c_59; have := le_nI c_59 (by omega) (by omega); omega); subst hz; rw [← hx]; exact hH⟩
    · have hip : i < ps := by
        rcases Nat.lt_or_ge i ps with h9 | h9
        · exact h9
        · exact absurd (by rw [hps2]; exact nI_le h9 (by omega)) c_59
      obtain ⟨f, rfl⟩ : ∃ f9, f = f9 + 1 := ⟨f - 1, by omega⟩
      refine a_iload_n cx dX0_replay_62 rfl rfl ?_
      refine a_aload_n cx dX0_replay_63 rfl rfl ?_
      refine gf_X0_28 cx hB dX0_replay_64 ?_
      refine a_alen cx 0 hK rfl rfl dX0_replay_67 ?_
      refine a_icmp_ge cx (tgt := 91) dX0_replay_68 (by decide) (fun c_68 => absurd (le_nI c_68 (by omega) (by decide)) (by omega)) (fun c_68 => ?_)
      refine a_aload_n cx dX0_replay_71 rfl rfl ?_
      refine gf_X0_25 cx hB dX0_replay_72 ?_
      refine a_aload_n cx dX0_replay_75 rfl rfl ?_
      refine gf_X0_28 cx hB dX0_replay_76 ?_
      refine a_iload_n cx dX0_replay_79 rfl rfl ?_
      refine a_cld cx (i) hK (rfl) ((by omega)) (by decide) dX0_replay_80 ?_
      refine a_callV cx 1 (sp_X1_follow (kd := C (17 + 10 * b) i) hc hl hq8) hc rfl ml_X0_101 im_X1_follow se_X1_follow ini_X1 cd_X1_follow rfl rfl (by decide +kernel) rfl rfl ⟨(Nat.le_of_ble_eq_true rfl), (Nat.le_of_ble_eq_true rfl)⟩ (Nat.le_of_ble_eq_true rfl) dX0_replay_81 ⟨(Nat.le_of_ble_eq_true rfl), (Nat.le_of_ble_eq_true rfl)⟩ (fun _ _ _ h => h.elim) (fun v9 ad9 τ9 hP9 => ?_)
      obtain ⟨rfl, h2, h3⟩ := hP9
      replace h2 := h2.symm
      subst h2
      replace h3 := h3.symm
      subst h3
      refine a_pop cx dX0_replay_84 rfl ?_
      refine a_iinc1 cx (nI (i + 1)) dX0_replay_85 (nI_1 i) (by decide) (by intro w h; first | (cases h; rfl) | (cases h; assumption) | (cases h; done)) ?_
      refine a_goto cx (tgt := 54) dX0_replay_88 (by decide) ?_
      exact ih f (i + 1, kFo q (C (17 + 10 * b) i), _) (Nat.lt_succ_self f) ⟨by omega, hq8, HH.k (q' := kFo q (C (17 + 10 * b) i)) hH hb2 hL15 hL16, hx⟩
  · have hin : i < cNq C b := by
      rcases Nat.lt_or_ge i (cNq C b) with h9 | h9
      · exact h9
      · exact absurd (nI_le h9 (by omega)) c_21
    obtain ⟨f, rfl⟩ : ∃ f9, f = f9 + 1 := ⟨f - 1, by omega⟩
    have hsp := sp_get_queue (l := l) hH (hE.keep hI) (hE.lb hb) (k := i) (by rw [hE.nq hb2]; exact hin)
    rw [hE.q hb2 i, show 11 + 10 * b = 10 + 10 * b + 1 by omega] at hsp
    obtain ⟨z, hz, hz2⟩ := hL.2.2.2.2.2.2.2.2.2.2.2 i hin
    have hj : tn (C (12 + 10 * b) i) < cNp C := by rw [hz2, tn_nI (by have := hI.2.1; omega)]; exact hz
    have hP := H_prop hH (hE.keep hI) (hE.lp hj)
    rw [oK_ne C q (by have := hI.2.1; omega : 40 + tn (C (12 + 10 * b) i) ≠ 15 + 10 * b) (by omega)] at hP
    refine a_aload_n cx dX0_replay_24 rfl rfl ?_
    refine gf_X0_25 cx hB dX0_replay_25 ?_
    refine a_aload_n cx dX0_replay_28 rfl rfl ?_
    refine gf_X0_12 cx hB dX0_replay_29 ?_
    refine a_iload_n cx dX0_replay_32 rfl rfl ?_
    refine a_callV cx 1 (hsp) hQ rfl ml_X0_79 im_Jx4a65c_get_915e3 se_Jx4a65c_get_915e3 ini_Jx4a65c cd_Jx4a65c_get_915e3 rfl rfl (by decide +kernel) rfl rfl ⟨(Nat.le_of_ble_eq_true rfl), (Nat.le_of_ble_eq_true rfl)⟩ (Nat.le_of_ble_eq_true rfl) dX0_replay_33 ⟨(Nat.le_of_ble_eq_true rfl), (Nat.le_of_ble_eq_true rfl)⟩ (fun _ _ _ h => h.elim) (fun v9 ad9 τ9 hP => ?_)
    obtain ⟨rfl, h2, h3⟩ := hP
    replace h2 := h2.symm
    subst h2
    replace h3 := h3.symm
    subst h3
    refine a_castS cx hP rfl cl_X0_60 dX0_replay_36 ?_
    refine gf_X0_59 cx hP dX0_replay_39 ?_
    refine a_callV cx 1 (sp_X1_allot hc hl hq8) hc rfl ml_X0_64 im_X1_allot se_X1_allot ini_X1 cd_X1_allot rfl rfl (by decide +kernel) rfl rfl ⟨(Nat.le_of_ble_eq_true rfl), (Nat.le_of_ble_eq_true rfl)⟩ (Nat.le_of_ble_eq_true rfl) dX0_replay_42 ⟨(Nat.le_of_ble_eq_true rfl), (Nat.le_of_ble_eq_true rfl)⟩ (fun _ _ _ h => h.elim) (fun v9 ad9 τ9 hP9 => ?_)
    obtain ⟨rfl, h2, h3⟩ := hP9
    replace h2 := h2.symm
    subst h2
    replace h3 := h3.symm
    subst h3
    refine a_pop cx dX0_replay_45 rfl ?_
    refine a_iinc1 cx (nI (i + 1)) dX0_replay_46 (nI_1 i) (by decide) (by intro w h; first | (cases h; rfl) | (cases h; assumption) | (cases h; done)) ?_
    refine a_goto cx (tgt := 13) dX0_replay_49 (by decide) ?_
    exact ih f (i + 1, kAl q (C (40 + tn (C (12 + 10 * b) i)) 4), _) (Nat.lt_succ_self f) ⟨by omega, kAl_8 hq8, HH.k (q' := kAl q (C (40 + tn (C (12 + 10 * b) i)) 4)) hH hb2 hL15 hL16, hx⟩

