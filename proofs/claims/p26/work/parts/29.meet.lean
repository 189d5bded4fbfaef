section LOOPG
variable {l : Launch} {g : GW} {p : Program} {e : Env} {R : Room} {s : State} {m : MethodId} {args : Array Value} {below : List Frame} {meth : Method} {c : Code} {A : Nat → Prop} {nL : Nat} {Q : State → Prop} {ad : AD} {τ : RH} {cells slots pc : Nat} {lv : LV} {st : List Value}
theorem a_widen {k n : Nat} (h1 : cells ≤ k) (h2 : slots ≤ n) (kk : AW l g p e R s m args below meth c A nL Q ad τ k n pc lv st) : AW l g p e R s m args below meth c A nL Q ad τ cells slots pc lv st := fun H locs ls i1 i2 i3 i4 => W.widen h1 h2 (kk H locs ls i1 i2 i3 i4)
/-- a loop whose rounds may make things -/
theorem a_loopG {σ : Type} (Inv : Nat → σ → Prop) (Af : σ → AD) (Tf : σ → RH) (LVf : σ → LV) (Cf Sf : σ → Nat) (f0 : Nat) (s0 : σ) (h0 : Inv f0 s0) (hA : Af s0 = ad) (hT : Tf s0 = τ) (hL : LVf s0 = lv) (hC : cells ≤ Cf s0) (hS : slots ≤ Sf s0)
    (step : ∀ f s', Inv f s' → (∀ f' s'', f' < f → Inv f' s'' → AW l g p e R s m args below meth c A nL Q (Af s'') (Tf s'') (Cf s'') (Sf s'') pc (LVf s'') st) → AW l g p e R s m args below meth c A nL Q (Af s') (Tf s') (Cf s') (Sf s') pc (LVf s') st) : AW l g p e R s m args below meth c A nL Q ad τ cells slots pc lv st := by
  subst hA; subst hT; subst hL
  refine a_widen hC hS ?_
  have key : ∀ n f s', f < n → Inv f s' → AW l g p e R s m args below meth c A nL Q (Af s') (Tf s') (Cf s') (Sf s') pc (LVf s') st := by
    intro n
    induction n with
    | zero => intro f s' h; exact absurd h (Nat.not_lt_zero _)
    | succ n ih => intro f s' h hi; exact step f s' hi (fun f' s'' h1 h2 => ih f' s'' (Nat.lt_of_lt_of_le h1 (Nat.le_of_lt_succ h)) h2)
  exact key (f0 + 1) f0 s0 (Nat.lt_succ_self _) h0
end LOOPG
abbrev LM : Type := (Nat → Bool) × ME
/-- the allotments at one score, from proposal i on -/
def alStep (b : Nat) (sc : Int32) (i : Nat) (q : LM) : LM := if tn (q.2 (40 + i) 1) = b ∧ q.2 (40 + i) 3 = sc then (lAllot q.1 q.2 b i, oAllot q.2 b i) else q
def alS (b : Nat) (sc : Int32) : Nat → Nat → LM → LM
  | 0, _, q => q
  | f + 1, i, q => alS b sc f (i + 1) (alStep b sc i q)
def alM (b : Nat) : Nat → LM → LM
  | 0, q => q
  | f + 1, q => alM b f (alS b (nI f) (cNp q.2) 0 q)
theorem oAllot_np (C : ME) {b j : Nat} (hb : b < 2) : cNp (oAllot C b j) = cNp C ∧ cNb (oAllot C b j) = cNb C := by
  unfold oAllot
  split
  · exact ⟨rfl, rfl⟩
  · unfold cNp cNb
    rw [oAllotY_ne (by omega) (by omega) (by omega) (by omega) (by omega), oAllotY_ne (by omega) (by omega) (by omega) (by omega) (by omega)]
    exact ⟨rfl, rfl⟩
theorem alStep_np {b : Nat} {sc : Int32} {i : Nat} {q : LM} (hb : b < 2) : cNp (alStep b sc i q).2 = cNp q.2 ∧ cNb (alStep b sc i q).2 = cNb q.2 := by
  unfold alStep
  split
  · exact oAllot_np q.2 hb
  · exact ⟨rfl, rfl⟩
theorem alStep_I {b : Nat} {sc : Int32} {i : Nat} {q : LM} (hI : cI q.1 q.2) (hb : b < cNb q.2) (hi : i < cNp q.2) : cI (alStep b sc i q).1 (alStep b sc i q).2 := by
  unfold alStep
  split
  · exact cI_allot hI hb hi
  · exact hI
theorem alS_keep {b : Nat} {sc : Int32} : ∀ {f i : Nat} {q : LM}, b < 2 → i + f ≤ cNp q.2 → cI q.1 q.2 → b < cNb q.2 → cI (alS b sc f i q).1 (alS b sc f i q).2 ∧ cNp (alS b sc f i q).2 = cNp q.2 ∧ cNb (alS b sc f i q).2 = cNb q.2
  | 0, _, _, _, _, h, _ => ⟨h, rfl, rfl⟩
  | f + 1, i, q, hb, hi, h, hb2 => by
    unfold alS
    have e := alStep_np (b := b) (sc := sc) (i := i) (q := q) hb
    have k := alS_keep (b := b) (sc := sc) (f := f) (i := i + 1) (q := alStep b sc i q) hb (by rw [e.1]; omega) (alStep_I h hb2 (by omega)) (by rw [e.2]; exact hb2)
    exact ⟨k.1, k.2.1.trans e.1, k.2.2.trans e.2⟩
set_option maxHeartbeats 4000000 in
set_option maxRecDepth 100000 in
/-- allotAtScore -/
theorem sp_X3_allotAtScore {l : Launch} {g : GW} {ad : AD} {τ : RH} {Lv : Nat → Bool} {C : ME} {ρ : RH} {b : Nat} {sc : Int32} (hH : HH g ad Lv C ρ τ) (hI : cI Lv C) (hb : b < cNb C) : Sp l g yX3_allotAtScore (.code yX3_allotAtScore cX3_allotAtScore 5 none) (rmv 6 8 80) [.ref (ad 0), .ref (ad (10 + 10 * b)), .int sc] ad τ 8 80 (fun v ad' τ' => (∀ y, y ≠ 12 + 10 * b → ad' y = ad y) ∧ v = none ∧ HH g ad' (alS b sc (cNp C) 0 (Lv, C)).1 (alS b sc (cNp C) 0 (Lv, C)).2 ρ τ') (NoX) := by
  refine Sp.of 2 [some (.ref (ad 0)), some (.ref (ad (10 + 10 * b))), some (.int sc), none, none] (by decide +kernel) (Nat.le_of_ble_eq_true rfl) rfl ?_
  intro p e s m args below meth c A cx hout hr hnm
  have hb2 := (cI_lin hI hb).2
  have hnp8 := hI.2.1
  refine a_iconst cx (v := 0) dX3_allotAtScore_0 (by decide) ?_
  refine a_istore_n3 cx dX3_allotAtScore_1 rfl (by decide) (by intro w h; first | (cases h; rfl) | (cases h; assumption) | (cases h; done)) ?_
  refine a_loopG (σ := Nat × LM × AD × RH × Option Value) (fun f s => s.1 + f = cNp C ∧ cNp s.2.1.2 = cNp C ∧ cNb s.2.1.2 = cNb C ∧ cI s.2.1.1 s.2.1.2 ∧ HH g s.2.2.1 s.2.1.1 s.2.1.2 ρ s.2.2.2.1 ∧ (∀ y, y ≠ 12 + 10 * b → s.2.2.1 y = ad y) ∧ alS b sc f s.1 s.2.1 = alS b sc (cNp C) 0 (Lv, C)) (fun s => s.2.2.1) (fun s => s.2.2.2.1) (fun s => [some (.ref (s.2.2.1 0)), some (.ref (s.2.2.1 (10 + 10 * b))), some (.int sc), some (.int (nI s.1)), s.2.2.2.2]) (fun s => s.1) (fun s => 10 * s.1) (cNp C) (0, (Lv, C), ad, τ, none) ⟨Nat.zero_add _, rfl, rfl, hI, hH, fun _ _ => rfl, rfl⟩ rfl rfl rfl (Nat.zero_le _) (Nat.zero_le _) ?_
  clear hH hI
  rintro f ⟨i, ⟨Lv1, C1⟩, ad1, τ1, z⟩ ⟨hi, hnp, hnb, hI, hH, had, hx⟩ ih
  dsimp only at hi hnp hnb hI hH had hx ⊢
  obtain ⟨hO, hL1, hL3, hs1, hs3⟩ := H_lines hH hI
  have hB := H_beam hH hI (show b < cNb C1 by omega)
  refine a_iload_n cx dX3_allotAtScore_2 rfl rfl ?_
  refine a_aload_n cx dX3_allotAtScore_3 rfl rfl ?_
  refine gf_X3_16 cx hO dX3_allotAtScore_4 ?_
  refine a_callV cx 0 (sp_Jx4a65c_size_8abf5 hL3) hL3 rfl ml_X3_43 im_Jx4a65c_size_8abf5 se_Jx4a65c_size_8abf5 ini_Jx4a65c cd_Jx4a65c_size_8abf5 rfl rfl (by decide +kernel) rfl rfl ⟨(Nat.le_of_ble_eq_true rfl), (Nat.le_of_ble_eq_true rfl)⟩ (Nat.le_of_ble_eq_true rfl) dX3_allotAtScore_7 ⟨show _ ≤ 8 by omega, show _ ≤ 80 by omega⟩ (fun _ _ _ h => h.elim) (fun v9 ad9 τ9 hP => ?_)
  obtain ⟨rfl, h2, h3⟩ := hP
  replace h2 := h2.symm
  subst h2
  replace h3 := h3.symm
  subst h3
  refine a_icmp_ge cx (tgt := 56) dX3_allotAtScore_10 (by decide) (fun c_10 => ?_) (fun c_10 => ?_)
  · have hz : f = 0 := (by have := le_nI c_10 (by have := hI.2.1; omega) (by have := hI.2.1; omega); omega)
    subst hz
    refine a_widen (k := 8) (n := 80) (show i ≤ 8 by have := hI.2.1; omega) (show 10 * i ≤ 80 by have := hI.2.1; omega) ?_
    exact a_vret cx hr dX3_allotAtScore_56 (Nat.le_of_ble_eq_true rfl) (Nat.le_of_ble_eq_true rfl) ⟨had, rfl, by rw [← hx]; exact hH⟩
  · have hin : i < cNp C1 := by
      rcases Nat.lt_or_ge i (cNp C1) with h9 | h9
      · exact h9
      · exact absurd (nI_le h9 (by have := hI.2.1; omega)) c_10
    obtain ⟨f, rfl⟩ : ∃ f9, f = f9 + 1 := ⟨f - 1, by omega⟩
    have hsp := sp_get_prop (l := l) hH hI hin
    have hP := H_prop2 hH hI hin
    refine a_aload_n cx dX3_allotAtScore_13 rfl rfl ?_
    refine gf_X3_16 cx hO dX3_allotAtScore_14 ?_
    refine a_iload_n cx dX3_allotAtScore_17 rfl rfl ?_
    refine a_callV cx 1 (hsp) hL3 rfl ml_X3_224 im_Jx4a65c_get_915e3 se_Jx4a65c_get_915e3 ini_Jx4a65c cd_Jx4a65c_get_915e3 rfl rfl (by decide +kernel) rfl rfl ⟨(Nat.le_of_ble_eq_true rfl), (Nat.le_of_ble_eq_true rfl)⟩ (Nat.le_of_ble_eq_true rfl) dX3_allotAtScore_18 ⟨show _ ≤ 8 by omega, show _ ≤ 80 by omega⟩ (fun _ _ _ h => h.elim) (fun v9 ad9 τ9 hP => ?_)
    obtain ⟨rfl, h2, h3⟩ := hP
    replace h2 := h2.symm
    subst h2
    replace h3 := h3.symm
    subst h3
    refine a_castS cx hP rfl cl_X3_86 dX3_allotAtScore_21 ?_
    refine a_astore4 cx dX3_allotAtScore_24 (by decide) (by intro w h; first | (cases h; rfl) | (cases h; assumption) | (cases h; done)) ?_
    refine a_aload cx dX3_allotAtScore_26 rfl ?_
    refine a_apart (fun hap => ?_)
    refine gf_X3_183 cx hP dX3_allotAtScore_28 ?_
    refine a_aload_n cx dX3_allotAtScore_31 rfl rfl ?_
    refine a_acmp_ne cx (tgt := 50) dX3_allotAtScore_32 (by decide) (fun c_32 => ?_) (fun c_32 => ?_)
    · refine a_iinc3 cx (nI (i + 1)) dX3_allotAtScore_50 (nI_1 i) (by decide) (by intro w h; first | (cases h; rfl) | (cases h; assumption) | (cases h; done)) ?_
      refine a_goto cx (tgt := 2) dX3_allotAtScore_53 (by decide) ?_
      have hst : alStep b sc i (Lv1, C1) = (Lv1, C1) := if_neg (fun h => c_32 (by rw [h.1]))
      refine a_widen (k := i + 1) (n := 10 * (i + 1)) (show i ≤ i + 1 by omega) (show 10 * i ≤ 10 * (i + 1) by omega) (ih f (i + 1, (Lv1, C1), ad1, τ1, _) (Nat.lt_succ_self f) ⟨by omega, hnp, hnb, hI, hH, had, ?_⟩)
      rw [← hx]; show _ = alS b sc f (i + 1) (alStep b sc i (Lv1, C1)); rw [hst]
    · have hln : tn (C1 (40 + i) 1) = b := by have h9 := (hap _ _ _ _ (H_beam hH hI (by obtain ⟨-, -, q9, h9, h8⟩ := (cI_prp hI hin).1; rw [h8, tn_nI (by have := hI.1; omega)]; exact h9)) hB).mp c_32; omega
      refine a_aload cx dX3_allotAtScore_35 rfl ?_
      refine gf_X3_233 cx hP dX3_allotAtScore_37 ?_
      refine a_iload_n cx dX3_allotAtScore_40 rfl rfl ?_
      refine a_icmp_ne cx (tgt := 50) dX3_allotAtScore_41 (by decide) (fun c_41 => ?_) (fun c_41 => ?_)
      · refine a_iinc3 cx (nI (i + 1)) dX3_allotAtScore_50 (nI_1 i) (by decide) (by intro w h; first | (cases h; rfl) | (cases h; assumption) | (cases h; done)) ?_
        refine a_goto cx (tgt := 2) dX3_allotAtScore_53 (by decide) ?_
        have hst : alStep b sc i (Lv1, C1) = (Lv1, C1) := if_neg (fun h => c_41 h.2)
        refine a_widen (k := i + 1) (n := 10 * (i + 1)) (show i ≤ i + 1 by omega) (show 10 * i ≤ 10 * (i + 1) by omega) (ih f (i + 1, (Lv1, C1), ad1, τ1, _) (Nat.lt_succ_self f) ⟨by omega, hnp, hnb, hI, hH, had, ?_⟩)
        rw [← hx]; show _ = alS b sc f (i + 1) (alStep b sc i (Lv1, C1)); rw [hst]
      · refine a_aload_n cx dX3_allotAtScore_44 rfl rfl ?_
        refine a_aload cx dX3_allotAtScore_45 rfl ?_
        refine a_callV cx 1 (sp_X0_allot hH hI (show b < cNb C1 by omega) (show i < cNp C1 by omega)) hB rfl ml_X3_242 im_X0_allot se_X0_allot ini_X0 cd_X0_allot rfl rfl (by decide +kernel) rfl rfl ⟨(Nat.le_of_ble_eq_true rfl), (Nat.le_of_ble_eq_true rfl)⟩ (Nat.le_of_ble_eq_true rfl) dX3_allotAtScore_47 ⟨show _ ≤ 8 by omega, show _ ≤ 80 by omega⟩ (fun _ _ _ h => h.elim) (fun v9 ad9 τ9 hP9 => ?_)
        obtain ⟨had9, rfl, hH9⟩ := hP9
        rw [← had9 0 (by omega), ← had9 (10 + 10 * b) (by omega)]
        refine a_iinc3 cx (nI (i + 1)) dX3_allotAtScore_50 (nI_1 i) (by decide) (by intro w h; first | (cases h; rfl) | (cases h; assumption) | (cases h; done)) ?_
        refine a_goto cx (tgt := 2) dX3_allotAtScore_53 (by decide) ?_
        have hst : alStep b sc i (Lv1, C1) = (lAllot Lv1 C1 b i, oAllot C1 b i) := if_pos ⟨hln, c_41⟩
        refine ih f (i + 1, (lAllot Lv1 C1 b i, oAllot C1 b i), ad9, τ9, _) (Nat.lt_succ_self f) ⟨by omega, (oAllot_np C1 hb2).1.trans hnp, (oAllot_np C1 hb2).2.trans hnb, cI_allot hI (by omega) (by omega), hH9, fun y hy => (had9 y hy).trans (had y hy), ?_⟩
        rw [← hx]; show _ = alS b sc f (i + 1) (alStep b sc i (Lv1, C1)); rw [hst]

def kMeet (C : ME) (b : Int32) : Int32 := if okL C b then (if C (10 + 10 * tn b) 9 = 0 then 0 else 2) else 1
def qMeet (Lv : Nat → Bool) (C : ME) (b : Nat) : LM := alM b 101 (Lv, up2 C (10 + 10 * b) 9 1)
theorem ad_m1 (x : Int32) : x + Int32.ofInt (-1) = x - 1 := xm1 x
set_option maxHeartbeats 4000000 in
set_option maxRecDepth 100000 in
/-- meet -/
theorem sp_X3_meet {l : Launch} {g : GW} {ad : AD} {τ : RH} {Lv : Nat → Bool} {C : ME} {ρ : RH} {b : Int32} (hH : HH g ad Lv C ρ τ) (hI : cI Lv C) : Sp l g yX3_meet (.code yX3_meet cX3_meet 4 (some .int)) (rmv 8 810 8092) [.ref (ad 0), .int b] ad τ 810 8092 (fun v ad' τ' => kMeet C b = 0 ∧ v = some (.int (nI (cNq (qMeet Lv C (tn b)).2 (tn b)))) ∧ (∀ y, y ≠ 12 + 10 * tn b → ad' y = ad y) ∧ HH g ad' (qMeet Lv C (tn b)).1 (qMeet Lv C (tn b)).2 ρ τ') (fun E ad' τ' => ((kMeet C b = 1 ∧ E = "java/lang/IndexOutOfBoundsException") ∨ (kMeet C b = 2 ∧ E = "java/lang/IllegalStateException")) ∧ ad' = ad ∧ τ' = τ) := by
  refine Sp.of 2 [some (.ref (ad 0)), some (.int b), none, none] (by decide +kernel) (Nat.le_of_ble_eq_true rfl) rfl ?_
  intro p e s m args below meth c A cx hout hr hnm
  have hO := (H_lines hH hI).1
  refine a_aload_n cx dX3_meet_0 rfl rfl ?_
  refine a_iload_n cx dX3_meet_1 rfl rfl ?_
  refine a_callV cx 1 (sp_X3_beamlineNumbered (b := b) hH hI) hO rfl ml_X3_61 im_X3_beamlineNumbered se_X3_beamlineNumbered ini_X3 cd_X3_beamlineNumbered rfl rfl (by decide +kernel) rfl rfl ⟨(Nat.le_of_ble_eq_true rfl), (Nat.le_of_ble_eq_true rfl)⟩ (Nat.le_of_ble_eq_true rfl) dX3_meet_2 ⟨(Nat.le_of_ble_eq_true rfl), (Nat.le_of_ble_eq_true rfl)⟩ (fun E9 ad9 τ9 hX => a_out cx hout (Nat.le_of_ble_eq_true rfl) (Nat.le_of_ble_eq_true rfl) (⟨Or.inl ⟨(by unfold kMeet; rw [if_neg (hX.1)]), hX.2.1⟩, hX.2.2.1, hX.2.2.2⟩)) (fun v9 ad9 τ9 hP => ?_)
  obtain ⟨hok, rfl, h2, h3⟩ := hP
  replace h2 := h2.symm
  subst h2
  replace h3 := h3.symm
  subst h3
  have hb := (okL_ix hI hok).2
  have hB := H_beam hH hI hb
  obtain ⟨hL, hb2⟩ := cI_lin hI hb
  refine a_astore_n2 cx dX3_meet_5 rfl (by decide) (by intro w h; first | (cases h; rfl) | (cases h; assumption) | (cases h; done)) ?_
  refine a_aload_n cx dX3_meet_6 rfl rfl ?_
  refine gf_X3_78 cx hB dX3_meet_7 ?_
  refine a_if_eq cx (tgt := 23) dX3_meet_10 (by decide) (fun c_10 => ?_) (fun c_10 => ?_)
  · refine a_aload_n cx dX3_meet_23 rfl rfl ?_
    refine a_iconst cx (v := 1) dX3_meet_24 (by decide) ?_
    refine pf_X3_78 cx hB (by first | exact Or.inl rfl | exact Or.inr rfl | assumption) dX3_meet_25 ?_
    have hH2 := hH.beam (C := C) hb2 hL.1 9 1 (e := _) rfl
    have hE : cE C (up2 C (10 + 10 * tn b) 9 1) := cE.put (by unfold cT; omega)
    have hkm : kMeet C b = 0 := (by unfold kMeet; rw [if_pos hok, if_pos c_10])
    refine a_bipush cx (v := 100) dX3_meet_28 (by decide) ?_
    refine a_istore_n3 cx dX3_meet_30 rfl (by decide) (by intro w h; first | (cases h; rfl) | (cases h; assumption) | (cases h; done)) ?_
    refine a_loopG (σ := Nat × LM × AD × RH) (fun f s => s.1 = f ∧ f ≤ 101 ∧ tn b < cNb s.2.1.2 ∧ cI s.2.1.1 s.2.1.2 ∧ HH g s.2.2.1 s.2.1.1 s.2.1.2 ρ s.2.2.2 ∧ (∀ y, y ≠ 12 + 10 * tn b → s.2.2.1 y = ad y) ∧ alM (tn b) f s.2.1 = qMeet Lv C (tn b)) (fun s => s.2.2.1) (fun s => s.2.2.2) (fun s => [some (.ref (s.2.2.1 0)), some (.int b), some (.ref (s.2.2.1 (10 + 10 * tn b))), some (.int (nI s.1 - 1))]) (fun s => 1 + 8 * (101 - s.1)) (fun s => 6 + 80 * (101 - s.1)) 101 (101, (Lv, up2 C (10 + 10 * tn b) 9 1), ad, _) ⟨rfl, Nat.le_refl _, hE.lb hb, hE.keep hI, hH2, fun _ _ => rfl, rfl⟩ rfl rfl (by dsimp only; rw [show nI 101 - 1 = (100 : Int32) by decide]) (Nat.le_of_ble_eq_true rfl) (Nat.le_of_ble_eq_true rfl) ?_
    clear hH hI hH2 hE hB hO hb hL
    rintro f ⟨i, ⟨Lv1, C1⟩, ad1, τ1⟩ ⟨hi, hi1, hb, hI, hH, had, hx⟩ ih
    dsimp only at hi hb hI hH had hx ⊢
    subst hi
    have hO := (H_lines hH hI).1
    have hB := H_beam hH hI hb
    refine a_iload_n cx dX3_meet_31 rfl rfl ?_
    refine a_if_lt cx (tgt := 47) dX3_meet_32 (by decide) (fun c_32 => ?_) (fun c_32 => ?_)
    · have hz : i = 0 := by
        cases i with
        | zero => rfl
        | succ i => rw [nI_pred] at c_32; exact absurd c_32 (nI_pos (by omega))
      subst hz
      refine a_widen (k := 810) (n := 8092) (by decide) (by decide) ?_
      have hQ := H_queue' hH hI hb
      replace hx : (Lv1, C1) = qMeet Lv C (tn b) := hx
      refine a_aload_n cx dX3_meet_47 rfl rfl ?_
      refine gf_X3_95 cx hB dX3_meet_48 ?_
      refine a_callV cx 0 (sp_Jx4a65c_size_8abf5 hQ) hQ rfl ml_X3_43 im_Jx4a65c_size_8abf5 se_Jx4a65c_size_8abf5 ini_Jx4a65c cd_Jx4a65c_size_8abf5 rfl rfl (by decide +kernel) rfl rfl ⟨(Nat.le_of_ble_eq_true rfl), (Nat.le_of_ble_eq_true rfl)⟩ (Nat.le_of_ble_eq_true rfl) dX3_meet_51 ⟨(Nat.le_of_ble_eq_true rfl), (Nat.le_of_ble_eq_true rfl)⟩ (fun _ _ _ h => h.elim) (fun v9 ad9 τ9 hP => ?_)
      obtain ⟨rfl, h2, h3⟩ := hP
      replace h2 := h2.symm
      subst h2
      replace h3 := h3.symm
      subst h3
      exact a_iret cx hr dX3_meet_54 (Nat.le_of_ble_eq_true rfl) (Nat.le_of_ble_eq_true rfl) ⟨hkm, by rw [← hx], had, by rw [← hx]; exact hH⟩
    · obtain ⟨i, rfl⟩ : ∃ j9, i = j9 + 1 := by
        cases i with
        | zero => exact absurd (by decide) c_32
        | succ i => exact ⟨i, rfl⟩
      rw [nI_pred]
      unfold alM at hx
      refine a_aload_n cx dX3_meet_35 rfl rfl ?_
      refine a_aload_n cx dX3_meet_36 rfl rfl ?_
      refine a_iload_n cx dX3_meet_37 rfl rfl ?_
      refine a_callV cx 2 (sp_X3_allotAtScore (sc := nI i) hH hI hb) hO rfl ml_X3_91 im_X3_allotAtScore se_X3_allotAtScore ini_X3 cd_X3_allotAtScore rfl rfl (by decide +kernel) rfl rfl ⟨(Nat.le_of_ble_eq_true rfl), (Nat.le_of_ble_eq_true rfl)⟩ (Nat.le_of_ble_eq_true rfl) dX3_meet_38 ⟨show _ ≤ 810 by omega, show _ ≤ 8092 by omega⟩ (fun _ _ _ h => h.elim) (fun v9 ad9 τ9 hP9 => ?_)
      obtain ⟨had9, rfl, hH9⟩ := hP9
      rw [← had9 0 (by omega), ← had9 (10 + 10 * tn b) (by omega)]
      refine a_iinc3 cx (nI i - 1) dX3_meet_41 (ad_m1 _) (by decide) (by intro w h; first | (cases h; rfl) | (cases h; assumption) | (cases h; done)) ?_
      refine a_goto cx (tgt := 31) dX3_meet_44 (by decide) ?_
      have hk9 := alS_keep (b := tn b) (sc := nI i) (f := cNp C1) (i := 0) (q := (Lv1, C1)) (cI_lin hI hb).2 (by show 0 + cNp C1 ≤ cNp C1; omega) hI hb
      refine a_widen (k := 1 + 8 * (101 - i)) (n := 6 + 80 * (101 - i)) (show _ ≤ _ by omega) (show _ ≤ _ by omega) (ih i (i, alS (tn b) (nI i) (cNp C1) 0 (Lv1, C1), ad9, τ9) (Nat.lt_succ_self i) ⟨rfl, by omega, by rw [hk9.2.2]; exact hb, hk9.1, hH9, fun y hy => (had9 y hy).trans (had y hy), hx⟩)
  · exact a_throw cx "the panel has met" ["java/lang/RuntimeException", "java/lang/Exception"] hout (by decide +kernel) fit_names cl_X3_47 ini_IllegalStateException th_51.1 th_51.2 (by decide +kernel) dX3_meet_13 dX3_meet_16 dX3_meet_17 dX3_meet_19 dX3_meet_22 (Nat.le_of_ble_eq_true rfl) (Nat.le_of_ble_eq_true rfl) (Nat.le_of_ble_eq_true rfl) (Nat.le_of_ble_eq_true rfl) (Nat.le_of_ble_eq_true rfl) (Nat.le_of_ble_eq_true rfl) ⟨Or.inr (⟨(by unfold kMeet; rw [if_pos hok, if_neg c_10]), rfl⟩), rfl, rfl⟩

