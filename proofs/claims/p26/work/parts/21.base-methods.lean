section CASTS
variable {l : Launch} {g : GW} {p : Program} {e : Env} {R : Room} {s : State} {m : MethodId} {args : Array Value} {below : List Frame} {meth : Method} {c : Code} {A : Nat → Prop} {cc : ByteArray} {nL : Nat} {own : String} {Q : State → Prop} {ad : AD} {τ : RH} {cells slots pc : Nat} {lv : LV} {st : List Value}
theorem a_castS (cx : Cx l g p s m args meth c A cc nL own) {r ci index N : Nat} {fs : List Value} {C : String} {T : u_T} (hτ : τ r = some (.inr (ci, fs))) (hc : vwCl[ci]? = some (C, T, N)) (hlink : Cond.classLink own index C ∈ TW) (d : decode cc pc = .ok (.checkcast index, 3)) (kk : AW l g p e R s m args below meth c A nL Q ad τ cells slots (pc + 3) lv (.ref (ad r) :: st)) : AW l g p e R s m args below meth c A nL Q ad τ cells slots pc lv (.ref (ad r) :: st) := fun H locs ls i1 i2 i3 i4 =>
  va_castS cx.1 cx.2.1 cx.2.2.2.1 (cx.2.2.2.2.1 _ hlink) ((cx_K cx).1 ci _ hc).2 (va_recv (cx_K cx) (aW1 (i1.1 r _ hτ)) (q0 := 0) hc rfl) d (kk H locs ls i1 i2 i3 i4)
end CASTS
theorem Sp.mono {l : Launch} {g : GW} {y : MethodName} {cw : Cond} {rm : Room} {As : List Value} {ad : AD} {τ : RH} {mc ms : Nat} {P P' : Option Value → AD → RH → Prop} {X X' : String → AD → RH → Prop} (h : Sp l g y cw rm As ad τ mc ms P X) (hP : ∀ v a t, P v a t → P' v a t) (hX : ∀ E a t, X E a t → X' E a t) : Sp l g y cw rm As ad τ mc ms P' X' := by
  intro hl sz p e ha hc hk s m args below hf happ hPc hW
  obtain ⟨k, o, h1, h2, h3, h4⟩ := h hl sz p e ha hc hk s m args below hf happ hPc hW
  refine ⟨k, o, h1, h2, h3, ?_⟩
  rcases h4 with ⟨⟨⟨v, ad', τ', a1, a2, a3⟩, a4⟩, a5⟩ | ⟨q, b1, E, ce, L, ⟨⟨ad', τ', b2, b3⟩, b4⟩, b5⟩
  · exact Or.inl ⟨⟨⟨v, ad', τ', a1, hP _ _ _ a2, a3⟩, a4⟩, a5⟩
  · exact Or.inr ⟨q, b1, E, ce, L, ⟨⟨ad', τ', hX _ _ _ b2, b3⟩, b4⟩, b5⟩
theorem H_lis {g : GW} {ad : AD} {Lv : Nat → Bool} {C : ME} {ρ τ : RH} {r n : Nat} (hH : HH g ad Lv C ρ τ) (hr : r < 84) (ho : ob g ad r (C r) = lisO g ad r (C r)) (hc : cLis Lv C r n) : τ r = some (liO (C r 0) (if n = 0 then .ref g.2.2.1 else .ref (ad (r + 1))) n) := by
  rw [hH.at hr hc.2.2.1, ho]
  unfold lisO liO
  rw [hc.1, hc.2.1]
  by_cases h : n = 0
  · rw [if_pos h, if_pos h, if_pos rfl]
  · rw [if_neg h, if_neg h, if_neg (by decide)]
theorem H_lis1 {g : GW} {ad : AD} {Lv : Nat → Bool} {C : ME} {ρ τ : RH} {r n : Nat} (hH : HH g ad Lv C ρ τ) (hr : r < 84) (ho : ob g ad r (C r) = lisO g ad r (C r)) (hc : cLis Lv C r n) (h0 : 0 < n) : τ r = some (liO (C r 0) (.ref (ad (r + 1))) n) := by
  have h := H_lis hH hr ho hc
  rw [if_neg (by omega)] at h
  exact h
theorem H_row {g : GW} {ad : AD} {Lv : Nat → Bool} {C : ME} {ρ τ : RH} {r n : Nat} (hH : HH g ad Lv C ρ τ) (hr : r + 1 < 84) (hc : cLis Lv C r n) (h0 : 0 < n) : τ (r + 1) = some (ob g ad (r + 1) (C (r + 1))) := hH.at hr (by rw [hc.2.2.2.1]; exact decide_eq_true h0)
theorem row_ref {ad : AD} {w : Nat → Int32} {f : Nat → Nat} {k q : Nat} (h : w k = nI q) (hq : q < 2 ^ 31) : va_rf (if w k < 0 then none else some (ad (f (tn (w k))))) = .ref (ad (f q)) := by
  rw [if_neg (by rw [h]; exact nI_pos hq), h, tn_nI hq]; rfl
/-- get of the lists -/
theorem sp_get_line {l : Launch} {g : GW} {ad : AD} {τ : RH} {Lv : Nat → Bool} {C : ME} {ρ : RH} (hH : HH g ad Lv C ρ τ) (hI : cI Lv C) {k : Nat} (hk : k < cNb C) : Sp l g yJx4a65c_get_915e3 (.code yJx4a65c_get_915e3 cJx4a65c_get_915e3 2 (some (.object "java/lang/Object"))) (rmv 2 0 0) [.ref (ad 1), .int (nI k)] ad τ 0 0 (fun v ad' τ' => v = some (.ref (ad (10 + 10 * k))) ∧ ad' = ad ∧ τ' = τ) NoX := by
  obtain ⟨h1, h2, -, -, -, h3, -, h4, -⟩ := hI
  have e := row_ref (ad := ad) (w := C 2) (f := fun i => 10 + 10 * i) (h4 k hk) (by omega)
  have h := sp_Jx4a65c_get_915e3 (l := l) (N := 10) (H_lis1 hH (by decide) rfl h3 (by omega)) (H_row hH (by decide) h3 (by omega)) hk (by omega) (by decide)
  exact h.mono (fun v a t q => ⟨by rw [q.1, e], q.2⟩) (fun _ _ _ q => q)
theorem sp_get_prop {l : Launch} {g : GW} {ad : AD} {τ : RH} {Lv : Nat → Bool} {C : ME} {ρ : RH} (hH : HH g ad Lv C ρ τ) (hI : cI Lv C) {k : Nat} (hk : k < cNp C) : Sp l g yJx4a65c_get_915e3 (.code yJx4a65c_get_915e3 cJx4a65c_get_915e3 2 (some (.object "java/lang/Object"))) (rmv 2 0 0) [.ref (ad 3), .int (nI k)] ad τ 0 0 (fun v ad' τ' => v = some (.ref (ad (40 + k))) ∧ ad' = ad ∧ τ' = τ) NoX := by
  obtain ⟨h1, h2, -, -, -, -, h3, -, h4, -⟩ := hI
  have e := row_ref (ad := ad) (w := C 4) (f := fun i => 40 + i) (h4 k hk) (by omega)
  have h := sp_Jx4a65c_get_915e3 (l := l) (N := 10) (H_lis1 hH (by decide) rfl h3 (by omega)) (H_row hH (by decide) h3 (by omega)) hk (by omega) (by decide)
  exact h.mono (fun v a t q => ⟨by rw [q.1, e], q.2⟩) (fun _ _ _ q => q)
theorem cI_lin {Lv : Nat → Bool} {C : ME} (hI : cI Lv C) {b : Nat} (hb : b < cNb C) : cLin Lv C b ∧ b < 2 := ⟨hI.2.2.2.2.2.2.2.2.2.1 b hb, Nat.lt_of_lt_of_le hb hI.1⟩
theorem cI_prp {Lv : Nat → Bool} {C : ME} (hI : cI Lv C) {j : Nat} (hj : j < cNp C) : (Lv (40 + j) = true ∧ C (40 + j) 0 = nI j ∧ ∃ ln, ln < cNb C ∧ C (40 + j) 1 = nI ln) ∧ j < 8 := ⟨hI.2.2.2.2.2.2.2.2.2.2.2.1 j hj, Nat.lt_of_lt_of_le hj hI.2.1⟩
theorem sp_get_queue {l : Launch} {g : GW} {ad : AD} {τ : RH} {Lv : Nat → Bool} {C : ME} {ρ : RH} (hH : HH g ad Lv C ρ τ) (hI : cI Lv C) {b k : Nat} (hb : b < cNb C) (hk : k < cNq C b) : Sp l g yJx4a65c_get_915e3 (.code yJx4a65c_get_915e3 cJx4a65c_get_915e3 2 (some (.object "java/lang/Object"))) (rmv 2 0 0) [.ref (ad (11 + 10 * b)), .int (nI k)] ad τ 0 0 (fun v ad' τ' => v = some (.ref (ad (40 + tn (C (12 + 10 * b) k)))) ∧ ad' = ad ∧ τ' = τ) NoX := by
  obtain ⟨⟨-, -, -, -, -, -, h1, h3, -, -, -, h4⟩, hb2⟩ := cI_lin hI hb
  obtain ⟨q, hq, hq2⟩ := h4 k hk
  have h8 := hI.2.1
  have e := row_ref (ad := ad) (w := C (12 + 10 * b)) (f := fun i => 40 + i) hq2 (by omega)
  have hr := H_row hH (by omega) h3 (by omega)
  rw [show 11 + 10 * b + 1 = 12 + 10 * b by omega, ob_qrow hb2] at hr
  have hl := H_lis1 hH (by omega) (ob_queue hb2) h3 (by omega)
  rw [show 11 + 10 * b + 1 = 12 + 10 * b by omega] at hl
  have h := sp_Jx4a65c_get_915e3 (l := l) (N := 10) hl hr hk (by omega) (by decide)
  exact h.mono (fun v a t q => ⟨by rw [q.1, e, hq2, tn_nI (by omega)], q.2⟩) (fun _ _ _ q => q)
theorem H_beam {g : GW} {ad : AD} {Lv : Nat → Bool} {C : ME} {ρ τ : RH} (hH : HH g ad Lv C ρ τ) (hI : cI Lv C) {b : Nat} (hb : b < cNb C) : τ (10 + 10 * b) = some (beO ad (10 + 10 * b) (C (10 + 10 * b))) := by
  obtain ⟨h, hb2⟩ := cI_lin hI hb
  rw [hH.at (by omega) h.1, ob_beam hb2]
theorem H_prop {g : GW} {ad : AD} {Lv : Nat → Bool} {C : ME} {ρ τ : RH} (hH : HH g ad Lv C ρ τ) (hI : cI Lv C) {j : Nat} (hj : j < cNp C) : τ (40 + j) = some (ppO ad (C (40 + j))) := by
  obtain ⟨h, hj8⟩ := cI_prp hI hj
  rw [hH.at (by omega) h.1, ob_prop hj8]
theorem H_prop2 {g : GW} {ad : AD} {Lv : Nat → Bool} {C : ME} {ρ τ : RH} (hH : HH g ad Lv C ρ τ) (hI : cI Lv C) {j : Nat} (hj : j < cNp C) : τ (40 + j) = some (prO (C (40 + j) 0) (.ref (ad (10 + 10 * tn (C (40 + j) 1)))) (C (40 + j) 2) (C (40 + j) 3) (C (40 + j) 4) (C (40 + j) 5) (C (40 + j) 6) (C (40 + j) 7) (C (40 + j) 8) (C (40 + j) 9) (C (40 + j) 10) (C (40 + j) 11) (C (40 + j) 12)) := H_prop hH hI hj
theorem H_kept {g : GW} {ad : AD} {Lv : Nat → Bool} {C : ME} {ρ τ : RH} (hH : HH g ad Lv C ρ τ) (hI : cI Lv C) {b : Nat} (hb : b < cNb C) : τ (13 + 10 * b) = some (calO ad (14 + 10 * b) (cNq C b) (C (13 + 10 * b) 2)) ∧ τ (14 + 10 * b) = some (arI g 8 (C (14 + 10 * b))) ∧ cNq C b ≤ 8 := by
  obtain ⟨⟨-, h1, h2, -, -, -, h3, -, h4, -⟩, hb2⟩ := cI_lin hI hb
  refine ⟨?_, by rw [hH.at (by omega) h2, ob_keptL hb2], h3⟩
  rw [hH.at (by omega) h1, ob_kept hb2]
  unfold caO calO
  rw [h4, show 13 + 10 * b + 1 = 14 + 10 * b by omega]
theorem H_lines {g : GW} {ad : AD} {Lv : Nat → Bool} {C : ME} {ρ τ : RH} (hH : HH g ad Lv C ρ τ) (hI : cI Lv C) : τ 0 = some (offO ad (C 0)) ∧ τ 1 = some (liO (C 1 0) (if cNb C = 0 then .ref g.2.2.1 else .ref (ad 2)) (cNb C)) ∧ τ 3 = some (liO (C 3 0) (if cNp C = 0 then .ref g.2.2.1 else .ref (ad 4)) (cNp C)) ∧ C 1 2 = nI (cNb C) ∧ C 3 2 = nI (cNp C) :=
  ⟨hH.at (by decide) hI.2.2.1, H_lis hH (by decide) rfl hI.2.2.2.2.2.1, H_lis hH (by decide) rfl hI.2.2.2.2.2.2.1, hI.2.2.2.2.2.1.1, hI.2.2.2.2.2.2.1.1⟩
/-- a number of a beamline, of a proposal -/
abbrev okL (C : ME) (b : Int32) : Prop := ¬ b < 0 ∧ ¬ nI (cNb C) ≤ b
abbrev okP (C : ME) (j : Int32) : Prop := ¬ j < 0 ∧ ¬ nI (cNp C) ≤ j
abbrev win (x lo hi : Int32) : Prop := lo ≤ x ∧ x ≤ hi
theorem okL_ix {Lv : Nat → Bool} {C : ME} (hI : cI Lv C) {b : Int32} (h : okL C b) : b = nI (tn b) ∧ tn b < cNb C := ix_lt h.1 h.2 (by have := hI.1; omega)
theorem okP_ix {Lv : Nat → Bool} {C : ME} (hI : cI Lv C) {b : Int32} (h : okP C b) : b = nI (tn b) ∧ tn b < cNp C := ix_lt h.1 h.2 (by have := hI.2.1; omega)
theorem win_if {x lo hi : Int32} {v : Int32} (h : (v = 1 ∧ win x lo hi) ∨ (v = 0 ∧ ¬ win x lo hi)) : (v = 0 → ¬ win x lo hi) ∧ (¬ v = 0 → win x lo hi) := by
  rcases h with ⟨rfl, h⟩ | ⟨rfl, h⟩
  · exact ⟨fun q => absurd q (by decide), fun _ => h⟩
  · exact ⟨fun _ => h, fun q => absurd rfl q⟩
theorem lt_ge {x y : Int32} (h : x < y) (h2 : y ≤ x) : False := by
  rw [Int32.lt_iff_toInt_lt] at h
  rw [Int32.le_iff_toInt_le] at h2
  omega
theorem ge_lt {x y : Int32} (h : ¬ x < y) : y ≤ x := by
  rw [Int32.lt_iff_toInt_lt] at h
  rw [Int32.le_iff_toInt_le]
  omega
theorem le_gt {x y : Int32} (h : ¬ x ≤ y) : y < x := by
  rw [Int32.le_iff_toInt_le] at h
  rw [Int32.lt_iff_toInt_lt]
  omega
set_option maxHeartbeats 4000000 in
set_option maxRecDepth 100000 in
theorem sp_X3_isWithin {l : Launch} {g : GW} {ad : AD} {τ : RH} {x lo hi : Int32}  : Sp l g yX3_isWithin (.code yX3_isWithin cX3_isWithin 3 (some .boolean)) (rmv 0 0 0) [.int x, .int lo, .int hi] ad τ 0 0 (fun v ad' τ' => (∃ w, v = some (.int w) ∧ ((w = 1 ∧ win x lo hi) ∨ (w = 0 ∧ ¬ win x lo hi))) ∧ ad' = ad ∧ τ' = τ) (NoX) := by
  refine Sp.of 0 [some (.int x), some (.int lo), some (.int hi)] (by decide +kernel) (Nat.le_of_ble_eq_true rfl) rfl ?_
  intro p e s m args below meth c A cx hout hr hnm
  refine a_iload_n cx dX3_isWithin_0 rfl rfl ?_
  refine a_iload_n cx dX3_isWithin_1 rfl rfl ?_
  refine a_icmp_lt cx (tgt := 14) dX3_isWithin_2 (by decide) (fun c_2 => ?_) (fun c_2 => ?_)
  · refine a_iconst cx (v := 0) dX3_isWithin_14 (by decide) ?_
    exact a_zret cx hr dX3_isWithin_15 (by first | rfl | decide) (Nat.le_of_ble_eq_true rfl) (Nat.le_of_ble_eq_true rfl) ⟨⟨_, rfl, Or.inr ⟨rfl, fun h => lt_ge c_2 h.1⟩⟩, rfl, rfl⟩
  · refine a_iload_n cx dX3_isWithin_5 rfl rfl ?_
    refine a_iload_n cx dX3_isWithin_6 rfl rfl ?_
    refine a_icmp_gt cx (tgt := 14) dX3_isWithin_7 (by decide) (fun c_7 => ?_) (fun c_7 => ?_)
    · refine a_iconst cx (v := 0) dX3_isWithin_14 (by decide) ?_
      exact a_zret cx hr dX3_isWithin_15 (by first | rfl | decide) (Nat.le_of_ble_eq_true rfl) (Nat.le_of_ble_eq_true rfl) ⟨⟨_, rfl, Or.inr ⟨rfl, fun h => lt_ge c_7 h.2⟩⟩, rfl, rfl⟩
    · refine a_iconst cx (v := 1) dX3_isWithin_10 (by decide) ?_
      refine a_goto cx (tgt := 15) dX3_isWithin_11 (by decide) ?_
      exact a_zret cx hr dX3_isWithin_15 (by first | rfl | decide) (Nat.le_of_ble_eq_true rfl) (Nat.le_of_ble_eq_true rfl) ⟨⟨_, rfl, Or.inl ⟨rfl, ge_lt c_2, ge_lt c_7⟩⟩, rfl, rfl⟩

set_option maxHeartbeats 4000000 in
set_option maxRecDepth 100000 in
theorem sp_X3_beamlineNumbered {l : Launch} {g : GW} {ad : AD} {τ : RH} {Lv : Nat → Bool} {C : ME} {ρ : RH} {b : Int32} (hH : HH g ad Lv C ρ τ) (hI : cI Lv C) : Sp l g yX3_beamlineNumbered (.code yX3_beamlineNumbered cX3_beamlineNumbered 2 (some (.object "BeamOffice$Beamline"))) (rmv 6 1 6) [.ref (ad 0), .int b] ad τ 1 6 (fun v ad' τ' => okL C b ∧ v = some (.ref (ad (10 + 10 * tn b))) ∧ ad' = ad ∧ τ' = τ) (fun E ad' τ' => ¬ okL C b ∧ E = "java/lang/IndexOutOfBoundsException" ∧ ad' = ad ∧ τ' = τ) := by
  refine Sp.of 0 [some (.ref (ad 0)), some (.int b)] (by decide +kernel) (Nat.le_of_ble_eq_true rfl) rfl ?_
  intro p e s m args below meth c A cx hout hr hnm
  obtain ⟨hO, hL1, hL3, hs1, hs3⟩ := H_lines hH hI
  refine a_iload_n cx dX3_beamlineNumbered_0 rfl rfl ?_
  refine a_if_lt cx (tgt := 15) dX3_beamlineNumbered_1 (by decide) (fun c_1 => ?_) (fun c_1 => ?_)
  · exact a_throw cx "no such beamline" ["java/lang/RuntimeException", "java/lang/Exception"] hout (by decide +kernel) fit_names cl_X3_109 ini_IndexOutOfBoundsException th_113.1 th_113.2 (by decide +kernel) dX3_beamlineNumbered_15 dX3_beamlineNumbered_18 dX3_beamlineNumbered_19 dX3_beamlineNumbered_21 dX3_beamlineNumbered_24 (Nat.le_of_ble_eq_true rfl) (Nat.le_of_ble_eq_true rfl) (Nat.le_of_ble_eq_true rfl) (Nat.le_of_ble_eq_true rfl) (Nat.le_of_ble_eq_true rfl) (Nat.le_of_ble_eq_true rfl) ⟨fun h => h.1 c_1, rfl, rfl, rfl⟩
  · refine a_iload_n cx dX3_beamlineNumbered_4 rfl rfl ?_
    refine a_aload_n cx dX3_beamlineNumbered_5 rfl rfl ?_
    refine gf_X3_10 cx hO dX3_beamlineNumbered_6 ?_
    refine a_callV cx 0 (sp_Jx4a65c_size_8abf5 hL1) hL1 rfl ml_X3_43 im_Jx4a65c_size_8abf5 se_Jx4a65c_size_8abf5 ini_Jx4a65c cd_Jx4a65c_size_8abf5 rfl rfl (by decide +kernel) rfl rfl ⟨(Nat.le_of_ble_eq_true rfl), (Nat.le_of_ble_eq_true rfl)⟩ (Nat.le_of_ble_eq_true rfl) dX3_beamlineNumbered_9 ⟨(Nat.le_of_ble_eq_true rfl), (Nat.le_of_ble_eq_true rfl)⟩ (fun _ _ _ h => h.elim) (fun v9 ad9 τ9 hP => ?_)
    obtain ⟨rfl, h2, h3⟩ := hP
    replace h2 := h2.symm
    subst h2
    replace h3 := h3.symm
    subst h3
    refine a_icmp_lt cx (tgt := 25) dX3_beamlineNumbered_12 (by decide) (fun c_12 => ?_) (fun c_12 => ?_)
    · have hok : okL C b := ⟨c_1, fun h => lt_ge c_12 h⟩
      obtain ⟨hb1, hb2⟩ := okL_ix hI hok
      have hsp := sp_get_line (l := l) hH hI hb2
      rw [← hb1] at hsp
      have hget := H_beam hH hI hb2
      refine a_aload_n cx dX3_beamlineNumbered_25 rfl rfl ?_
      refine gf_X3_10 cx hO dX3_beamlineNumbered_26 ?_
      refine a_iload_n cx dX3_beamlineNumbered_29 rfl rfl ?_
      refine a_callV cx 1 (hsp) hL1 rfl ml_X3_224 im_Jx4a65c_get_915e3 se_Jx4a65c_get_915e3 ini_Jx4a65c cd_Jx4a65c_get_915e3 rfl rfl (by decide +kernel) rfl rfl ⟨(Nat.le_of_ble_eq_true rfl), (Nat.le_of_ble_eq_true rfl)⟩ (Nat.le_of_ble_eq_true rfl) dX3_beamlineNumbered_30 ⟨(Nat.le_of_ble_eq_true rfl), (Nat.le_of_ble_eq_true rfl)⟩ (fun _ _ _ h => h.elim) (fun v9 ad9 τ9 hP => ?_)
      obtain ⟨rfl, h2, h3⟩ := hP
      replace h2 := h2.symm
      subst h2
      replace h3 := h3.symm
      subst h3
      refine a_castS cx hget rfl cl_X3_52 dX3_beamlineNumbered_33 ?_
      exact a_aret cx hr dX3_beamlineNumbered_36 (Or.inl ⟨_, rfl⟩) (by first | exact Or.inr ⟨_, rfl⟩ | exact Or.inl rfl) (Nat.le_of_ble_eq_true rfl) (Nat.le_of_ble_eq_true rfl) ⟨hok, rfl, rfl, rfl⟩
    · exact a_throw cx "no such beamline" ["java/lang/RuntimeException", "java/lang/Exception"] hout (by decide +kernel) fit_names cl_X3_109 ini_IndexOutOfBoundsException th_113.1 th_113.2 (by decide +kernel) dX3_beamlineNumbered_15 dX3_beamlineNumbered_18 dX3_beamlineNumbered_19 dX3_beamlineNumbered_21 dX3_beamlineNumbered_24 (Nat.le_of_ble_eq_true rfl) (Nat.le_of_ble_eq_true rfl) (Nat.le_of_ble_eq_true rfl) (Nat.le_of_ble_eq_true rfl) (Nat.le_of_ble_eq_true rfl) (Nat.le_of_ble_eq_true rfl) ⟨fun h => c_12 (le_gt h.2), rfl, rfl, rfl⟩

set_option maxHeartbeats 4000000 in
set_option maxRecDepth 100000 in
theorem sp_X3_proposalNumbered {l : Launch} {g : GW} {ad : AD} {τ : RH} {Lv : Nat → Bool} {C : ME} {ρ : RH} {b : Int32} (hH : HH g ad Lv C ρ τ) (hI : cI Lv C) : Sp l g yX3_proposalNumbered (.code yX3_proposalNumbered cX3_proposalNumbered 2 (some (.object "BeamOffice$Proposal"))) (rmv 6 1 6) [.ref (ad 0), .int b] ad τ 1 6 (fun v ad' τ' => okP C b ∧ v = some (.ref (ad (40 + tn b))) ∧ ad' = ad ∧ τ' = τ) (fun E ad' τ' => ¬ okP C b ∧ E = "java/lang/IndexOutOfBoundsException" ∧ ad' = ad ∧ τ' = τ) := by
  refine Sp.of 0 [some (.ref (ad 0)), some (.int b)] (by decide +kernel) (Nat.le_of_ble_eq_true rfl) rfl ?_
  intro p e s m args below meth c A cx hout hr hnm
  obtain ⟨hO, hL1, hL3, hs1, hs3⟩ := H_lines hH hI
  refine a_iload_n cx dX3_proposalNumbered_0 rfl rfl ?_
  refine a_if_lt cx (tgt := 15) dX3_proposalNumbered_1 (by decide) (fun c_1 => ?_) (fun c_1 => ?_)
  · exact a_throw cx "no such proposal" ["java/lang/RuntimeException", "java/lang/Exception"] hout (by decide +kernel) fit_names cl_X3_109 ini_IndexOutOfBoundsException th_113.1 th_113.2 (by decide +kernel) dX3_proposalNumbered_15 dX3_proposalNumbered_18 dX3_proposalNumbered_19 dX3_proposalNumbered_21 dX3_proposalNumbered_24 (Nat.le_of_ble_eq_true rfl) (Nat.le_of_ble_eq_true rfl) (Nat.le_of_ble_eq_true rfl) (Nat.le_of_ble_eq_true rfl) (Nat.le_of_ble_eq_true rfl) (Nat.le_of_ble_eq_true rfl) ⟨fun h => h.1 c_1, rfl, rfl, rfl⟩
  · refine a_iload_n cx dX3_proposalNumbered_4 rfl rfl ?_
    refine a_aload_n cx dX3_proposalNumbered_5 rfl rfl ?_
    refine gf_X3_16 cx hO dX3_proposalNumbered_6 ?_
    refine a_callV cx 0 (sp_Jx4a65c_size_8abf5 hL3) hL3 rfl ml_X3_43 im_Jx4a65c_size_8abf5 se_Jx4a65c_size_8abf5 ini_Jx4a65c cd_Jx4a65c_size_8abf5 rfl rfl (by decide +kernel) rfl rfl ⟨(Nat.le_of_ble_eq_true rfl), (Nat.le_of_ble_eq_true rfl)⟩ (Nat.le_of_ble_eq_true rfl) dX3_proposalNumbered_9 ⟨(Nat.le_of_ble_eq_true rfl), (Nat.le_of_ble_eq_true rfl)⟩ (fun _ _ _ h => h.elim) (fun v9 ad9 τ9 hP => ?_)
    obtain ⟨rfl, h2, h3⟩ := hP
    replace h2 := h2.symm
    subst h2
    replace h3 := h3.symm
    subst h3
    refine a_icmp_lt cx (tgt := 25) dX3_proposalNumbered_12 (by decide) (fun c_12 => ?_) (fun c_12 => ?_)
    · have hok : okP C b := ⟨c_1, fun h => lt_ge c_12 h⟩
      obtain ⟨hb1, hb2⟩ := okP_ix hI hok
      have hsp := sp_get_prop (l := l) hH hI hb2
      rw [← hb1] at hsp
      have hget := H_prop hH hI hb2
      refine a_aload_n cx dX3_proposalNumbered_25 rfl rfl ?_
      refine gf_X3_16 cx hO dX3_proposalNumbered_26 ?_
      refine a_iload_n cx dX3_proposalNumbered_29 rfl rfl ?_
      refine a_callV cx 1 (hsp) hL3 rfl ml_X3_224 im_Jx4a65c_get_915e3 se_Jx4a65c_get_915e3 ini_Jx4a65c cd_Jx4a65c_get_915e3 rfl rfl (by decide +kernel) rfl rfl ⟨(Nat.le_of_ble_eq_true rfl), (Nat.le_of_ble_eq_true rfl)⟩ (Nat.le_of_ble_eq_true rfl) dX3_proposalNumbered_30 ⟨(Nat.le_of_ble_eq_true rfl), (Nat.le_of_ble_eq_true rfl)⟩ (fun _ _ _ h => h.elim) (fun v9 ad9 τ9 hP => ?_)
      obtain ⟨rfl, h2, h3⟩ := hP
      replace h2 := h2.symm
      subst h2
      replace h3 := h3.symm
      subst h3
      refine a_castS cx hget rfl cl_X3_86 dX3_proposalNumbered_33 ?_
      exact a_aret cx hr dX3_proposalNumbered_36 (Or.inl ⟨_, rfl⟩) (by first | exact Or.inr ⟨_, rfl⟩ | exact Or.inl rfl) (Nat.le_of_ble_eq_true rfl) (Nat.le_of_ble_eq_true rfl) ⟨hok, rfl, rfl, rfl⟩
    · exact a_throw cx "no such proposal" ["java/lang/RuntimeException", "java/lang/Exception"] hout (by decide +kernel) fit_names cl_X3_109 ini_IndexOutOfBoundsException th_113.1 th_113.2 (by decide +kernel) dX3_proposalNumbered_15 dX3_proposalNumbered_18 dX3_proposalNumbered_19 dX3_proposalNumbered_21 dX3_proposalNumbered_24 (Nat.le_of_ble_eq_true rfl) (Nat.le_of_ble_eq_true rfl) (Nat.le_of_ble_eq_true rfl) (Nat.le_of_ble_eq_true rfl) (Nat.le_of_ble_eq_true rfl) (Nat.le_of_ble_eq_true rfl) ⟨fun h => c_12 (le_gt h.2), rfl, rfl, rfl⟩

def cMark (f : Nat → Int32) (x : Int32) : Int32 := if x < 0 ∨ nI 10 ≤ x then 0 else if f (tn x) = 0 then 0 else 1
theorem le_nI {a b : Nat} (h : nI a ≤ nI b) (ha : b < 2 ^ 31) (hb : a < 2 ^ 31) : a ≤ b := (nI_leI hb ha).mp h
set_option maxHeartbeats 4000000 in
set_option maxRecDepth 100000 in
theorem sp_X3_isMarked {l : Launch} {g : GW} {ad : AD} {τ : RH} {r0 : Nat} {x : Int32} {f : Nat → Int32} (ha : τ r0 = some (arZ g 10 f)) : Sp l g yX3_isMarked (.code yX3_isMarked cX3_isMarked 2 (some .boolean)) (rmv 0 0 0) [.ref (ad r0), .int x] ad τ 0 0 (fun v ad' τ' => v = some (.int (cMark f x)) ∧ ad' = ad ∧ τ' = τ) (NoX) := by
  refine Sp.of 0 [some (.ref (ad r0)), some (.int x)] (by decide +kernel) (Nat.le_of_ble_eq_true rfl) rfl ?_
  intro p e s m args below meth c A cx hout hr hnm
  refine a_iload_n cx dX3_isMarked_0 rfl rfl ?_
  refine a_if_lt cx (tgt := 20) dX3_isMarked_1 (by decide) (fun c_1 => ?_) (fun c_1 => ?_)
  · refine a_iconst cx (v := 0) dX3_isMarked_20 (by decide) ?_
    exact a_zret cx hr dX3_isMarked_21 (by first | rfl | decide) (Nat.le_of_ble_eq_true rfl) (Nat.le_of_ble_eq_true rfl) ⟨vI (by unfold cMark; rw [if_pos (Or.inl c_1)]), rfl, rfl⟩
  · refine a_iload_n cx dX3_isMarked_4 rfl rfl ?_
    refine a_aload_n cx dX3_isMarked_5 rfl rfl ?_
    refine a_alen cx 2 ha rfl rfl dX3_isMarked_6 ?_
    refine a_icmp_ge cx (tgt := 20) dX3_isMarked_7 (by decide) (fun c_7 => ?_) (fun c_7 => ?_)
    · refine a_iconst cx (v := 0) dX3_isMarked_20 (by decide) ?_
      exact a_zret cx hr dX3_isMarked_21 (by first | rfl | decide) (Nat.le_of_ble_eq_true rfl) (Nat.le_of_ble_eq_true rfl) ⟨vI (by unfold cMark; rw [if_pos (show _ ∨ nI 10 ≤ _ from Or.inr c_7)]), rfl, rfl⟩
    · refine a_aload_n cx dX3_isMarked_10 rfl rfl ?_
      refine a_iload_n cx dX3_isMarked_11 rfl rfl ?_
      refine a_zld cx (tn x) ha ((ix_lt c_1 c_7 (by decide)).1) ((ix_lt c_1 c_7 (by decide)).2) (by decide) dX3_isMarked_12 ?_
      refine a_if_eq cx (tgt := 20) dX3_isMarked_13 (by decide) (fun c_13 => ?_) (fun c_13 => ?_)
      · refine a_iconst cx (v := 0) dX3_isMarked_20 (by decide) ?_
        exact a_zret cx hr dX3_isMarked_21 (by first | rfl | decide) (Nat.le_of_ble_eq_true rfl) (Nat.le_of_ble_eq_true rfl) ⟨vI (by unfold cMark; rw [if_neg (show ¬ (_ ∨ nI 10 ≤ _) from fun h => h.elim c_1 c_7), if_pos c_13]), rfl, rfl⟩
      · refine a_iconst cx (v := 1) dX3_isMarked_16 (by decide) ?_
        refine a_goto cx (tgt := 21) dX3_isMarked_17 (by decide) ?_
        exact a_zret cx hr dX3_isMarked_21 (by first | rfl | decide) (Nat.le_of_ble_eq_true rfl) (Nat.le_of_ble_eq_true rfl) ⟨vI (by unfold cMark; rw [if_neg (show ¬ (_ ∨ nI 10 ≤ _) from fun h => h.elim c_1 c_7), if_neg c_13]), rfl, rfl⟩

def kKind (x : Int32) : Int32 := if x = 45 then 100 else if x = 113 then 105 else if x = 102 then 108 else 109
set_option maxHeartbeats 4000000 in
set_option maxRecDepth 100000 in
theorem sp_X3_kindFor {l : Launch} {g : GW} {ad : AD} {τ : RH} {x : Int32}  : Sp l g yX3_kindFor (.code yX3_kindFor cX3_kindFor 1 (some .char)) (rmv 0 0 0) [.int x] ad τ 0 0 (fun v ad' τ' => v = some (.int (kKind x)) ∧ ad' = ad ∧ τ' = τ) (NoX) := by
  refine Sp.of 0 [some (.int x)] (by decide +kernel) (Nat.le_of_ble_eq_true rfl) rfl ?_
  intro p e s m args below meth c A cx hout hr hnm
  refine a_iload_n cx dX3_kindFor_0 rfl rfl ?_
  refine a_bipush cx (v := 45) dX3_kindFor_1 (by decide) ?_
  refine a_icmp_ne cx (tgt := 9) dX3_kindFor_3 (by decide) (fun c_3 => ?_) (fun c_3 => ?_)
  · refine a_iload_n cx dX3_kindFor_9 rfl rfl ?_
    refine a_bipush cx (v := 113) dX3_kindFor_10 (by decide) ?_
    refine a_icmp_ne cx (tgt := 18) dX3_kindFor_12 (by decide) (fun c_12 => ?_) (fun c_12 => ?_)
    · refine a_iload_n cx dX3_kindFor_18 rfl rfl ?_
      refine a_bipush cx (v := 102) dX3_kindFor_19 (by decide) ?_
      refine a_icmp_ne cx (tgt := 27) dX3_kindFor_21 (by decide) (fun c_21 => ?_) (fun c_21 => ?_)
      · refine a_bipush cx (v := 109) dX3_kindFor_27 (by decide) ?_
        exact a_zret cx hr dX3_kindFor_29 (by first | rfl | decide) (Nat.le_of_ble_eq_true rfl) (Nat.le_of_ble_eq_true rfl) ⟨vI (by unfold kKind; rw [if_neg c_3, if_neg c_12, if_neg c_21]), rfl, rfl⟩
      · refine a_bipush cx (v := 108) dX3_kindFor_24 (by decide) ?_
        exact a_zret cx hr dX3_kindFor_26 (by first | rfl | decide) (Nat.le_of_ble_eq_true rfl) (Nat.le_of_ble_eq_true rfl) ⟨vI (by subst c_21; rfl), rfl, rfl⟩
    · refine a_bipush cx (v := 105) dX3_kindFor_15 (by decide) ?_
      exact a_zret cx hr dX3_kindFor_17 (by first | rfl | decide) (Nat.le_of_ble_eq_true rfl) (Nat.le_of_ble_eq_true rfl) ⟨vI (by subst c_12; rfl), rfl, rfl⟩
  · refine a_bipush cx (v := 100) dX3_kindFor_6 (by decide) ?_
    exact a_zret cx hr dX3_kindFor_8 (by first | rfl | decide) (Nat.le_of_ble_eq_true rfl) (Nat.le_of_ble_eq_true rfl) ⟨vI (by subst c_3; rfl), rfl, rfl⟩

theorem H_kept' {g : GW} {ad : AD} {Lv : Nat → Bool} {C : ME} {ρ τ : RH} (hH : HH g ad Lv C ρ τ) (hI : cI Lv C) {b : Nat} (hb : b < cNb C) : τ (10 + 10 * b + 3) = some (calO ad (10 + 10 * b + 4) (cNq C b) (C (13 + 10 * b) 2)) ∧ τ (10 + 10 * b + 4) = some (arI g 8 (C (14 + 10 * b))) ∧ cNq C b ≤ 8 := by
  have h := H_kept hH hI hb
  rw [show 13 + 10 * b = 10 + 10 * b + 3 by omega, show 14 + 10 * b = 10 + 10 * b + 4 by omega] at h
  rw [show 13 + 10 * b = 10 + 10 * b + 3 by omega, show 14 + 10 * b = 10 + 10 * b + 4 by omega]
  exact h
theorem H_queue' {g : GW} {ad : AD} {Lv : Nat → Bool} {C : ME} {ρ τ : RH} (hH : HH g ad Lv C ρ τ) (hI : cI Lv C) {b : Nat} (hb : b < cNb C) : τ (10 + 10 * b + 1) = some (liO (C (11 + 10 * b) 0) (if cNq C b = 0 then .ref g.2.2.1 else .ref (ad (12 + 10 * b))) (cNq C b)) := by
  obtain ⟨h, hb2⟩ := cI_lin hI hb
  have h2 := H_lis hH (by omega) (ob_queue hb2) h.2.2.2.2.2.2.2.1
  rw [show 11 + 10 * b + 1 = 12 + 10 * b by omega] at h2
  rw [show 10 + 10 * b + 1 = 11 + 10 * b by omega]
  exact h2
/-- what a place of the queue holds -/
def cAt (C : ME) (b : Nat) (p : Int32) : Option Nat := if p < 0 ∨ nI (cNq C b) ≤ p then none else some (tn (C (12 + 10 * b) (tn p)))
def cCur (C : ME) (b : Nat) : Option Nat := cAt C b (oI (kFst (cNq C b) (C (14 + 10 * b))))
theorem cAt_lt {Lv : Nat → Bool} {C : ME} (hI : cI Lv C) {b : Nat} (hb : b < cNb C) {p : Int32} {j : Nat} (h : cAt C b p = some j) : j < cNp C := by
  unfold cAt at h
  by_cases h1 : p < 0 ∨ nI (cNq C b) ≤ p
  · rw [if_pos h1] at h; cases h
  · rw [if_neg h1] at h; cases h
    have hb2 := (cI_lin hI hb).2
    obtain ⟨⟨-, -, -, -, -, -, h3, -, -, -, -, h4⟩, -⟩ := cI_lin hI hb
    obtain ⟨q, hq, hq2⟩ := h4 (tn p) (ix_lt (fun x => h1 (Or.inl x)) (fun x => h1 (Or.inr x)) (by omega)).2
    have := hI.2.1
    rw [hq2, tn_nI (by omega)]; exact hq
set_option maxHeartbeats 4000000 in
set_option maxRecDepth 100000 in
/-- proposalAt(place) -/
theorem sp_X0_proposalAt {l : Launch} {g : GW} {ad : AD} {τ : RH} {Lv : Nat → Bool} {C : ME} {ρ : RH} {b : Nat} {q : Int32} (hH : HH g ad Lv C ρ τ) (hI : cI Lv C) (hb : b < cNb C) : Sp l g yX0_proposalAt (.code yX0_proposalAt cX0_proposalAt 2 (some (.object "BeamOffice$Proposal"))) (rmv 4 0 0) [.ref (ad (10 + 10 * b)), .int q] ad τ 0 0 (fun v ad' τ' => v = some (va_rf ((cAt C b q).map fun j => ad (40 + j))) ∧ ad' = ad ∧ τ' = τ) (NoX) := by
  refine Sp.of 0 [some (.ref (ad (10 + 10 * b))), some (.int q)] (by decide +kernel) (Nat.le_of_ble_eq_true rfl) rfl ?_
  intro p e s m args below meth c A cx hout hr hnm
  have hB := H_beam hH hI hb
  have hQ := H_queue' hH hI hb
  have hq8 := (H_kept' hH hI hb).2.2
  refine a_iload_n cx dX0_proposalAt_0 rfl rfl ?_
  refine a_if_lt cx (tgt := 15) dX0_proposalAt_1 (by decide) (fun c_1 => ?_) (fun c_1 => ?_)
  · refine a_null cx dX0_proposalAt_15 ?_
    exact a_aret cx hr dX0_proposalAt_16 (Or.inl ⟨_, rfl⟩) (Or.inl rfl) (Nat.le_of_ble_eq_true rfl) (Nat.le_of_ble_eq_true rfl) ⟨by unfold cAt; rw [if_pos (Or.inl c_1)]; rfl, rfl, rfl⟩
  · refine a_iload_n cx dX0_proposalAt_4 rfl rfl ?_
    refine a_aload_n cx dX0_proposalAt_5 rfl rfl ?_
    refine gf_X0_12 cx hB dX0_proposalAt_6 ?_
    refine a_callV cx 0 (sp_Jx4a65c_size_8abf5 hQ) hQ rfl ml_X0_75 im_Jx4a65c_size_8abf5 se_Jx4a65c_size_8abf5 ini_Jx4a65c cd_Jx4a65c_size_8abf5 rfl rfl (by decide +kernel) rfl rfl ⟨(Nat.le_of_ble_eq_true rfl), (Nat.le_of_ble_eq_true rfl)⟩ (Nat.le_of_ble_eq_true rfl) dX0_proposalAt_9 ⟨(Nat.le_of_ble_eq_true rfl), (Nat.le_of_ble_eq_true rfl)⟩ (fun _ _ _ h => h.elim) (fun v9 ad9 τ9 hP => ?_)
    obtain ⟨rfl, h2, h3⟩ := hP
    replace h2 := h2.symm
    subst h2
    replace h3 := h3.symm
    subst h3
    refine a_icmp_lt cx (tgt := 17) dX0_proposalAt_12 (by decide) (fun c_12 => ?_) (fun c_12 => ?_)
    · have hi := ix_lt' c_1 c_12 (by omega)
      have hsp := sp_get_queue (l := l) hH hI hb hi.2
      rw [← hi.1, show 11 + 10 * b = 10 + 10 * b + 1 by omega] at hsp
      have hcat : cAt C b q = some (tn (C (12 + 10 * b) (tn q))) := by unfold cAt; rw [if_neg (fun h => h.elim c_1 (fun h => lt_ge c_12 h))]
      have hget := H_prop hH hI (cAt_lt hI hb hcat)
      refine a_aload_n cx dX0_proposalAt_17 rfl rfl ?_
      refine gf_X0_12 cx hB dX0_proposalAt_18 ?_
      refine a_iload_n cx dX0_proposalAt_21 rfl rfl ?_
      refine a_callV cx 1 (hsp) hQ rfl ml_X0_79 im_Jx4a65c_get_915e3 se_Jx4a65c_get_915e3 ini_Jx4a65c cd_Jx4a65c_get_915e3 rfl rfl (by decide +kernel) rfl rfl ⟨(Nat.le_of_ble_eq_true rfl), (Nat.le_of_ble_eq_true rfl)⟩ (Nat.le_of_ble_eq_true rfl) dX0_proposalAt_22 ⟨(Nat.le_of_ble_eq_true rfl), (Nat.le_of_ble_eq_true rfl)⟩ (fun _ _ _ h => h.elim) (fun v9 ad9 τ9 hP => ?_)
      obtain ⟨rfl, h2, h3⟩ := hP
      replace h2 := h2.symm
      subst h2
      replace h3 := h3.symm
      subst h3
      refine a_castS cx hget rfl cl_X0_60 dX0_proposalAt_25 ?_
      exact a_aret cx hr dX0_proposalAt_28 (Or.inl ⟨_, rfl⟩) (by first | exact Or.inr ⟨_, rfl⟩ | exact Or.inl rfl) (Nat.le_of_ble_eq_true rfl) (Nat.le_of_ble_eq_true rfl) ⟨by rw [hcat]; rfl, rfl, rfl⟩
    · refine a_null cx dX0_proposalAt_15 ?_
      exact a_aret cx hr dX0_proposalAt_16 (Or.inl ⟨_, rfl⟩) (Or.inl rfl) (Nat.le_of_ble_eq_true rfl) (Nat.le_of_ble_eq_true rfl) ⟨by unfold cAt; rw [if_pos (Or.inr (ge_lt c_12))]; rfl, rfl, rfl⟩

set_option maxHeartbeats 4000000 in
set_option maxRecDepth 100000 in
/-- current() -/
theorem sp_X0_current {l : Launch} {g : GW} {ad : AD} {τ : RH} {Lv : Nat → Bool} {C : ME} {ρ : RH} {b : Nat} (hH : HH g ad Lv C ρ τ) (hI : cI Lv C) (hb : b < cNb C) : Sp l g yX0_current (.code yX0_current cX0_current 1 (some (.object "BeamOffice$Proposal"))) (rmv 5 0 0) [.ref (ad (10 + 10 * b))] ad τ 0 0 (fun v ad' τ' => v = some (va_rf ((cCur C b).map fun j => ad (40 + j))) ∧ ad' = ad ∧ τ' = τ) (NoX) := by
  refine Sp.of 0 [some (.ref (ad (10 + 10 * b)))] (by decide +kernel) (Nat.le_of_ble_eq_true rfl) rfl ?_
  intro p e s m args below meth c A cx hout hr hnm
  have hB := H_beam hH hI hb
  have hK := H_kept' hH hI hb
  refine a_aload_n cx dX0_current_0 rfl rfl ?_
  refine a_aload_n cx dX0_current_1 rfl rfl ?_
  refine gf_X0_21 cx hB dX0_current_2 ?_
  refine a_callV cx 0 (sp_X1_firstPlace hK.1 hK.2.1 hK.2.2) hK.1 rfl ml_X0_83 im_X1_firstPlace se_X1_firstPlace ini_X1 cd_X1_firstPlace rfl rfl (by decide +kernel) rfl rfl ⟨(Nat.le_of_ble_eq_true rfl), (Nat.le_of_ble_eq_true rfl)⟩ (Nat.le_of_ble_eq_true rfl) dX0_current_5 ⟨(Nat.le_of_ble_eq_true rfl), (Nat.le_of_ble_eq_true rfl)⟩ (fun _ _ _ h => h.elim) (fun v9 ad9 τ9 hP => ?_)
  obtain ⟨rfl, h2, h3⟩ := hP
  replace h2 := h2.symm
  subst h2
  replace h3 := h3.symm
  subst h3
  refine a_callV cx 1 (sp_X0_proposalAt hH hI hb) hB rfl ml_X0_86 im_X0_proposalAt se_X0_proposalAt ini_X0 cd_X0_proposalAt rfl rfl (by decide +kernel) rfl rfl ⟨(Nat.le_of_ble_eq_true rfl), (Nat.le_of_ble_eq_true rfl)⟩ (Nat.le_of_ble_eq_true rfl) dX0_current_8 ⟨(Nat.le_of_ble_eq_true rfl), (Nat.le_of_ble_eq_true rfl)⟩ (fun _ _ _ h => h.elim) (fun v9 ad9 τ9 hP => ?_)
  obtain ⟨rfl, h2, h3⟩ := hP
  replace h2 := h2.symm
  subst h2
  replace h3 := h3.symm
  subst h3
  exact a_aret cx hr dX0_current_11 (Or.inl ⟨_, rfl⟩) (va_rf_or _) (Nat.le_of_ble_eq_true rfl) (Nat.le_of_ble_eq_true rfl) ⟨rfl, rfl, rfl⟩

set_option maxHeartbeats 4000000 in
set_option maxRecDepth 100000 in
/-- leftKept(proposal) -/
theorem sp_X3_leftKept {l : Launch} {g : GW} {ad : AD} {τ : RH} {Lv : Nat → Bool} {C : ME} {ρ : RH} {j : Nat} (hH : HH g ad Lv C ρ τ) (hI : cI Lv C) (hj : j < cNp C) : Sp l g yX3_leftKept (.code yX3_leftKept cX3_leftKept 1 (some .int)) (rmv 3 0 0) [.ref (ad (40 + j))] ad τ 0 0 (fun v ad' τ' => v = some (.int (kAt (cNq C (tn (C (40 + j) 1))) (C (14 + 10 * tn (C (40 + j) 1))) (C (40 + j) 6))) ∧ ad' = ad ∧ τ' = τ) (NoX) := by
  refine Sp.of 0 [some (.ref (ad (40 + j)))] (by decide +kernel) (Nat.le_of_ble_eq_true rfl) rfl ?_
  intro p e s m args below meth c A cx hout hr hnm
  have hP := H_prop2 hH hI hj
  obtain ⟨⟨-, -, ln, hln, hln2⟩, hj8⟩ := cI_prp hI hj
  have hln3 : tn (C (40 + j) 1) < cNb C := by rw [hln2, tn_nI (by have := hI.1; omega)]; exact hln
  have hB := H_beam hH hI hln3
  have hK := H_kept' hH hI hln3
  refine a_aload_n cx dX3_leftKept_0 rfl rfl ?_
  refine gf_X3_183 cx hP dX3_leftKept_1 ?_
  refine gf_X3_100 cx hB dX3_leftKept_4 ?_
  refine a_aload_n cx dX3_leftKept_7 rfl rfl ?_
  refine gf_X3_193 cx hP dX3_leftKept_8 ?_
  refine a_callV cx 1 (sp_X1_leftAt hK.1 hK.2.1 hK.2.2) hK.1 rfl ml_X3_196 im_X1_leftAt se_X1_leftAt ini_X1 cd_X1_leftAt rfl rfl (by decide +kernel) rfl rfl ⟨(Nat.le_of_ble_eq_true rfl), (Nat.le_of_ble_eq_true rfl)⟩ (Nat.le_of_ble_eq_true rfl) dX3_leftKept_11 ⟨(Nat.le_of_ble_eq_true rfl), (Nat.le_of_ble_eq_true rfl)⟩ (fun _ _ _ h => h.elim) (fun v9 ad9 τ9 hP => ?_)
  obtain ⟨rfl, h2, h3⟩ := hP
  replace h2 := h2.symm
  subst h2
  replace h3 := h3.symm
  subst h3
  exact a_iret cx hr dX3_leftKept_14 (Nat.le_of_ble_eq_true rfl) (Nat.le_of_ble_eq_true rfl) ⟨rfl, rfl, rfl⟩

