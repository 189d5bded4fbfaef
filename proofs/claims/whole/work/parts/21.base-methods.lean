theorem Sp.mono {l : Launch} {g : GW} {y : MethodName} {cw : Cond} {rm : Room} {As : List Value} {ad : AD} {τ : RH} {mc ms : Nat} {P P' : Option Value → AD → RH → Prop} {X X' : String → AD → RH → Prop} (h : Sp l g y cw rm As ad τ mc ms P X) (hP : ∀ v a t, P v a t → P' v a t) (hX : ∀ E a t, X E a t → X' E a t) : Sp l g y cw rm As ad τ mc ms P' X' := by
  intro hl sz p e ha hc hk s m args below hf happ hPc hW
  obtain ⟨k, o, h1, h2, h3, h4⟩ := h hl sz p e ha hc hk s m args below hf happ hPc hW
  refine ⟨k, o, h1, h2, h3, ?_⟩
  rcases h4 with ⟨⟨⟨v, ad', τ', a1, a2, a3⟩, a4⟩, a5⟩ | ⟨q, b1, E, ce, L, ⟨⟨ad', τ', b2, b3⟩, b4⟩, b5⟩
  · exact Or.inl ⟨⟨⟨v, ad', τ', a1, hP _ _ _ a2, a3⟩, a4⟩, a5⟩
  · exact Or.inr ⟨q, b1, E, ce, L, ⟨⟨ad', τ', hX _ _ _ b2, b3⟩, b4⟩, b5⟩
theorem H_lis {g : GW} {ad : AD} {Lv : Nat → Bool} {C : ME} {ρ τ : RH} {r n : Nat} (hH : HH g ad Lv C ρ τ) (hr : r < 84) (ho : ob g ad r (C r) = lisO g ad r (C r)) (hc : cLis Lv C r n) : τ r = some (liO (C r 0) (if n = 0 then .ref g.2.2 else .ref (ad (r + 1))) n) := by
  rw [hH.at hr hc.2.2.1, ho]
  unfold lisO liO
  rw [hc.1, hc.2.1]
  by_cases h : n = 0
  · rw [if_pos h, if_pos h, if_pos rfl]
  · rw [if_neg h, if_neg h, if_neg (by decide)]
theorem H_lis1 {g : GW} {ad : AD} {Lv : Nat → Bool} {C : ME} {ρ τ : RH} {r n : Nat} (hH : HH g ad Lv C ρ τ) (hr : r < 84) (ho : ob g ad r (C r) = lisO g ad r (C r)) (hc : cLis Lv C r n) (h0 : 0 < n) : τ r = some (liO (C r 0) (.ref (ad (r + 1))) n) := by
  have h := H_lis hH hr ho hc
  rw [if_neg (by omega)] at h
  exact h
theorem H_row {g : GW} {ad : AD} {Lv : Nat → Bool} {C : ME} {ρ τ : RH} {r n : Nat} (hH : HH g ad Lv C ρ τ) (hr : r + 1 < 84) (hc : cLis Lv C r n) (h0 : 0 < n) : τ (r + 1) = some (ob g ad (r + 1) (C (r + 1))) := hH.at hr (by rw [hc.2.2.2]; exact decide_eq_true h0)
theorem row_ref {ad : AD} {w : Nat → Int32} {f : Nat → Nat} {k q : Nat} (h : w k = nI q) (hq : q < 2 ^ 31) : va_rf (if w k < 0 then none else some (ad (f (tn (w k))))) = .ref (ad (f q)) := by
  rw [if_neg (by rw [h]; exact nI_pos hq), h, tn_nI hq]; rfl
/-- get of the lists -/
theorem sp_get_line {l : Launch} {g : GW} {ad : AD} {τ : RH} {Lv : Nat → Bool} {C : ME} {ρ : RH} (hH : HH g ad Lv C ρ τ) (hI : cI Lv C) {k : Nat} (hk : k < cNb C) : Sp l g yJx4a65c_get_915e3 (.code yJx4a65c_get_915e3 cJx4a65c_get_915e3 2 (some (.object "java/lang/Object"))) (rmv 2 0 0) [.ref (ad 1), .int (nI k)] ad τ 0 0 (fun v ad' τ' => v = some (.ref (ad (10 + 10 * k))) ∧ ad' = ad ∧ τ' = τ) NoX := by
  obtain ⟨h1, h2, -, -, -, h3, -, h4, -⟩ := hI
  have e := row_ref (ad := ad) (w := C 2) (f := fun i => 10 + 10 * i) (h4 k hk) (by omega)
  have h := sp_Jx4a65c_get_915e3 (l := l) (N := 10) (H_lis1 hH (by decide) rfl h3 (by omega)) (H_row hH (by decide) h3 (by omega)) hk (by omega) (by decide)
  exact h.mono (fun v a t q => ⟨by rw [q.1, e], q.2⟩) (fun _ _ _ q => q)
theorem sp_get_prop {l : Launch} {g : GW} {ad : AD} {τ : RH} {Lv : Nat → Bool} {C : ME} {ρ : RH} (hH : HH g ad Lv C ρ τ) (hI : cI Lv C) {k : Nat} (hk : k < cNp C) : Sp l g yJx4a65c_get_915e3 (.code yJx4a65c_get_915e3 cJx4a65c_get_915e3 2 (some (.object "java/lang/Object"))) (rmv 2 0 0) [.ref (ad 3), .int (nI k)] ad τ 0 0 (fun v ad' τ' => v = some (.ref (ad (40 + k))) ∧ ad' = ad ∧ τ' = τ) NoX := by
  obtain ⟨h1, h2, -, -, -, -, h3, -, h4, -⟩ := hI
  have e := row_ref (ad := ad) (w := C 4) (f := fun i => 40 + i) (h4 k hk) (by omega)
  have h := sp_Jx4a65c_get_915e3 (l := l) (N := 10) (H_lis1 hH (by decide) rfl h3 (by omega)) (H_row hH (by decide) h3 (by omega)) hk (by omega) (by decide)
  exact h.mono (fun v a t q => ⟨by rw [q.1, e], q.2⟩) (fun _ _ _ q => q)
theorem cI_lin {Lv : Nat → Bool} {C : ME} (hI : cI Lv C) {b : Nat} (hb : b < cNb C) : cLin Lv C b ∧ b < 2 := ⟨hI.2.2.2.2.2.2.2.2.2.1 b hb, Nat.lt_of_lt_of_le hb hI.1⟩
theorem cI_prp {Lv : Nat → Bool} {C : ME} (hI : cI Lv C) {j : Nat} (hj : j < cNp C) : (Lv (40 + j) = true ∧ C (40 + j) 0 = nI j ∧ ∃ ln, ln < cNb C ∧ C (40 + j) 1 = nI ln) ∧ j < 8 := ⟨hI.2.2.2.2.2.2.2.2.2.2.2.1 j hj, Nat.lt_of_lt_of_le hj hI.2.1⟩
theorem sp_get_queue {l : Launch} {g : GW} {ad : AD} {τ : RH} {Lv : Nat → Bool} {C : ME} {ρ : RH} (hH : HH g ad Lv C ρ τ) (hI : cI Lv C) {b k : Nat} (hb : b < cNb C) (hk : k < cNq C b) : Sp l g yJx4a65c_get_915e3 (.code yJx4a65c_get_915e3 cJx4a65c_get_915e3 2 (some (.object "java/lang/Object"))) (rmv 2 0 0) [.ref (ad (11 + 10 * b)), .int (nI k)] ad τ 0 0 (fun v ad' τ' => v = some (.ref (ad (40 + tn (C (12 + 10 * b) k)))) ∧ ad' = ad ∧ τ' = τ) NoX := by
  obtain ⟨⟨-, -, -, -, -, -, h1, h3, -, -, -, h4⟩, hb2⟩ := cI_lin hI hb
  obtain ⟨q, hq, hq2⟩ := h4 k hk
  have h8 := hI.2.1
  have e := row_ref (ad := ad) (w := C (12 + 10 * b)) (f := fun i => 40 + i) hq2 (by omega)
  have hr := H_row hH (by omega) h3 (by omega)
  rw [show 11 + 10 * b + 1 = 12 + 10 * b by omega, ob_qrow hb2] at hr
  have hl := H_lis1 hH (by omega) (ob_queue hb2) h3 (by omega)
  rw [show 11 + 10 * b + 1 = 12 + 10 * b by omega] at hl
  have h := sp_Jx4a65c_get_915e3 (l := l) (N := 10) hl hr hk (by omega) (by decide)
  exact h.mono (fun v a t q => ⟨by rw [q.1, e, hq2, tn_nI (by omega)], q.2⟩) (fun _ _ _ q => q)
theorem H_beam {g : GW} {ad : AD} {Lv : Nat → Bool} {C : ME} {ρ τ : RH} (hH : HH g ad Lv C ρ τ) (hI : cI Lv C) {b : Nat} (hb : b < cNb C) : τ (10 + 10 * b) = some (beO ad (10 + 10 * b) (C (10 + 10 * b))) := by
  obtain ⟨h, hb2⟩ := cI_lin hI hb
  rw [hH.at (by omega) h.1, ob_beam hb2]
theorem H_prop {g : GW} {ad : AD} {Lv : Nat → Bool} {C : ME} {ρ τ : RH} (hH : HH g ad Lv C ρ τ) (hI : cI Lv C) {j : Nat} (hj : j < cNp C) : τ (40 + j) = some (ppO ad (C (40 + j))) := by
  obtain ⟨h, hj8⟩ := cI_prp hI hj
  rw [hH.at (by omega) h.1, ob_prop hj8]
theorem H_prop2 {g : GW} {ad : AD} {Lv : Nat → Bool} {C : ME} {ρ τ : RH} (hH : HH g ad Lv C ρ τ) (hI : cI Lv C) {j : Nat} (hj : j < cNp C) : τ (40 + j) = some (prO (C (40 + j) 0) (.ref (ad (10 + 10 * tn (C (40 + j) 1)))) (C (40 + j) 2) (C (40 + j) 3) (C (40 + j) 4) (C (40 + j) 5) (C (40 + j) 6) (C (40 + j) 7) (C (40 + j) 8) (C (40 + j) 9) (C (40 + j) 10) (C (40 + j) 11) (C (40 + j) 12)) := H_prop hH hI hj
theorem H_kept {g : GW} {ad : AD} {Lv : Nat → Bool} {C : ME} {ρ τ : RH} (hH : HH g ad Lv C ρ τ) (hI : cI Lv C) {b : Nat} (hb : b < cNb C) : τ (13 + 10 * b) = some (calO ad (14 + 10 * b) (cNq C b) (C (13 + 10 * b) 2)) ∧ τ (14 + 10 * b) = some (arI g 8 (C (14 + 10 * b))) ∧ cNq C b ≤ 8 := by
  obtain ⟨⟨-, h1, h2, -, -, -, h3, -, h4, -⟩, hb2⟩ := cI_lin hI hb
  refine ⟨?_, by rw [hH.at (by omega) h2, ob_keptL hb2], h3⟩
  rw [hH.at (by omega) h1, ob_kept hb2]
  unfold caO calO
  rw [h4, show 13 + 10 * b + 1 = 14 + 10 * b by omega]
theorem H_lines {g : GW} {ad : AD} {Lv : Nat → Bool} {C : ME} {ρ τ : RH} (hH : HH g ad Lv C ρ τ) (hI : cI Lv C) : τ 0 = some (offO ad (C 0)) ∧ τ 1 = some (liO (C 1 0) (if cNb C = 0 then .ref g.2.2 else .ref (ad 2)) (cNb C)) ∧ τ 3 = some (liO (C 3 0) (if cNp C = 0 then .ref g.2.2 else .ref (ad 4)) (cNp C)) ∧ C 1 2 = nI (cNb C) ∧ C 3 2 = nI (cNp C) :=
  ⟨hH.at (by decide) hI.2.2.1, H_lis hH (by decide) rfl hI.2.2.2.2.2.1, H_lis hH (by decide) rfl hI.2.2.2.2.2.2.1, hI.2.2.2.2.2.1.1, hI.2.2.2.2.2.2.1.1⟩
/-- a number of a beamline, of a proposal -/
def okL (C : ME) (b : Int32) : Prop := ¬ b < 0 ∧ ¬ nI (cNb C) ≤ b
def okP (C : ME) (j : Int32) : Prop := ¬ j < 0 ∧ ¬ nI (cNp C) ≤ j
def win (x lo hi : Int32) : Prop := lo ≤ x ∧ x ≤ hi
theorem okL_ix {Lv : Nat → Bool} {C : ME} (hI : cI Lv C) {b : Int32} (h : okL C b) : b = nI (tn b) ∧ tn b < cNb C := ix_lt h.1 h.2 (by have := hI.1; omega)
theorem okP_ix {Lv : Nat → Bool} {C : ME} (hI : cI Lv C) {b : Int32} (h : okP C b) : b = nI (tn b) ∧ tn b < cNp C := ix_lt h.1 h.2 (by have := hI.2.1; omega)
theorem win_if {x lo hi : Int32} {v : Int32} (h : (v = 1 ∧ win x lo hi) ∨ (v = 0 ∧ ¬ win x lo hi)) : (v = 0 → ¬ win x lo hi) ∧ (¬ v = 0 → win x lo hi) := by
  rcases h with ⟨rfl, h⟩ | ⟨rfl, h⟩
  · exact ⟨fun q => absurd q (by decide), fun _ => h⟩
  · exact ⟨fun _ => h, fun q => absurd rfl q⟩
set_option maxHeartbeats 4000000 in
set_option maxRecDepth 100000 in
theorem sp_X3_isWithin {l : Launch} {g : GW} {ad : AD} {τ : RH} {x lo hi : Int32}  : Sp l g yX3_isWithin (.code yX3_isWithin cX3_isWithin 3 (some .boolean)) (rmv 0 0 0) [.int x, .int lo, .int hi] ad τ 0 0 (fun v ad' τ' => (∃ w, v = some (.int w) ∧ ((w = 1 ∧ win x lo hi) ∨ (w = 0 ∧ ¬ win x lo hi))) ∧ ad' = ad ∧ τ' = τ) (NoX) := by
  refine Sp.of 0 [some (.int x), some (.int lo), some (.int hi)] (by decide +kernel) (Nat.le_of_ble_eq_true rfl) rfl ?_
  intro p e s m args below meth c A cx hout hr hnm
  refine a_iload_n cx dX3_isWithin_0 rfl rfl ?_
  refine a_iload_n cx dX3_isWithin_1 rfl rfl ?_
  refine a_icmp_lt cx (tgt := 14) dX3_isWithin_2 (by decide) (fun c_2 => ?_) (fun c_2 => ?_)
  · refine a_iconst cx (v := 0) dX3_isWithin_14 (by decide) ?_
    exact a_zret cx hr dX3_isWithin_15 (by first | rfl | decide) (Nat.le_of_ble_eq_true rfl) (Nat.le_of_ble_eq_true rfl) ⟨⟨_, rfl, Or.inr ⟨rfl, fun h => c_2 (by rw [Int32.lt_iff_toInt_lt]; have := h.1; rw [Int32.le_iff_toInt_le] at this; omega)⟩⟩, rfl, rfl⟩
  · refine a_iload_n cx dX3_isWithin_5 rfl rfl ?_
    refine a_iload_n cx dX3_isWithin_6 rfl rfl ?_
    refine a_icmp_gt cx (tgt := 14) dX3_isWithin_7 (by decide) (fun c_7 => ?_) (fun c_7 => ?_)
    · refine a_iconst cx (v := 0) dX3_isWithin_14 (by decide) ?_
      exact a_zret cx hr dX3_isWithin_15 (by first | rfl | decide) (Nat.le_of_ble_eq_true rfl) (Nat.le_of_ble_eq_true rfl) ⟨⟨_, rfl, Or.inr ⟨rfl, fun h => c_2 (by rw [Int32.lt_iff_toInt_lt]; have := h.1; rw [Int32.le_iff_toInt_le] at this; omega)⟩⟩, rfl, rfl⟩
    · refine a_iconst cx (v := 1) dX3_isWithin_10 (by decide) ?_
      refine a_goto cx (tgt := 15) dX3_isWithin_11 (by decide) ?_
      exact a_zret cx hr dX3_isWithin_15 (by first | rfl | decide) (Nat.le_of_ble_eq_true rfl) (Nat.le_of_ble_eq_true rfl) ⟨⟨_, rfl, Or.inr ⟨rfl, fun h => c_2 (by rw [Int32.lt_iff_toInt_lt]; have := h.1; rw [Int32.le_iff_toInt_le] at this; omega)⟩⟩, rfl, rfl⟩

