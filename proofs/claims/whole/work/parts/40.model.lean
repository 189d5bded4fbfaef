/-! THE MODEL -/
section AHH
variable {l : Launch} {g : GW} {p : Program} {e : Env} {R : Room} {s : State} {m : MethodId} {args : Array Value} {below : List Frame} {meth : Method} {c : Code} {A : Nat → Prop} {nL : Nat} {Q : State → Prop} {ad : AD} {τ : RH} {cells slots pc : Nat} {lv : LV} {st : List Value}
theorem a_HH {Lv : Nat → Bool} {C : ME} {ρ : RH} (h : HH g ad Lv C ρ τ) (kk : ∀ τ', HH g ad Lv C ρ τ' → AW l g p e R s m args below meth c A nL Q ad τ' cells slots pc lv st) : AW l g p e R s m args below meth c A nL Q ad τ cells slots pc lv st := kk τ h
end AHH
def mL (Lv : Nat → Bool) : Prop := ∀ r, 60 ≤ r → r < 84 → Lv r = true
theorem M_row {g : GW} {ad : AD} {Lv : Nat → Bool} {C : ME} {ρ τ : RH} (hH : HH g ad Lv C ρ τ) (hL : mL Lv) : ∀ r, 60 ≤ r → r < 84 → τ r = some (ob g ad r (C r)) := fun r h1 h2 => hH.at h2 (hL r h1 h2)
theorem M_obj {g : GW} {ad : AD} {Lv : Nat → Bool} {C : ME} {ρ τ : RH} (hH : HH g ad Lv C ρ τ) (hL : mL Lv) : τ 60 = some (moO ad (C 60)) := hH.at (by decide) (hL 60 (by decide) (by decide))
def mNb (C : ME) : Nat := tn (C 60 1)
def mNp (C : ME) : Nat := tn (C 60 2)
def mNq (C : ME) (b : Nat) : Nat := tn (C 66 b)
/-- what keeps the model inside its rows -/
def mI (C : ME) : Prop := C 60 1 = nI (mNb C) ∧ mNb C ≤ 2 ∧ C 60 2 = nI (mNp C) ∧ mNp C ≤ 8 ∧ (∀ b, b < 2 → C 66 b = nI (mNq C b) ∧ mNq C b ≤ 8 ∧ ∀ k, k < mNq C b → ∃ q, q < mNp C ∧ C 67 (8 * b + k) = nI q) ∧ ∀ p, p < mNp C → (∃ ln, ln < mNb C ∧ C 70 p = nI ln) ∧ ∃ u, u < 10 ∧ C 71 p = nI u
/-- a number below n -/
abbrev okm (n : Nat) (b : Int32) : Prop := ¬ b < 0 ∧ ¬ nI n ≤ b
theorem okm_ix {n : Nat} {b : Int32} (h : okm n b) (hn : n < 2 ^ 31) : b = nI (tn b) ∧ tn b < n := ix_lt h.1 h.2 hn
theorem win_ok {n : Nat} {b : Int32} (hn : n ≤ 100) : win b 0 (nI n - 1) ↔ okm n b := by
  have h1 : (nI n - 1).toInt = (n : Int) - 1 := by
    rcases n with _ | n
    · rfl
    · rw [nI_pred, nI_toInt (by omega)]; omega
  constructor
  · intro h
    refine ⟨fun q => lt_ge q h.1, fun q => ?_⟩
    have h2 := h.2
    rw [Int32.le_iff_toInt_le, h1] at h2
    rw [Int32.le_iff_toInt_le, nI_toInt (by omega)] at q
    omega
  · intro h
    refine ⟨ge_lt h.1, ?_⟩
    have h2 := le_gt h.2
    rw [Int32.lt_iff_toInt_lt, nI_toInt (by omega)] at h2
    rw [Int32.le_iff_toInt_le, h1]
    omega
theorem wk_iff {w : Int32} {p q : Prop} (h : (w = 1 ∧ p) ∨ (w = 0 ∧ ¬ p)) (e : p ↔ q) : (w = 1 ∧ q) ∨ (w = 0 ∧ ¬ q) := by rwa [e] at h
theorem w_if {w : Int32} {p : Prop} (h : (w = 1 ∧ p) ∨ (w = 0 ∧ ¬ p)) : (w = 0 → ¬ p) ∧ (¬ w = 0 → p) := by
  rcases h with ⟨rfl, h⟩ | ⟨rfl, h⟩
  · exact ⟨fun q => absurd q (by decide), fun _ => h⟩
  · exact ⟨fun _ => h, fun q => absurd rfl q⟩
set_option maxHeartbeats 4000000 in
set_option maxRecDepth 100000 in
theorem sp_X4_in {l : Launch} {g : GW} {ad : AD} {τ : RH} {x lo hi : Int32}  : Sp l g yX4_in (.code yX4_in cX4_in 3 (some .boolean)) (rmv 0 0 0) [.int x, .int lo, .int hi] ad τ 0 0 (fun v ad' τ' => (∃ w, v = some (.int w) ∧ ((w = 1 ∧ win x lo hi) ∨ (w = 0 ∧ ¬ win x lo hi))) ∧ ad' = ad ∧ τ' = τ) (NoX) := by
  refine Sp.of 0 [some (.int x), some (.int lo), some (.int hi)] (by decide +kernel) (Nat.le_of_ble_eq_true rfl) rfl ?_
  intro p e s m args below meth c A cx hout hr hnm
  refine a_iload_n cx dX4_in_0 rfl rfl ?_
  refine a_iload_n cx dX4_in_1 rfl rfl ?_
  refine a_icmp_lt cx (tgt := 14) dX4_in_2 (by decide) (fun c_2 => ?_) (fun c_2 => ?_)
  · refine a_iconst cx (v := 0) dX4_in_14 (by decide) ?_
    exact a_zret cx hr dX4_in_15 (by first | rfl | decide) (Nat.le_of_ble_eq_true rfl) (Nat.le_of_ble_eq_true rfl) ⟨⟨_, rfl, Or.inr ⟨rfl, fun h => lt_ge c_2 h.1⟩⟩, rfl, rfl⟩
  · refine a_iload_n cx dX4_in_5 rfl rfl ?_
    refine a_iload_n cx dX4_in_6 rfl rfl ?_
    refine a_icmp_gt cx (tgt := 14) dX4_in_7 (by decide) (fun c_7 => ?_) (fun c_7 => ?_)
    · refine a_iconst cx (v := 0) dX4_in_14 (by decide) ?_
      exact a_zret cx hr dX4_in_15 (by first | rfl | decide) (Nat.le_of_ble_eq_true rfl) (Nat.le_of_ble_eq_true rfl) ⟨⟨_, rfl, Or.inr ⟨rfl, fun h => lt_ge c_7 h.2⟩⟩, rfl, rfl⟩
    · refine a_iconst cx (v := 1) dX4_in_10 (by decide) ?_
      refine a_goto cx (tgt := 15) dX4_in_11 (by decide) ?_
      exact a_zret cx hr dX4_in_15 (by first | rfl | decide) (Nat.le_of_ble_eq_true rfl) (Nat.le_of_ble_eq_true rfl) ⟨⟨_, rfl, Or.inl ⟨rfl, ge_lt c_2, ge_lt c_7⟩⟩, rfl, rfl⟩

set_option maxHeartbeats 4000000 in
set_option maxRecDepth 100000 in
theorem sp_X4_isLine {l : Launch} {g : GW} {ad : AD} {τ : RH} {Lv : Nat → Bool} {C : ME} {ρ : RH} {b : Int32} (hH : HH g ad Lv C ρ τ) (hL : mL Lv) (hI : mI C) : Sp l g yX4_isLine (.code yX4_isLine cX4_isLine 2 (some .boolean)) (rmv 1 0 0) [.ref (ad 60), .int b] ad τ 0 0 (fun v ad' τ' => (∃ w, v = some (.int w) ∧ ((w = 1 ∧ okm (mNb C) b) ∨ (w = 0 ∧ ¬ okm (mNb C) b))) ∧ ad' = ad ∧ τ' = τ) (NoX) := by
  refine Sp.of 0 [some (.ref (ad 60)), some (.int b)] (by decide +kernel) (Nat.le_of_ble_eq_true rfl) rfl ?_
  intro p e s m args below meth c A cx hout hr hnm
  have hM := M_obj hH hL
  have hR := M_row hH hL
  refine a_iload_n cx dX4_isLine_0 rfl rfl ?_
  refine a_iconst cx (v := 0) dX4_isLine_1 (by decide) ?_
  refine a_aload_n cx dX4_isLine_2 rfl rfl ?_
  refine gf_X4_85 cx hM dX4_isLine_3 ?_
  refine a_iconst cx (v := 1) dX4_isLine_6 (by decide) ?_
  refine a_isub cx dX4_isLine_7 ?_
  refine a_callS cx 3 (sp_X4_in (x := b) (lo := 0) (hi := C 60 1 - 1)) ml_X4_88 st_X4_in ini_X4 cd_X4_in rfl rfl (by decide +kernel) rfl rfl ⟨(Nat.le_of_ble_eq_true rfl), (Nat.le_of_ble_eq_true rfl)⟩ (Nat.le_of_ble_eq_true rfl) dX4_isLine_8 ⟨(Nat.le_of_ble_eq_true rfl), (Nat.le_of_ble_eq_true rfl)⟩ (fun _ _ _ h => h.elim) (fun v9 ad9 τ9 hP => ?_)
  obtain ⟨⟨w9, rfl, hw9⟩, h2, h3⟩ := hP
  replace h2 := h2.symm
  subst h2
  replace h3 := h3.symm
  subst h3
  exact a_zret cx hr dX4_isLine_11 (by rcases hw9 with q | q <;> rw [q.1] <;> rfl) (Nat.le_of_ble_eq_true rfl) (Nat.le_of_ble_eq_true rfl) ⟨⟨w9, rfl, wk_iff hw9 (by rw [hI.1]; exact win_ok (by have := hI.2.1; omega))⟩, rfl, rfl⟩

set_option maxHeartbeats 4000000 in
set_option maxRecDepth 100000 in
theorem sp_X4_isProposal {l : Launch} {g : GW} {ad : AD} {τ : RH} {Lv : Nat → Bool} {C : ME} {ρ : RH} {b : Int32} (hH : HH g ad Lv C ρ τ) (hL : mL Lv) (hI : mI C) : Sp l g yX4_isProposal (.code yX4_isProposal cX4_isProposal 2 (some .boolean)) (rmv 1 0 0) [.ref (ad 60), .int b] ad τ 0 0 (fun v ad' τ' => (∃ w, v = some (.int w) ∧ ((w = 1 ∧ okm (mNp C) b) ∨ (w = 0 ∧ ¬ okm (mNp C) b))) ∧ ad' = ad ∧ τ' = τ) (NoX) := by
  refine Sp.of 0 [some (.ref (ad 60)), some (.int b)] (by decide +kernel) (Nat.le_of_ble_eq_true rfl) rfl ?_
  intro p e s m args below meth c A cx hout hr hnm
  have hM := M_obj hH hL
  have hR := M_row hH hL
  refine a_iload_n cx dX4_isProposal_0 rfl rfl ?_
  refine a_iconst cx (v := 0) dX4_isProposal_1 (by decide) ?_
  refine a_aload_n cx dX4_isProposal_2 rfl rfl ?_
  refine gf_X4_92 cx hM dX4_isProposal_3 ?_
  refine a_iconst cx (v := 1) dX4_isProposal_6 (by decide) ?_
  refine a_isub cx dX4_isProposal_7 ?_
  refine a_callS cx 3 (sp_X4_in (x := b) (lo := 0) (hi := C 60 2 - 1)) ml_X4_88 st_X4_in ini_X4 cd_X4_in rfl rfl (by decide +kernel) rfl rfl ⟨(Nat.le_of_ble_eq_true rfl), (Nat.le_of_ble_eq_true rfl)⟩ (Nat.le_of_ble_eq_true rfl) dX4_isProposal_8 ⟨(Nat.le_of_ble_eq_true rfl), (Nat.le_of_ble_eq_true rfl)⟩ (fun _ _ _ h => h.elim) (fun v9 ad9 τ9 hP => ?_)
  obtain ⟨⟨w9, rfl, hw9⟩, h2, h3⟩ := hP
  replace h2 := h2.symm
  subst h2
  replace h3 := h3.symm
  subst h3
  exact a_zret cx hr dX4_isProposal_11 (by rcases hw9 with q | q <;> rw [q.1] <;> rfl) (Nat.le_of_ble_eq_true rfl) (Nat.le_of_ble_eq_true rfl) ⟨⟨w9, rfl, wk_iff hw9 (by rw [hI.2.2.1]; exact win_ok (by have := hI.2.2.2.1; omega))⟩, rfl, rfl⟩

set_option maxHeartbeats 4000000 in
set_option maxRecDepth 100000 in
theorem sp_X4_isUser {l : Launch} {g : GW} {ad : AD} {τ : RH} {b : Int32}  : Sp l g yX4_isUser (.code yX4_isUser cX4_isUser 1 (some .boolean)) (rmv 1 0 0) [.int b] ad τ 0 0 (fun v ad' τ' => (∃ w, v = some (.int w) ∧ ((w = 1 ∧ okm 10 b) ∨ (w = 0 ∧ ¬ okm 10 b))) ∧ ad' = ad ∧ τ' = τ) (NoX) := by
  refine Sp.of 0 [some (.int b)] (by decide +kernel) (Nat.le_of_ble_eq_true rfl) rfl ?_
  intro p e s m args below meth c A cx hout hr hnm
  refine a_iload_n cx dX4_isUser_0 rfl rfl ?_
  refine a_iconst cx (v := 0) dX4_isUser_1 (by decide) ?_
  refine a_bipush cx (v := 9) dX4_isUser_2 (by decide) ?_
  refine a_callS cx 3 (sp_X4_in (x := b) (lo := 0) (hi := 9)) ml_X4_88 st_X4_in ini_X4 cd_X4_in rfl rfl (by decide +kernel) rfl rfl ⟨(Nat.le_of_ble_eq_true rfl), (Nat.le_of_ble_eq_true rfl)⟩ (Nat.le_of_ble_eq_true rfl) dX4_isUser_4 ⟨(Nat.le_of_ble_eq_true rfl), (Nat.le_of_ble_eq_true rfl)⟩ (fun _ _ _ h => h.elim) (fun v9 ad9 τ9 hP => ?_)
  obtain ⟨⟨w9, rfl, hw9⟩, h2, h3⟩ := hP
  replace h2 := h2.symm
  subst h2
  replace h3 := h3.symm
  subst h3
  exact a_zret cx hr dX4_isUser_7 (by rcases hw9 with q | q <;> rw [q.1] <;> rfl) (Nat.le_of_ble_eq_true rfl) (Nat.le_of_ble_eq_true rfl) ⟨⟨w9, rfl, wk_iff hw9 (win_ok (n := 10) (by decide))⟩, rfl, rfl⟩

set_option maxHeartbeats 4000000 in
set_option maxRecDepth 100000 in
theorem sp_X4_fails {l : Launch} {g : GW} {ad : AD} {τ : RH} {Lv : Nat → Bool} {C : ME} {ρ : RH} {k : Int32} (hH : HH g ad Lv C ρ τ) (hL : mL Lv) : Sp l g yX4_fails (.code yX4_fails cX4_fails 2 (some .int)) (rmv 0 0 0) [.ref (ad 60), .int k] ad τ 0 0 (fun v ad' τ' => v = some (.int (0)) ∧ ad' = ad ∧ HH g ad Lv (up2 C 60 0 k) ρ τ') (NoX) := by
  refine Sp.of 0 [some (.ref (ad 60)), some (.int k)] (by decide +kernel) (Nat.le_of_ble_eq_true rfl) rfl ?_
  intro p e s m args below meth c A cx hout hr hnm
  have hM := M_obj hH hL
  have hR := M_row hH hL
  refine a_aload_n cx dX4_fails_0 rfl rfl ?_
  refine a_iload_n cx dX4_fails_1 rfl rfl ?_
  refine pf_X4_81 cx hM dX4_fails_2 ?_
  refine a_HH (hH.put (r := 60) (0) _ (by decide) (hL 60 (by decide) (by decide)) rfl) (fun τ hH => ?_)
  have hR := M_row hH hL
  have hM := M_obj hH hL
  refine a_iconst cx (v := 0) dX4_fails_5 (by decide) ?_
  exact a_iret cx hr dX4_fails_6 (Nat.le_of_ble_eq_true rfl) (Nat.le_of_ble_eq_true rfl) ⟨rfl, rfl, hH⟩

set_option maxHeartbeats 4000000 in
set_option maxRecDepth 100000 in
theorem sp_X4_tells {l : Launch} {g : GW} {ad : AD} {τ : RH} {Lv : Nat → Bool} {C : ME} {ρ : RH} {k : Int32} (hH : HH g ad Lv C ρ τ) (hL : mL Lv) : Sp l g yX4_tells (.code yX4_tells cX4_tells 2 (some .int)) (rmv 0 0 0) [.ref (ad 60), .int k] ad τ 0 0 (fun v ad' τ' => v = some (.int (k)) ∧ ad' = ad ∧ HH g ad Lv (up2 C 60 0 0) ρ τ') (NoX) := by
  refine Sp.of 0 [some (.ref (ad 60)), some (.int k)] (by decide +kernel) (Nat.le_of_ble_eq_true rfl) rfl ?_
  intro p e s m args below meth c A cx hout hr hnm
  have hM := M_obj hH hL
  have hR := M_row hH hL
  refine a_aload_n cx dX4_tells_0 rfl rfl ?_
  refine a_iconst cx (v := 0) dX4_tells_1 (by decide) ?_
  refine pf_X4_81 cx hM dX4_tells_2 ?_
  refine a_HH (hH.put (r := 60) (0) _ (by decide) (hL 60 (by decide) (by decide)) rfl) (fun τ hH => ?_)
  have hR := M_row hH hL
  have hM := M_obj hH hL
  refine a_iload_n cx dX4_tells_5 rfl rfl ?_
  exact a_iret cx hr dX4_tells_6 (Nat.le_of_ble_eq_true rfl) (Nat.le_of_ble_eq_true rfl) ⟨rfl, rfl, hH⟩

set_option maxHeartbeats 4000000 in
set_option maxRecDepth 100000 in
theorem sp_X4_asks {l : Launch} {g : GW} {ad : AD} {τ : RH} {Lv : Nat → Bool} {C : ME} {ρ : RH} {k z : Int32} (hH : HH g ad Lv C ρ τ) (hL : mL Lv) : Sp l g yX4_asks (.code yX4_asks cX4_asks 3 (some .boolean)) (rmv 0 0 0) [.ref (ad 60), .int k, .int z] ad τ 0 0 (fun v ad' τ' => v = some (.int (if k = 0 ∧ ¬ z = 0 then 1 else 0)) ∧ ad' = ad ∧ HH g ad Lv (up2 C 60 0 k) ρ τ') (NoX) := by
  refine Sp.of 0 [some (.ref (ad 60)), some (.int k), some (.int z)] (by decide +kernel) (Nat.le_of_ble_eq_true rfl) rfl ?_
  intro p e s m args below meth c A cx hout hr hnm
  have hM := M_obj hH hL
  have hR := M_row hH hL
  refine a_aload_n cx dX4_asks_0 rfl rfl ?_
  refine a_iload_n cx dX4_asks_1 rfl rfl ?_
  refine pf_X4_81 cx hM dX4_asks_2 ?_
  refine a_HH (hH.put (r := 60) (0) _ (by decide) (hL 60 (by decide) (by decide)) rfl) (fun τ hH => ?_)
  have hR := M_row hH hL
  have hM := M_obj hH hL
  refine a_iload_n cx dX4_asks_5 rfl rfl ?_
  refine a_if_ne cx (tgt := 17) dX4_asks_6 (by decide) (fun c_6 => ?_) (fun c_6 => ?_)
  · refine a_iconst cx (v := 0) dX4_asks_17 (by decide) ?_
    exact a_zret cx hr dX4_asks_18 (by first | rfl | decide) (Nat.le_of_ble_eq_true rfl) (Nat.le_of_ble_eq_true rfl) ⟨vI (if_0 (fun h => c_6 h.1)), rfl, hH⟩
  · refine a_iload_n cx dX4_asks_9 rfl rfl ?_
    refine a_if_eq cx (tgt := 17) dX4_asks_10 (by decide) (fun c_10 => ?_) (fun c_10 => ?_)
    · refine a_iconst cx (v := 0) dX4_asks_17 (by decide) ?_
      exact a_zret cx hr dX4_asks_18 (by first | rfl | decide) (Nat.le_of_ble_eq_true rfl) (Nat.le_of_ble_eq_true rfl) ⟨vI (if_0 (fun h => h.2 c_10)), rfl, hH⟩
    · refine a_iconst cx (v := 1) dX4_asks_13 (by decide) ?_
      refine a_goto cx (tgt := 18) dX4_asks_14 (by decide) ?_
      exact a_zret cx hr dX4_asks_18 (by first | rfl | decide) (Nat.le_of_ble_eq_true rfl) (Nat.le_of_ble_eq_true rfl) ⟨vI (if_1 ⟨c_6, c_10⟩), rfl, hH⟩

