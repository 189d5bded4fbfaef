theorem ob_cong {g : GW} {ad ad' : AD} {z x : Nat} {w : Nat → Int32} (hz : z = 2 ∨ z = 4 ∨ z = 12 ∨ z = 22) (h : ∀ y, y ≠ z → ad' y = ad y) (hx : x < 84) (hl : x + 1 = z → w 1 = 0) : ob g ad' x w = ob g ad x w := by
  have e1 : ∀ i, ad' (10 + 10 * i) = ad (10 + 10 * i) := fun i => h _ (by omega)
  have e2 : ∀ i, ad' (40 + i) = ad (40 + i) := fun i => h _ (by omega)
  unfold ob
  by_cases h0 : x = 0
  · rw [if_pos h0, if_pos h0]; unfold offO; rw [h 1 (by omega), h 3 (by omega), h 5 (by omega), h 6 (by omega)]
  rw [if_neg h0, if_neg h0]
  by_cases h1 : x = 1 ∨ x = 3 ∨ x = 11 ∨ x = 21
  · rw [if_pos h1, if_pos h1]; unfold lisO
    by_cases hq : x + 1 = z
    · rw [if_pos (hl hq), if_pos (hl hq)]
    · rw [h _ hq]
  rw [if_neg h1, if_neg h1]
  by_cases h2 : x = 2
  · rw [if_pos h2, if_pos h2]; unfold rowO; simp only [e1]
  rw [if_neg h2, if_neg h2]
  by_cases h3 : x = 4 ∨ x = 12 ∨ x = 22
  · rw [if_pos h3, if_pos h3]; unfold rowO; simp only [e2]
  rw [if_neg h3, if_neg h3]
  by_cases h4 : x = 5 ∨ x = 6
  · rw [if_pos h4, if_pos h4]
  rw [if_neg h4, if_neg h4]
  by_cases h5 : x = 10 ∨ x = 20
  · rw [if_pos h5, if_pos h5]; unfold beO; rw [h (x + 1) (by omega), h (x + 3) (by omega), h (x + 5) (by omega), h (x + 7) (by omega)]
  rw [if_neg h5, if_neg h5]
  by_cases h6 : x = 13 ∨ x = 15 ∨ x = 23 ∨ x = 25
  · rw [if_pos h6, if_pos h6]; unfold caO; rw [h (x + 1) (by omega)]
  rw [if_neg h6, if_neg h6]
  by_cases h7 : x = 14 ∨ x = 16 ∨ x = 24 ∨ x = 26
  · rw [if_pos h7, if_pos h7]
  rw [if_neg h7, if_neg h7]
  by_cases h8 : x = 17 ∨ x = 27
  · rw [if_pos h8, if_pos h8]
  rw [if_neg h8, if_neg h8]
  by_cases h9 : x < 60
  · rw [if_pos h9, if_pos h9]; unfold ppO; rw [e1]
  rw [if_neg h9, if_neg h9]
  by_cases h10 : x = 60
  · rw [if_pos h10, if_pos h10]; unfold moO; simp (disch := omega) only [h]
  rw [if_neg h10, if_neg h10]
/-- a list that grows by x -/
def oAdd (C : ME) (r n x : Nat) : ME := va_up (va_up C (r + 1) (if n = 0 then (fun k => if k = 0 then nI x else -1) else va_up (C (r + 1)) n (nI x))) r (va_up (va_up (va_up (C r) 0 (C r 0 + 1)) 1 1) 2 (nI (n + 1)))
theorem sp_addH {l : Launch} {g : GW} {ad : AD} {τ : RH} {Lv : Nat → Bool} {C : ME} {ρ : RH} (hH : HH g ad Lv C ρ τ) {r n x ci NN : Nat} {F : Nat → Nat} {vs : List Value} {K : String} {T : u_T} (hr : r = 1 ∨ r = 3 ∨ r = 11 ∨ r = 21) (hF : ∀ (a : AD) (w : Nat → Int32), ob g a (r + 1) w = rowO g a F w) (hFx : F x ≠ r ∧ F x ≠ r + 1) (hc : cLis Lv C r n) (hn : n < 10) (hx : x < 100) (hv : τ (F x) = some (.inr (ci, vs))) (hca : Cond.castable K "java/lang/Object" ∈ BW) (hw : vwCl[ci]? = some (K, T, NN)) : Sp l g yJx4a65c_add_9ea2d (.code yJx4a65c_add_9ea2d cJx4a65c_add_9ea2d 2 (some .boolean)) (rmv 4 1 10) [.ref (ad r), .ref (ad (F x))] ad τ 1 10 (fun v ad' τ' => (∀ y, y ≠ r + 1 → ad' y = ad y) ∧ v = some (.int 1) ∧ HH g ad' (va_up Lv (r + 1) true) (oAdd C r n x) ρ τ') NoX := by
  have ho : ∀ (a : AD) (w : Nat → Int32), ob g a r w = lisO g a r w := fun a w => by rcases hr with rfl | rfl | rfl | rfl <;> rfl
  have hr84 : r + 1 < 84 := by omega
  by_cases h0 : n = 0
  · subst h0
    have hq := H_lis hH (by omega) (ho ad _) hc
    rw [if_pos rfl] at hq
    have hd : Lv (r + 1) = false := by rw [hc.2.2.2.1]; rfl
    have h2 := hH.no hr84 hd
    refine (sp_Jx4a65c_add_9ea2d (l := l) (n := 0) (f := fun _ => none) hq h2 hv hca hw hFx.1).mono (fun v a t q => ⟨q.1, q.2.1, ?_⟩) (fun _ _ _ q => q)
    obtain ⟨q1, -, rfl⟩ := q
    have k1 := hH.push (ad' := a) (r := r + 1) (w := fun k => if k = 0 then nI x else -1) (e := arQ g 10 (va_up (fun _ => none) 0 (some (a (F x))))) hr84 (fun y hy _ hne => ob_cong (z := r + 1) (by omega) q1 hy (fun e => by
      have : y = r := by omega
      subst this; rw [hc.2.1, if_pos rfl])) (by
      rw [hF]; unfold rowO
      congr 1; congr 1; congr 1; congr 1; congr 1; congr 1; congr 1
      funext k
      by_cases hk : k = 0
      · subst hk; rw [va_up_self]; show some (a (F x)) = if nI x < 0 then none else some (a (F (tn (nI x)))); rw [if_neg (nI_pos (by omega)), tn_nI (by omega)]
      · rw [va_up_ne _ _ hk]; simp only [if_neg hk]; rfl)
    have k2 := k1.set (r := r) (w := va_up (va_up (va_up (C r) 0 (C r 0 + 1)) 1 1) 2 (nI 1)) (e := liO (C r 0 + 1) (.ref (a (r + 1))) 1) (by omega) (by rw [va_up_ne _ _ (by omega)]; exact hc.2.2.1) (by rw [ho]; rfl)
    unfold oAdd
    rw [if_pos rfl]
    exact k2
  · have hpos : 0 < n := by omega
    have hd : Lv (r + 1) = true := by rw [hc.2.2.2.1]; exact decide_eq_true hpos
    have hq := H_lis1 hH (by omega) (ho ad _) hc hpos
    have ha := hH.at hr84 hd
    rw [hF] at ha
    refine (sp_addE_more (l := l) hq ha hpos hn hv hca hw hFx.1).mono (fun v a t q => ?_) (fun _ _ _ q => q)
    obtain ⟨rfl, rfl, rfl⟩ := q
    refine ⟨fun _ _ => rfl, rfl, ?_⟩
    rw [show va_up Lv (r + 1) true = Lv by rw [← hd]; exact up_self _ _]
    have k1 := hH.set (r := r + 1) (w := va_up (C (r + 1)) n (nI x)) (e := arQ g 10 (va_up (fun k => if C (r + 1) k < 0 then none else some (a (F (tn (C (r + 1) k))))) n (some (a (F x))))) hr84 hd (by
      rw [hF]; unfold rowO
      congr 1; congr 1; congr 1; congr 1; congr 1; congr 1; congr 1
      funext k
      by_cases hk : k = n
      · subst hk; rw [va_up_self, va_up_self, if_neg (nI_pos (by omega)), tn_nI (by omega)]
      · rw [va_up_ne _ _ hk, va_up_ne _ _ hk])
    have k2 := k1.set (r := r) (w := va_up (va_up (va_up (C r) 0 (C r 0 + 1)) 1 1) 2 (nI (n + 1))) (e := liO (C r 0 + 1) (.ref (a (r + 1))) (n + 1)) (by omega) hc.2.2.1 (by rw [ho]; rfl)
    unfold oAdd
    rw [if_neg h0]
    exact k2
/-- an allotment: refused, or the calendar, the place, the queue -/
def noAllot (C : ME) (b j : Nat) : Prop := C (13 + 10 * b) 2 < C (40 + j) 4 ∨ 8 ≤ cNq C b
def oAllotC (C : ME) (b j : Nat) : ME := oCal C (13 + 10 * b) (cNq C b + 1) (va_up (C (14 + 10 * b)) (cNq C b) (C (40 + j) 4)) (C (13 + 10 * b) 2 - C (40 + j) 4)
def oAllotY (C : ME) (b j : Nat) : ME := oAdd (up2 (oAllotC C b j) (40 + j) 6 (nI (cNq C b))) (11 + 10 * b) (cNq C b) j
def oAllot (C : ME) (b j : Nat) : ME := if C (13 + 10 * b) 2 < C (40 + j) 4 ∨ 8 ≤ cNq C b then C else oAllotY C b j
def lAllot (Lv : Nat → Bool) (C : ME) (b j : Nat) : Nat → Bool := if C (13 + 10 * b) 2 < C (40 + j) 4 ∨ 8 ≤ cNq C b then Lv else va_up Lv (12 + 10 * b) true
theorem oAllotC_ne {C : ME} {b j r : Nat} (h : r ≠ 13 + 10 * b) (h2 : r ≠ 14 + 10 * b) : oAllotC C b j r = C r := by
  unfold oAllotC oCal
  rw [va_up_ne _ _ h, va_up_ne _ _ (by omega)]
theorem oAllotY_ne {C : ME} {b j r : Nat} (h : r ≠ 13 + 10 * b) (h2 : r ≠ 14 + 10 * b) (h3 : r ≠ 40 + j) (h4 : r ≠ 11 + 10 * b) (h5 : r ≠ 12 + 10 * b) : oAllotY C b j r = C r := by
  unfold oAllotY oAdd up2
  rw [va_up_ne _ _ h4, va_up_ne _ _ (by omega), va_up_ne _ _ h3, oAllotC_ne h h2]
theorem oAllotY_k1 {C : ME} {b j : Nat} (hb : b < 2) : oAllotY C b j (13 + 10 * b) 1 = nI (cNq C b + 1) := by
  unfold oAllotY oAdd up2 oAllotC oCal
  rw [va_up_ne _ _ (by omega), va_up_ne _ _ (by omega), va_up_ne _ _ (by omega), va_up_self, va_up_ne _ _ (by omega), va_up_self]
theorem oAllotY_k2 {C : ME} {b j : Nat} (hb : b < 2) : oAllotY C b j (13 + 10 * b) 2 = C (13 + 10 * b) 2 - C (40 + j) 4 := by
  unfold oAllotY oAdd up2 oAllotC oCal
  rw [va_up_ne _ _ (by omega), va_up_ne _ _ (by omega), va_up_ne _ _ (by omega), va_up_self, va_up_self]
theorem oAllotY_l {C : ME} {b j : Nat} (hb : b < 2) : oAllotY C b j (14 + 10 * b) = va_up (C (14 + 10 * b)) (cNq C b) (C (40 + j) 4) := by
  unfold oAllotY oAdd up2 oAllotC oCal
  rw [va_up_ne _ _ (by omega), va_up_ne _ _ (by omega), va_up_ne _ _ (by omega), va_up_ne _ _ (by omega), show 13 + 10 * b + 1 = 14 + 10 * b by omega, va_up_self]
theorem oAllotY_p {C : ME} {b j : Nat} (hb : b < 2) : oAllotY C b j (40 + j) = va_up (C (40 + j)) 6 (nI (cNq C b)) := by
  unfold oAllotY oAdd up2
  rw [va_up_ne _ _ (by omega), va_up_ne _ _ (by omega), va_up_self, oAllotC_ne (by omega) (by omega)]
theorem oAllotY_q {C : ME} {b j : Nat} (hb : b < 2) : oAllotY C b j (11 + 10 * b) = va_up (va_up (va_up (C (11 + 10 * b)) 0 (C (11 + 10 * b) 0 + 1)) 1 1) 2 (nI (cNq C b + 1)) := by
  unfold oAllotY oAdd
  rw [va_up_self]
  unfold up2
  rw [va_up_ne _ _ (by omega), oAllotC_ne (by omega) (by omega)]
theorem oAllotY_row {C : ME} {b j : Nat} (hb : b < 2) : oAllotY C b j (12 + 10 * b) = if cNq C b = 0 then (fun k => if k = 0 then nI j else -1) else va_up (C (12 + 10 * b)) (cNq C b) (nI j) := by
  unfold oAllotY oAdd
  rw [va_up_ne _ _ (by omega), show 11 + 10 * b + 1 = 12 + 10 * b by omega, va_up_self]
  unfold up2
  rw [va_up_ne _ _ (by omega), oAllotC_ne (by omega) (by omega)]
theorem oAllotY_nq {C : ME} {b j : Nat} (hb : b < 2) (hn : cNq C b < 8) : cNq (oAllotY C b j) b = cNq C b + 1 := by
  unfold cNq
  rw [oAllotY_q hb, va_up_self, tn_nI (by have := hn; unfold cNq at this; omega)]
  rfl
theorem oAllotY_at {Lv : Nat → Bool} {C : ME} {b j : Nat} (hb : b < 2) (hc : cLis Lv C (11 + 10 * b) (cNq C b)) (hn : cNq C b < 8) (k : Nat) : oAllotY C b j (12 + 10 * b) k = if k = cNq C b then nI j else if k < cNq C b then C (12 + 10 * b) k else -1 := by
  rw [oAllotY_row hb]
  by_cases h0 : cNq C b = 0
  · rw [if_pos h0, h0]
    by_cases hk : k = 0
    · rw [if_pos hk, if_pos hk]
    · rw [if_neg hk, if_neg hk, if_neg (by omega)]
  · rw [if_neg h0]
    by_cases hk : k = cNq C b
    · rw [if_pos hk, hk, va_up_self]
    · rw [if_neg hk, va_up_ne _ _ hk]
      by_cases h2 : k < cNq C b
      · rw [if_pos h2]
      · rw [if_neg h2]
        have := hc.2.2.2.2 k (by omega) (by omega)
        rw [show 11 + 10 * b + 1 = 12 + 10 * b by omega] at this
        exact this
theorem cI_allotY {Lv : Nat → Bool} {C : ME} (hI : cI Lv C) {b j : Nat} (hb : b < cNb C) (hj : j < cNp C) (hn : cNq C b < 8) : cI (va_up Lv (12 + 10 * b) true) (oAllotY C b j) := by
  have hb2 := (cI_lin hI hb).2
  have hj8 := (cI_prp hI hj).2
  obtain ⟨h1, h2, h3, h4, h5, h6, h7, h8, h9, h10, h11, h12, h13⟩ := hI
  have ne : ∀ r, r ≠ 13 + 10 * b → r ≠ 14 + 10 * b → r ≠ 40 + j → r ≠ 11 + 10 * b → r ≠ 12 + 10 * b → oAllotY C b j r = C r := fun r a b c d e => oAllotY_ne a b c d e
  have eb : cNb (oAllotY C b j) = cNb C := by unfold cNb; rw [ne 1 (by omega) (by omega) (by omega) (by omega) (by omega)]
  have ep : cNp (oAllotY C b j) = cNp C := by unfold cNp; rw [ne 3 (by omega) (by omega) (by omega) (by omega) (by omega)]
  have lv : ∀ x, x ≠ 12 + 10 * b → va_up Lv (12 + 10 * b) true x = Lv x := fun x hx => va_up_ne _ _ hx
  have lis : ∀ r n, r ≠ 11 + 10 * b → r ≠ 12 + 10 * b → r + 1 ≠ 12 + 10 * b → r + 1 ≠ 11 + 10 * b → (r < 5 ∨ r = 11 ∨ r = 21) → cLis Lv C r n → cLis (va_up Lv (12 + 10 * b) true) (oAllotY C b j) r n := by
    intro r n a1 a2 a3 a4 a5 hc
    unfold cLis at hc ⊢
    rw [ne r (by omega) (by omega) (by omega) a1 a2, ne (r + 1) (by omega) (by omega) (by omega) a4 a3, lv r a2, lv (r + 1) a3]
    exact hc
  unfold cI
  rw [eb, ep]
  refine ⟨h1, h2, by rw [lv 0 (by omega)]; exact h3, by rw [lv 5 (by omega)]; exact h4, by rw [lv 6 (by omega)]; exact h5, lis 1 _ (by omega) (by omega) (by omega) (by omega) (by omega) h6, lis 3 _ (by omega) (by omega) (by omega) (by omega) (by omega) h7, fun i hi => ?_, fun i hi => ?_, fun b' hb' => ?_, fun b' k hb' hb2' hk => ?_, fun j' hj' => ?_, fun j' hj' hj2' => ?_⟩
  · rw [ne 2 (by omega) (by omega) (by omega) (by omega) (by omega)]; exact h8 i hi
  · rw [ne 4 (by omega) (by omega) (by omega) (by omega) (by omega)]; exact h9 i hi
  · obtain ⟨a1, a2, a3, a4, a5, a6, a7, a8, a9, a10, a11, a12⟩ := h10 b' hb'
    have hb2' : b' < 2 := by omega
    unfold cLin
    rw [ep, lv _ (by omega), lv _ (by omega), lv _ (by omega), lv _ (by omega), lv _ (by omega), lv _ (by omega), ne (15 + 10 * b') (by omega) (by omega) (by omega) (by omega) (by omega), ne (10 + 10 * b') (by omega) (by omega) (by omega) (by omega) (by omega)]
    by_cases hbb : b' = b
    · subst hbb
      rw [oAllotY_nq hb2' hn, oAllotY_k1 hb2']
      refine ⟨a1, a2, a3, a4, a5, a6, by omega, ?_, rfl, a10, a11, fun k hk => ?_⟩
      · refine ⟨by rw [oAllotY_q hb2', va_up_self], by rw [oAllotY_q hb2', va_up_ne _ _ (by decide), va_up_self, if_neg (by omega)], by rw [lv _ (by omega)]; exact a8.2.2.1, by rw [show 11 + 10 * b' + 1 = 12 + 10 * b' by omega, va_up_self]; exact (decide_eq_true (by omega)).symm, fun k hk _ => ?_⟩
        rw [show 11 + 10 * b' + 1 = 12 + 10 * b' by omega, oAllotY_at hb2' a8 hn, if_neg (by omega), if_neg (by omega)]
      · rw [oAllotY_at hb2' a8 hn]
        by_cases hk2 : k = cNq C b'
        · rw [if_pos hk2]; exact ⟨j, hj, rfl⟩
        · rw [if_neg hk2, if_pos (by omega)]; exact a12 k (by omega)
    · have en : cNq (oAllotY C b j) b' = cNq C b' := by unfold cNq; rw [ne _ (by omega) (by omega) (by omega) (by omega) (by omega)]
      rw [en, ne (13 + 10 * b') (by omega) (by omega) (by omega) (by omega) (by omega), ne (12 + 10 * b') (by omega) (by omega) (by omega) (by omega) (by omega)]
      exact ⟨a1, a2, a3, a4, a5, a6, a7, lis _ _ (by omega) (by omega) (by omega) (by omega) (by omega) a8, a9, a10, a11, a12⟩
  · rw [lv _ (by omega)]; exact h11 b' k hb' hb2' hk
  · have hj8' : j' < 8 := by omega
    rw [lv _ (by omega)]
    by_cases hjj : j' = j
    · subst hjj
      rw [oAllotY_p hb2, va_up_ne _ _ (by decide), va_up_ne _ _ (by decide)]
      exact h12 j' hj'
    · rw [ne (40 + j') (by omega) (by omega) (by omega) (by omega) (by omega)]
      exact h12 j' hj'
  · rw [lv _ (by omega)]; exact h13 j' hj' hj2'
theorem cI_allot {Lv : Nat → Bool} {C : ME} (hI : cI Lv C) {b j : Nat} (hb : b < cNb C) (hj : j < cNp C) : cI (lAllot Lv C b j) (oAllot C b j) := by
  unfold lAllot oAllot
  by_cases h : C (13 + 10 * b) 2 < C (40 + j) 4 ∨ 8 ≤ cNq C b
  · rw [if_pos h, if_pos h]; exact hI
  · rw [if_neg h, if_neg h]; exact cI_allotY hI hb hj (by omega)
theorem nI_ne1 {n : Nat} (h : n < 2 ^ 31) : nI n ≠ -1 := fun q => absurd (show nI n < 0 by rw [q]; decide) (nI_pos h)
set_option maxHeartbeats 4000000 in
set_option maxRecDepth 100000 in
/-- allot(next) -/
theorem sp_X0_allot {l : Launch} {g : GW} {ad : AD} {τ : RH} {Lv : Nat → Bool} {C : ME} {ρ : RH} {b j : Nat} (hH : HH g ad Lv C ρ τ) (hI : cI Lv C) (hb : b < cNb C) (hj : j < cNp C) : Sp l g yX0_allot (.code yX0_allot cX0_allot 3 none) (rmv 5 1 10) [.ref (ad (10 + 10 * b)), .ref (ad (40 + j))] ad τ 1 10 (fun v ad' τ' => (∀ y, y ≠ 12 + 10 * b → ad' y = ad y) ∧ v = none ∧ HH g ad' (lAllot Lv C b j) (oAllot C b j) ρ τ') (NoX) := by
  refine Sp.of 1 [some (.ref (ad (10 + 10 * b))), some (.ref (ad (40 + j))), none] (by decide +kernel) (Nat.le_of_ble_eq_true rfl) rfl ?_
  intro p e s m args below meth c A cx hout hr hnm
  have hB := H_beam hH hI hb
  obtain ⟨hL, hb2⟩ := cI_lin hI hb
  have hP := H_prop hH hI hj
  obtain ⟨hLj, hj8⟩ := cI_prp hI hj
  have hK := H_kept' hH hI hb
  by_cases hk : C (13 + 10 * b) 2 < C (40 + j) 4 ∨ 8 ≤ cNq C b
  · unfold lAllot oAllot
    rw [if_pos hk, if_pos hk]
    have hsp := sp_X1_allot (l := l) (w := C (40 + j) 4) hK.1 hK.2.1 hK.2.2
    rw [kA_no hk] at hsp
    dsimp only at hsp
    rw [up_some hK.2.1, up_some hK.1] at hsp
    refine a_aload_n cx dX0_allot_0 rfl rfl ?_
    refine gf_X0_21 cx hB dX0_allot_1 ?_
    refine a_aload_n cx dX0_allot_4 rfl rfl ?_
    refine gf_X0_59 cx hP dX0_allot_5 ?_
    refine a_callV cx 1 (hsp) hK.1 rfl ml_X0_64 im_X1_allot se_X1_allot ini_X1 cd_X1_allot rfl rfl (by decide +kernel) rfl rfl ⟨(Nat.le_of_ble_eq_true rfl), (Nat.le_of_ble_eq_true rfl)⟩ (Nat.le_of_ble_eq_true rfl) dX0_allot_8 ⟨(Nat.le_of_ble_eq_true rfl), (Nat.le_of_ble_eq_true rfl)⟩ (fun _ _ _ h => h.elim) (fun v9 ad9 τ9 hP => ?_)
    obtain ⟨rfl, h2, h3⟩ := hP
    replace h2 := h2.symm
    subst h2
    replace h3 := h3.symm
    subst h3
    refine a_istore_n2 cx dX0_allot_11 rfl (by decide) (by intro w h; first | (cases h; rfl) | (cases h; assumption) | (cases h; done)) ?_
    refine a_iload_n cx dX0_allot_12 rfl rfl ?_
    refine a_iconst cx (v := -1) dX0_allot_13 (by decide) ?_
    refine a_icmp_eq cx (tgt := 31) dX0_allot_14 (by decide) (fun c_14 => ?_) (fun c_14 => absurd rfl c_14)
    exact a_vret cx hr dX0_allot_31 (Nat.le_of_ble_eq_true rfl) (Nat.le_of_ble_eq_true rfl) ⟨fun _ _ => rfl, rfl, hH⟩
  · unfold lAllot oAllot
    rw [if_neg hk, if_neg hk]
    have hsp := sp_X1_allot (l := l) (w := C (40 + j) 4) hK.1 hK.2.1 hK.2.2
    rw [kA_yes (fun q => hk (Or.inl q)) (fun q => hk (Or.inr q))] at hsp
    dsimp only at hsp
    refine a_aload_n cx dX0_allot_0 rfl rfl ?_
    refine gf_X0_21 cx hB dX0_allot_1 ?_
    refine a_aload_n cx dX0_allot_4 rfl rfl ?_
    refine gf_X0_59 cx hP dX0_allot_5 ?_
    refine a_callV cx 1 (hsp) hK.1 rfl ml_X0_64 im_X1_allot se_X1_allot ini_X1 cd_X1_allot rfl rfl (by decide +kernel) rfl rfl ⟨(Nat.le_of_ble_eq_true rfl), (Nat.le_of_ble_eq_true rfl)⟩ (Nat.le_of_ble_eq_true rfl) dX0_allot_8 ⟨(Nat.le_of_ble_eq_true rfl), (Nat.le_of_ble_eq_true rfl)⟩ (fun _ _ _ h => h.elim) (fun v9 ad9 τ9 hP9 => ?_)
    obtain ⟨rfl, h2, h3⟩ := hP9
    replace h2 := h2.symm
    subst h2
    replace h3 := h3.symm
    subst h3
    have hH2 : HH g ad Lv (oAllotC C b j) ρ _ := hH.cal hb2 hL.2.1 hL.2.2.1
    have hE2 : oAllotC C b j (40 + j) = C (40 + j) := oAllotC_ne (by omega) (by omega)
    have hP2 : _ = some (ppO ad (C (40 + j))) := (hH2.at (r := 40 + j) (by omega) hLj.1).trans (by rw [ob_prop hj8, hE2])
    have hB2 : _ = some (beO ad (10 + 10 * b) (C (10 + 10 * b))) := (hH2.at (r := 10 + 10 * b) (by omega) hL.1).trans (by rw [ob_beam hb2, oAllotC_ne (by omega) (by omega)])
    refine a_istore_n2 cx dX0_allot_11 rfl (by decide) (by intro w h; first | (cases h; rfl) | (cases h; assumption) | (cases h; done)) ?_
    refine a_iload_n cx dX0_allot_12 rfl rfl ?_
    refine a_iconst cx (v := -1) dX0_allot_13 (by decide) ?_
    refine a_icmp_eq cx (tgt := 31) dX0_allot_14 (by decide) (fun c_14 => absurd c_14 (nI_ne1 (by omega))) (fun c_14 => ?_)
    refine a_aload_n cx dX0_allot_17 rfl rfl ?_
    refine a_iload_n cx dX0_allot_18 rfl rfl ?_
    have hP := hP2
    refine pf_X0_68 cx hP dX0_allot_19 ?_
    have hH3 := hH2.prop (j := j) hj8 hLj.1 (w := va_up (C (40 + j)) 6 (nI (cNq C b))) (e := _) rfl
    rw [show va_up (oAllotC C b j) (40 + j) (va_up (C (40 + j)) 6 (nI (cNq C b))) = up2 (oAllotC C b j) (40 + j) 6 (nI (cNq C b)) by unfold up2; rw [hE2]] at hH3
    have hr11 : up2 (oAllotC C b j) (40 + j) 6 (nI (cNq C b)) (11 + 10 * b) = C (11 + 10 * b) := by unfold up2; rw [va_up_ne _ _ (by omega), oAllotC_ne (by omega) (by omega)]
    have hr12 : up2 (oAllotC C b j) (40 + j) 6 (nI (cNq C b)) (11 + 10 * b + 1) = C (11 + 10 * b + 1) := by unfold up2; rw [va_up_ne _ _ (by omega), oAllotC_ne (by omega) (by omega)]
    have hB : _ = some (beO ad (10 + 10 * b) (C (10 + 10 * b))) := (hH3.at (r := 10 + 10 * b) (by omega) hL.1).trans (by rw [ob_beam hb2]; unfold up2; rw [va_up_ne _ _ (by omega), oAllotC_ne (by omega) (by omega)])
    have hcl : cLis Lv (up2 (oAllotC C b j) (40 + j) 6 (nI (cNq C b))) (11 + 10 * b) (cNq C b) := by unfold cLis; rw [hr11, hr12]; exact hL.2.2.2.2.2.2.2.1
    have hP3 : _ = some (ppO ad _) := (hH3.at (r := 40 + j) (by omega) hLj.1).trans (by rw [ob_prop hj8])
    have hsp2 := sp_addH (l := l) (n := cNq C b) (x := j) (F := fun i => 40 + i) hH3 (r := 11 + 10 * b) (by omega) (fun a w => by rw [show 11 + 10 * b + 1 = 12 + 10 * b by omega, ob_qrow hb2]) (by omega) hcl (by omega) (by omega) hP3 ca_BeamOffice_Proposal_Object rfl
    have hQ := H_lis hH3 (by omega) (ob_queue hb2) hcl
    rw [show 11 + 10 * b + 1 = 12 + 10 * b by omega, show Value.ref (ad (11 + 10 * b)) = .ref (ad (10 + 10 * b + 1)) by rw [show 11 + 10 * b = 10 + 10 * b + 1 by omega]] at hsp2
    rw [show 11 + 10 * b = 10 + 10 * b + 1 by omega] at hQ
    refine a_aload_n cx dX0_allot_22 rfl rfl ?_
    refine gf_X0_12 cx hB dX0_allot_23 ?_
    refine a_aload_n cx dX0_allot_26 rfl rfl ?_
    refine a_callV cx 1 (hsp2) hQ rfl ml_X0_71 im_Jx4a65c_add_9ea2d se_Jx4a65c_add_9ea2d ini_Jx4a65c cd_Jx4a65c_add_9ea2d rfl rfl (by decide +kernel) rfl rfl ⟨(Nat.le_of_ble_eq_true rfl), (Nat.le_of_ble_eq_true rfl)⟩ (Nat.le_of_ble_eq_true rfl) dX0_allot_27 ⟨(Nat.le_of_ble_eq_true rfl), (Nat.le_of_ble_eq_true rfl)⟩ (fun _ _ _ h => h.elim) (fun v9 ad9 τ9 hP9 => ?_)
    obtain ⟨had, rfl, hH4⟩ := hP9
    refine a_pop cx dX0_allot_30 rfl ?_
    exact a_vret cx hr dX0_allot_31 (Nat.le_of_ble_eq_true rfl) (Nat.le_of_ble_eq_true rfl) ⟨had, rfl, hH4⟩

