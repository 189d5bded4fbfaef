section LWP
variable {Lv : Nat → Bool} {C C' : ME}
/-- what holds at the law's loop of the numbers -/
def lwP (Lv : Nat → Bool) (C : ME) : Prop := cI Lv C ∧ mI C ∧ lJ Lv ∧ mL Lv ∧ Rel C C ∧ rC C
theorem lo_cE (h : ∀ r k, r < 60 → C' r k = C r k) : cE C C' := by
  refine ⟨fun r k hc _ _ => h r k (by unfold cT at hc; omega), fun b hb => ⟨fun q => ?_, fun q => ?_⟩⟩
  · rw [h _ _ (by omega)]; exact q
  · rw [h _ _ (by omega)]; exact q
theorem ctb_lo {pr pr' : Nat → Bool} : ∀ {n : Nat}, (∀ q, q < n → pr q = pr' q) → ctb pr n = ctb pr' n
  | 0, _ => rfl
  | n + 1, h => by
    unfold ctb
    rw [ctb_lo (fun q hq => h q (by omega)), h n (by omega)]
theorem lo_rC (h : ∀ r k, r < 60 → C' r k = C r k) (hI : cI Lv C) (hC : rC C) : rC C' := by
  have hn8 := hI.2.1
  unfold rC cldN at *
  rw [(lo_cE h).np, ctb_lo (pr' := fun j => decide (isC C j = 1)) (fun j hj => by
    have e : isC C' j = isC C j := by unfold isC; rw [h _ _ (by omega), h _ _ (by omega)]
    rw [e])]
  exact hC
theorem hi_mE (h : ∀ r k, 60 ≤ r → C' r k = C r k) : mE C C' := fun r k q => h r k (by omega)
theorem hi_Rel (h : ∀ r k, 60 ≤ r → C' r k = C r k) (hI : cI Lv C) (hR : Rel C C) : Rel C C' := hR.same hI (fun _ _ _ _ _ _ _ => rfl) (fun r k h1 _ => h r k (by omega)) (fun k _ _ => h 60 k (by omega))
/-- behind both calls -/
theorem lwP.end {C1 B1 : ME} (hI : cI Lv C1) (hM : mI B1) (hJ : lJ Lv) (hL : mL Lv) (hR : Rel C1 B1) (hC : rC C1) (lo : ∀ r k, r < 60 → B1 r k = C1 r k) (x : Int32) : lwP Lv (up2 B1 60 0 x) := by
  have lo2 : ∀ r k, r < 60 → up2 B1 60 0 x r k = C1 r k := fun r k h => by rw [up2_ne (by omega)]; exact lo r k h
  exact ⟨(lo_cE lo2).keep hI, (show mE B1 (up2 B1 60 0 x) from mE.put (by omega)).keep hM, hJ, hL, hR.same hI (fun r k h _ _ _ _ => lo2 r k h) (fun r k h _ => up2_ne (by omega)) (fun k h _ => up2_ne (by omega)), lo_rC lo2 hI hC⟩
theorem lwP.no (h : lwP Lv C) (x : Int32) : lwP Lv (up2 C 60 0 x) := lwP.end h.1 h.2.1 h.2.2.1 h.2.2.2.1 h.2.2.2.2.1 h.2.2.2.2.2 (fun _ _ _ => rfl) x
theorem line_lt (h : lwP Lv C) {b : Int32} (hok : okL C b) : tn b < 2 := by
  have := (okL_ix h.1 hok).2
  have := h.1.1
  omega
theorem prop_lt (h : lwP Lv C) {j : Int32} (hok : okP C j) : tn j < cNp C ∧ tn j < 8 := by
  have := (okP_ix h.1 hok).2
  have := h.1.2.1
  omega
theorem rC_put {r k : Nat} {x : Int32} (hr : r < 40) (h3 : r ≠ 3) (hC : rC C) : rC (up2 C r k x) := by
  refine hC.cong ?_ (fun j => ?_)
  · unfold cNp; rw [up2_ne (by omega)]
  · unfold isC; rw [up2_ne (by omega), up2_ne (by omega)]
end LWP

/-! the calls that write -/
section EOPS
variable {Lv : Nat → Bool} {C : ME}
theorem E_setRate (h : lwP Lv C) {b u : Int32} (hk : kSetRate C b u = 0) : mI (up2 C (10 + 10 * tn b) 7 u) ∧ jRate (up2 C (10 + 10 * tn b) 7 u) b u = 0 ∧ C (10 + 10 * tn b) 7 = up2 C (10 + 10 * tn b) 7 u 63 (tn b) ∧ ∀ x, lwP Lv (up2 (up2 (up2 C (10 + 10 * tn b) 7 u) 63 (tn b) u) 60 0 x) := by
  have hb : tn b < 2 := line_lt h (by unfold kSetRate at hk; exact (if0 hk (by decide)).1)
  obtain ⟨hI, hM, hJ, hL, hR, hC⟩ := h
  have hi : ∀ r k, 60 ≤ r → up2 C (10 + 10 * tn b) 7 u r k = C r k := fun r k q => up2_ne (by omega)
  have hM1 := (hi_mE hi).keep hM
  obtain ⟨e1, e2⟩ := e_setRate (hi_Rel hi hI hR) hI (b := b) (u := u)
  obtain ⟨e3, e4⟩ := e2 hk
  exact ⟨hM1, e1.symm.trans hk, e3, lwP.end ((show cE C (up2 C (10 + 10 * tn b) 7 u) from cE.put (by unfold cT; omega)).keep hI) ((mE.put (by omega)).keep hM1) hJ hL e4 (rC_put (by omega) (by omega) hC) (fun r k q => up2_ne (by omega))⟩
theorem E_train (h : lwP Lv C) {u : Int32} (hk : kTrain C u = 0) : mI (up2 C 5 (tn u) 1) ∧ jTrain (up2 C 5 (tn u) 1) u = 0 ∧ cTrained (va_up (C 5) (tn u) 1) = up2 C 5 (tn u) 1 60 4 + 1 ∧ ∀ x, lwP Lv (up2 (up2 (up2 (up2 C 5 (tn u) 1) 82 (tn u) 1) 60 4 (up2 C 5 (tn u) 1 60 4 + 1)) 60 0 x) := by
  obtain ⟨hI, hM, hJ, hL, hR, hC⟩ := h
  have hi : ∀ r k, 60 ≤ r → up2 C 5 (tn u) 1 r k = C r k := fun r k q => up2_ne (by omega)
  have hM1 := (hi_mE hi).keep hM
  obtain ⟨e1, e2⟩ := e_train (hi_Rel hi hI hR) hI (u := u)
  obtain ⟨e3, e4⟩ := e2 hk
  exact ⟨hM1, e1.symm.trans hk, e3, lwP.end ((show cE C (up2 C 5 (tn u) 1) from cE.put (by unfold cT; omega)).keep hI) (((mE.put (by omega)).trans (mE.put (by omega))).keep hM1) hJ hL e4 (rC_put (by omega) (by omega) hC) (fun r k q => by rw [up2_ne (by omega), up2_ne (by omega)])⟩
theorem E_setThere (h : lwP Lv C) {u z : Int32} (hz : z = 0 ∨ z = 1) (hk : kThere u = 0) : mI (up2 C 6 (tn u) z) ∧ jThere u = 0 ∧ ((if C 6 (tn u) = 0 then (0 : Int64) else 1) = if (if ¬ up2 C 6 (tn u) z 83 (tn u) = 0 then (1 : Int32) else 0) = 0 then 0 else 1) ∧ ∀ x, lwP Lv (up2 (up2 (up2 C 6 (tn u) z) 83 (tn u) z) 60 0 x) := by
  obtain ⟨hI, hM, hJ, hL, hR, hC⟩ := h
  have hi : ∀ r k, 60 ≤ r → up2 C 6 (tn u) z r k = C r k := fun r k q => up2_ne (by omega)
  have hM1 := (hi_mE hi).keep hM
  obtain ⟨e1, e2⟩ := e_setThere (hi_Rel hi hI hR) hI (u := u) hz
  obtain ⟨e3, e4⟩ := e2 hk
  exact ⟨hM1, e1.symm.trans hk, e3, lwP.end ((show cE C (up2 C 6 (tn u) z) from cE.put (by unfold cT; omega)).keep hI) ((mE.put (by omega)).keep hM1) hJ hL e4 (rC_put (by omega) (by omega) hC) (fun r k q => up2_ne (by omega))⟩
theorem E_bring (h : lwP Lv C) {j x : Int32} (hk : kBring C j x = 0) : mI (va_up C (40 + tn j) (va_up (va_up (C (40 + tn j)) 7 x) 8 114)) ∧ jBring (va_up C (40 + tn j) (va_up (va_up (C (40 + tn j)) 7 x) 8 114)) j x = 0 ∧ C (40 + tn j) 7 = (if va_up C (40 + tn j) (va_up (va_up (C (40 + tn j)) 7 x) 8 114) 81 (tn j) = 110 then -1 else va_up C (40 + tn j) (va_up (va_up (C (40 + tn j)) 7 x) 8 114) 80 (tn j)) ∧ ∀ y, lwP Lv (up2 (up2 (up2 (va_up C (40 + tn j) (va_up (va_up (C (40 + tn j)) 7 x) 8 114)) 81 (tn j) 114) 80 (tn j) x) 60 0 y) := by
  have hj := (prop_lt h (by unfold kBring at hk; exact (if0 hk (by decide)).1)).2
  obtain ⟨hI, hM, hJ, hL, hR, hC⟩ := h
  have hE : cE C (va_up C (40 + tn j) (va_up (va_up (C (40 + tn j)) 7 x) 8 114)) := cE.row (fun k hk => by
    have : k ≤ 1 := by unfold cT at hk; omega
    rw [va_up_ne _ _ (by omega), va_up_ne _ _ (by omega)])
  have hi : ∀ r k, 60 ≤ r → va_up C (40 + tn j) (va_up (va_up (C (40 + tn j)) 7 x) 8 114) r k = C r k := fun r k q => by rw [va_up_ne _ _ (by omega)]
  have hM1 := (hi_mE hi).keep hM
  obtain ⟨e1, e2⟩ := e_bring (hi_Rel hi hI hR) hI hC (j := j) (x := x)
  obtain ⟨e3, e4, e5⟩ := e2 hk
  exact ⟨hM1, e1.symm.trans hk, e3, lwP.end (hE.keep hI) (((mE.put (by omega)).trans (mE.put (by omega))).keep hM1) hJ hL e4 e5 (fun r k q => by rw [up2_ne (by omega), up2_ne (by omega)])⟩
theorem E_put (h : lwP Lv C) {j x : Int32} (hk : kPut C j x = 0) : mI (up2 C (40 + tn j) 8 x) ∧ jPut (up2 C (40 + tn j) 8 x) j x = 0 ∧ C (40 + tn j) 8 = up2 C (40 + tn j) 8 x 81 (tn j) ∧ ∀ y, lwP Lv (up2 (up2 (up2 C (40 + tn j) 8 x) 81 (tn j) x) 60 0 y) := by
  have hj := (prop_lt h (by unfold kPut at hk; exact (if0 hk (by decide)).1)).2
  obtain ⟨hI, hM, hJ, hL, hR, hC⟩ := h
  have hi : ∀ r k, 60 ≤ r → up2 C (40 + tn j) 8 x r k = C r k := fun r k q => up2_ne (by omega)
  have hM1 := (hi_mE hi).keep hM
  obtain ⟨e1, e2⟩ := e_put (hi_Rel hi hI hR) hI hC (j := j) (x := x)
  obtain ⟨e3, e4, e5⟩ := e2 hk
  exact ⟨hM1, e1.symm.trans hk, e3, lwP.end ((show cE C (up2 C (40 + tn j) 8 x) from cE.put (by unfold cT; omega)).keep hI) ((mE.put (by omega)).keep hM1) hJ hL e4 e5 (fun r k q => up2_ne (by omega))⟩
theorem E_fail (h : lwP Lv C) {b : Int32} (hk : kFail C b = 0) : mI (up2 C (10 + 10 * tn b) 10 1) ∧ jFail (up2 C (10 + 10 * tn b) 10 1) b = 0 ∧ cFail C (tn b) = (if mOn (up2 C (10 + 10 * tn b) 10 1) (tn b) = -1 then 0 else 1) ∧ ∀ x, lwP Lv (up2 (up2 (up2 C (10 + 10 * tn b) 10 1) 69 (tn b) 1) 60 0 x) := by
  have hb : tn b < 2 := line_lt h (by unfold kFail at hk; exact (if0 hk (by decide)).1)
  obtain ⟨hI, hM, hJ, hL, hR, hC⟩ := h
  have hi : ∀ r k, 60 ≤ r → up2 C (10 + 10 * tn b) 10 1 r k = C r k := fun r k q => up2_ne (by omega)
  have hM1 := (hi_mE hi).keep hM
  obtain ⟨e1, e2⟩ := e_fail (hi_Rel hi hI hR) hI (b := b)
  obtain ⟨e3, e4⟩ := e2 hk
  exact ⟨hM1, e1.symm.trans hk, e3, lwP.end ((show cE C (up2 C (10 + 10 * tn b) 10 1) from cE.put (by unfold cT; omega)).keep hI) ((mE.put (by omega)).keep hM1) hJ hL e4 (rC_put (by omega) (by omega) hC) (fun r k q => up2_ne (by omega))⟩
/-! addBeamline, propose -/
theorem E_addBeamline (h : lwP Lv C) {s m : Int32} (hk : kBeam C s m = 0) : mI (oBeam C s m) ∧ jBeam (oBeam C s m) s m = 0 ∧ nI (cNb C) = oBeam C s m 60 1 + 1 - 1 ∧ ∀ x, lwP (lBeam Lv C) (up2 (up2 (up2 (up2 (oBeam C s m) 61 (mNb (oBeam C s m)) s) 62 (mNb (oBeam C s m)) m) 60 1 (oBeam C s m 60 1 + 1)) 60 0 x) := by
  obtain ⟨hI, hM, hJ, hL, hR, hC⟩ := h
  have hn : cNb C < 2 := by
    unfold kBeam at hk
    exact (if0 (if0 (if0 hk (by decide)).2 (by decide)).2 (by decide)).1
  have hi : ∀ r k, 60 ≤ r → oBeam C s m r k = C r k := fun r k q => by rw [oBeam_ne (by omega) (by omega) (by omega)]
  have hM1 := (hi_mE hi).keep hM
  have hnb : mNb (oBeam C s m) = cNb C := by
    rw [hR.nb]; unfold mNb; rw [hi 60 1 (by omega)]
  obtain ⟨e1, e2⟩ := e_addBeamline (hi_Rel hi hI hR) hI hM1 (s := s) (m := m)
  obtain ⟨e3, e4⟩ := e2 hk
  have hJ2 : lJ (lBeam Lv C) := fun x hx => by
    unfold lBeam
    rw [va_up_ne _ _ (by omega), lvLine_ne (by omega)]
    exact hJ x hx
  have hL2 : mL (lBeam Lv C) := fun r h1 h2 => by
    unfold lBeam
    rw [va_up_ne _ _ (by omega), lvLine_ne (by omega)]
    exact hL r h1 h2
  have hC2 : rC (oBeam C s m) := by
    refine hC.cong oBeam_np (fun j => ?_)
    unfold isC
    rw [oBeam_ne (by omega) (by omega) (by omega)]
  exact ⟨hM1, e1.symm.trans hk, e3, lwP.end (cI_beam hI hn) (mI_beam hM1 (by omega)) hJ2 hL2 e4 hC2 (fun r k q => by rw [up2_ne (by omega), up2_ne (by omega), up2_ne (by omega)])⟩
theorem E_propose (h : lwP Lv C) {b us sc w d : Int32} (hk : kPrp C b us sc w d = 0) : mI (oPrp C b us sc w d) ∧ jPrp (oPrp C b us sc w d) b us sc w d = 0 ∧ nI (cNp C) = oPrp C b us sc w d 60 2 + 1 - 1 ∧ ∀ x, lwP (lPrp Lv C) (up2 (up2 (up2 (up2 (up2 (up2 (up2 (oPrp C b us sc w d) 70 (mNp (oPrp C b us sc w d)) b) 71 (mNp (oPrp C b us sc w d)) us) 72 (mNp (oPrp C b us sc w d)) sc) 73 (mNp (oPrp C b us sc w d)) w) 74 (mNp (oPrp C b us sc w d)) d) 60 2 (oPrp C b us sc w d 60 2 + 1)) 60 0 x) := by
  obtain ⟨hI, hM, hJ, hL, hR, hC⟩ := h
  have hkk := hk
  unfold kPrp at hkk
  obtain ⟨hok, hkk⟩ := if0 hkk (by decide)
  obtain ⟨hw1, hkk⟩ := if0 hkk (by decide)
  obtain ⟨-, hkk⟩ := if0 hkk (by decide)
  obtain ⟨-, hkk⟩ := if0 hkk (by decide)
  obtain ⟨-, hkk⟩ := if0 hkk (by decide)
  obtain ⟨-, hkk⟩ := if0 hkk (by decide)
  obtain ⟨hn, -⟩ := if0 hkk (by decide)
  have hi : ∀ r k, 60 ≤ r → oPrp C b us sc w d r k = C r k := fun r k q => by rw [oPrp_ne (by omega) (by omega) (by omega)]
  have hM1 := (hi_mE hi).keep hM
  have hnp : mNp (oPrp C b us sc w d) = cNp C := by
    rw [hR.np]; unfold mNp; rw [hi 60 2 (by omega)]
  have hnb : mNb (oPrp C b us sc w d) = cNb C := by
    rw [hR.nb]; unfold mNb; rw [hi 60 1 (by omega)]
  have hR1 := hi_Rel hi hI hR
  obtain ⟨e3, e4, e5⟩ := e_propose hR1 hI hM1 hC (b := b) (us := us) (sc := sc) (w := w) (d := d) hk
  have hJ2 : lJ (lPrp Lv C) := fun x hx => by
    unfold lPrp
    rw [va_up_ne _ _ (by omega), va_up_ne _ _ (by omega)]
    exact hJ x hx
  have hL2 : mL (lPrp Lv C) := fun r h1 h2 => by
    unfold lPrp
    rw [va_up_ne _ _ (by omega), va_up_ne _ _ (by omega)]
    exact hL r h1 h2
  refine ⟨hM1, (prp_code hR1 hI hM1).symm.trans hk, e3, lwP.end (cI_prp' hI hn hok) (mI_prp hM1 (by omega) (by unfold okm; rw [hnb]; exact hok) ((win_ok (n := 10) (by decide)).mp hw1)) hJ2 hL2 e4 e5 (fun r k q => by rw [up2_ne (by omega), up2_ne (by omega), up2_ne (by omega), up2_ne (by omega), up2_ne (by omega), up2_ne (by omega)])⟩
/-! leftAnew -/
theorem E_leftAnew (h : lwP Lv C) {j : Int32} (hk : kProp C j = 0) : mI (oK C (tn (C (40 + tn j) 1)) (cReplay C (tn (C (40 + tn j) 1)))) ∧ jProp (oK C (tn (C (40 + tn j) 1)) (cReplay C (tn (C (40 + tn j) 1)))) j = 0 ∧ cAnew C (tn j) = oK C (tn (C (40 + tn j) 1)) (cReplay C (tn (C (40 + tn j) 1))) 75 (tn j) ∧ ∀ x, lwP Lv (up2 (oK C (tn (C (40 + tn j) 1)) (cReplay C (tn (C (40 + tn j) 1)))) 60 0 x) := by
  have hj := (prop_lt h (by unfold kProp at hk; exact (if0 hk (by decide)).1)).1
  obtain ⟨hI, hM, hJ, hL, hR, hC⟩ := h
  have hb := (ln_lt hI hj).2.1
  generalize tn (C (40 + tn j) 1) = b at hb
  generalize hq : cReplay C b = q
  have h8 : q.1 ≤ 8 := by
    rw [← hq]
    unfold cReplay
    rw [rpF_1]
    unfold cAll
    exact rpA_8 (Nat.zero_le _)
  have ne : ∀ r, r ≠ 15 + 10 * b → r ≠ 16 + 10 * b → oK C b q r = C r := fun r h1 h2 => oK_ne C q h1 h2
  have hi : ∀ r k, 60 ≤ r → oK C b q r k = C r k := fun r k h => by rw [ne r (by omega) (by omega)]
  have hM1 := (hi_mE hi).keep hM
  obtain ⟨e1, e2⟩ := e_leftAnew (hi_Rel hi hI hR) hI (j := j)
  have e3 := e2 hk
  have hE : cE C (oK C b q) := cE_k hb h8
  refine ⟨hM1, e1.symm.trans hk, e3, lwP.end (hE.keep hI) hM1 hJ hL (hR.same hI (fun r k h1 h2 h3 h4 h5 => by rw [ne r (by omega) (by omega)]) (fun r k h1 _ => hi r k (by omega)) (fun k _ _ => hi 60 k (by omega))) (hC.cong hE.np (fun i => by unfold isC; rw [ne _ (by omega) (by omega)])) (fun _ _ _ => rfl)⟩
end EOPS
