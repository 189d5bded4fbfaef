section JOINS
variable {l : Launch} {g : GW} {p : Program} {e : Env} {R : Room} {s : State} {m : MethodId} {args : Array Value} {below : List Frame} {meth : Method} {c : Code} {A : Nat → Prop} {nL : Nat} {Q : State → Prop} {ad : AD} {τ : RH} {cells slots pc : Nat} {lv : LV} {st : List Value}
/-- where ways meet -/
theorem a_join (K : RH → LV → Prop) (pc' : Nat) (h : ∀ τ1 lv1, K τ1 lv1 → AW l g p e R s m args below meth c A nL Q ad τ1 cells slots pc' lv1 []) (k : (∀ τ1 lv1, K τ1 lv1 → AW l g p e R s m args below meth c A nL Q ad τ1 cells slots pc' lv1 []) → AW l g p e R s m args below meth c A nL Q ad τ cells slots pc lv st) : AW l g p e R s m args below meth c A nL Q ad τ cells slots pc lv st := k h
end JOINS
/-! which numbers the class's structure rests on -/
def cT (r k : Nat) : Prop := (1 ≤ r ∧ r ≤ 4) ∨ r = 11 ∨ r = 12 ∨ r = 21 ∨ r = 22 ∨ ((r = 13 ∨ r = 23 ∨ r = 15 ∨ r = 25) ∧ k = 1) ∨ ((r = 10 ∨ r = 20) ∧ k = 6) ∨ (40 ≤ r ∧ r < 48 ∧ k ≤ 1)
/-- C' keeps what the structure rests on -/
def cE (C C' : ME) : Prop := (∀ r k, cT r k → ¬ ((r = 15 ∨ r = 25) ∧ k = 1) → ¬ ((r = 10 ∨ r = 20) ∧ k = 6) → C' r k = C r k) ∧ ∀ b, b < 2 → ((∃ na, na ≤ 8 ∧ C (15 + 10 * b) 1 = nI na) → ∃ na, na ≤ 8 ∧ C' (15 + 10 * b) 1 = nI na) ∧ ((∃ ps, ps ≤ 200 ∧ C (10 + 10 * b) 6 = nI ps) → ∃ ps, ps ≤ 200 ∧ C' (10 + 10 * b) 6 = nI ps)
theorem cE.refl (C : ME) : cE C C := ⟨fun _ _ _ _ _ => rfl, fun _ _ => ⟨fun h => h, fun h => h⟩⟩
theorem cE.trans {C C1 C2 : ME} (h : cE C C1) (k : cE C1 C2) : cE C C2 := ⟨fun r i h1 h2 h3 => (k.1 r i h1 h2 h3).trans (h.1 r i h1 h2 h3), fun b hb => ⟨fun q => (k.2 b hb).1 ((h.2 b hb).1 q), fun q => (k.2 b hb).2 ((h.2 b hb).2 q)⟩⟩
theorem cE.row {C : ME} {r : Nat} {w : Nat → Int32} (h : ∀ k, cT r k → w k = C r k) : cE C (va_up C r w) := by
  have e : ∀ r' k, cT r' k → va_up C r w r' k = C r' k := fun r' k hc => by
    by_cases hr : r' = r
    · subst hr; rw [va_up_self]; exact h k hc
    · rw [va_up_ne _ _ hr]
  refine ⟨fun r' k hc _ _ => e r' k hc, fun b hb => ⟨fun q => ?_, fun q => ?_⟩⟩
  · rw [e _ _ (by unfold cT; omega)]; exact q
  · rw [e _ _ (by unfold cT; omega)]; exact q
theorem cE.put {C : ME} {r k : Nat} {x : Int32} (h : ¬ cT r k) : cE C (up2 C r k x) := cE.row fun k' hk => va_up_ne _ _ (fun q => h (by rw [← q]; exact hk))
theorem up2_at (C : ME) (r k : Nat) (x : Int32) (r' k' : Nat) : up2 C r k x r' k' = if r' = r ∧ k' = k then x else C r' k' := by
  unfold up2
  by_cases h : r' = r
  · subst h
    rw [va_up_self]
    by_cases h2 : k' = k
    · subst h2; rw [va_up_self, if_pos ⟨rfl, rfl⟩]
    · rw [va_up_ne _ _ h2, if_neg (fun q => h2 q.2)]
  · rw [va_up_ne _ _ h, if_neg (fun q => h q.1)]
theorem cE.anew {C : ME} {b na : Nat} (hb : b < 2) (hn : na ≤ 8) : cE C (up2 C (15 + 10 * b) 1 (nI na)) := by
  refine ⟨fun r' k hc h1 _ => ?_, fun b' hb' => ⟨fun q => ?_, fun q => ?_⟩⟩
  · rw [up2_at, if_neg (fun q => h1 (by omega))]
  · rw [up2_at]; split
    · exact ⟨na, hn, rfl⟩
    · exact q
  · rw [up2_at, if_neg (by omega)]; exact q
theorem cE.passed {C : ME} {b ps : Nat} (hb : b < 2) (hn : ps ≤ 200) : cE C (up2 C (10 + 10 * b) 6 (nI ps)) := by
  refine ⟨fun r' k hc _ h1 => ?_, fun b' hb' => ⟨fun q => ?_, fun q => ?_⟩⟩
  · rw [up2_at, if_neg (fun q => h1 (by omega))]
  · rw [up2_at, if_neg (by omega)]; exact q
  · rw [up2_at]; split
    · exact ⟨ps, hn, rfl⟩
    · exact q
theorem cE.nb {C C' : ME} (h : cE C C') : cNb C' = cNb C := by unfold cNb; rw [h.1 1 2 (by unfold cT; omega) (by omega) (by omega)]
theorem cE.np {C C' : ME} (h : cE C C') : cNp C' = cNp C := by unfold cNp; rw [h.1 3 2 (by unfold cT; omega) (by omega) (by omega)]
theorem cE.lb {C C' : ME} (h : cE C C') {b : Nat} (hb : b < cNb C) : b < cNb C' := by rw [h.nb]; exact hb
theorem cE.lp {C C' : ME} (h : cE C C') {j : Nat} (hj : j < cNp C) : j < cNp C' := by rw [h.np]; exact hj
theorem cE.nq {C C' : ME} (h : cE C C') {b : Nat} (hb : b < 2) : cNq C' b = cNq C b := by unfold cNq; rw [h.1 _ 2 (by unfold cT; omega) (by omega) (by omega)]
theorem cE.q {C C' : ME} (h : cE C C') {b : Nat} (hb : b < 2) (k : Nat) : C' (12 + 10 * b) k = C (12 + 10 * b) k := h.1 _ k (by unfold cT; omega) (by omega) (by omega)
theorem cE.lis {Lv : Nat → Bool} {C C' : ME} (h : cE C C') {r n : Nat} (hr : ∀ k, cT r k) (h1 : r ≠ 15 ∧ r ≠ 25 ∧ r ≠ 10 ∧ r ≠ 20) (hr2 : ∀ k, cT (r + 1) k) (h2 : r + 1 ≠ 15 ∧ r + 1 ≠ 25 ∧ r + 1 ≠ 10 ∧ r + 1 ≠ 20) (hc : cLis Lv C r n) : cLis Lv C' r n := by
  unfold cLis at hc ⊢
  rw [h.1 r 2 (hr 2) (by omega) (by omega), h.1 r 1 (hr 1) (by omega) (by omega)]
  exact ⟨hc.1, hc.2.1, hc.2.2.1, hc.2.2.2.1, fun k a b => by rw [h.1 (r + 1) k (hr2 k) (by omega) (by omega)]; exact hc.2.2.2.2 k a b⟩
theorem cE.keep {Lv : Nat → Bool} {C C' : ME} (h : cE C C') (hI : cI Lv C) : cI Lv C' := by
  obtain ⟨h1, h2, h3, h4, h5, h6, h7, h8, h9, h10, h11, h12, h13⟩ := hI
  unfold cI
  rw [h.nb, h.np]
  refine ⟨h1, h2, h3, h4, h5, h.lis (fun k => by unfold cT; omega) (by omega) (fun k => by unfold cT; omega) (by omega) h6, h.lis (fun k => by unfold cT; omega) (by omega) (fun k => by unfold cT; omega) (by omega) h7, fun i hi => ?_, fun i hi => ?_, fun b hb => ?_, h11, fun j hj => ?_, h13⟩
  · rw [h.1 2 i (by unfold cT; omega) (by omega) (by omega)]; exact h8 i hi
  · rw [h.1 4 i (by unfold cT; omega) (by omega) (by omega)]; exact h9 i hi
  · have hb2 : b < 2 := by omega
    obtain ⟨a1, a2, a3, a4, a5, a6, a7, a8, a9, a10, a11, a12⟩ := h10 b hb
    unfold cLin
    rw [h.nq hb2, h.np, h.1 (13 + 10 * b) 1 (by unfold cT; omega) (by omega) (by omega)]
    exact ⟨a1, a2, a3, a4, a5, a6, a7, h.lis (fun k => by unfold cT; omega) (by omega) (fun k => by unfold cT; omega) (by omega) a8, a9, (h.2 b hb2).1 a10, (h.2 b hb2).2 a11, fun k hk => by rw [h.q hb2]; exact a12 k hk⟩
  · have hj8 : j < 8 := by omega
    rw [h.1 (40 + j) 0 (by unfold cT; omega) (by omega) (by omega), h.1 (40 + j) 1 (by unfold cT; omega) (by omega) (by omega)]
    exact h12 j hj
/-! what a beamline's calls leave -/
/-- the calendar at role r (its row at r + 1) -/
def oCal (C : ME) (r n : Nat) (f : Nat → Int32) (rs : Int32) : ME := va_up (va_up C (r + 1) f) r (va_up (va_up (C r) 1 (nI n)) 2 rs)
def oCount (C : ME) (j : Nat) (kd : Int32) : ME := va_up C (40 + j) (va_up (va_up (va_up (C (40 + j)) 9 (if kd = 100 then C (40 + j) 9 + 1 else C (40 + j) 9)) 10 (if kd = 109 then C (40 + j) 10 + 1 else C (40 + j) 10)) 11 (if kd = 108 then C (40 + j) 11 + 1 else C (40 + j) 11))
def oCnt (C : ME) (b : Nat) (kd : Int32) : ME := match cCur C b with
  | none => C
  | some j => if kd = 100 then up2 (oCount C j kd) (10 + 10 * b) 8 ((oCount C j kd) (10 + 10 * b) 8 + (oCount C j kd) (40 + j) 5) else oCount C j kd
def cFol (C : ME) (b : Nat) (kd : Int32) : (Nat → Int32) × Int32 × Int32 := kFollow (cNq C b) (C (14 + 10 * b)) (C (13 + 10 * b) 2) kd
def oFol (C : ME) (b : Nat) (kd : Int32) : ME := oCal C (13 + 10 * b) (cNq C b) (cFol C b kd).1 (cFol C b kd).2.1
def oOwe (C : ME) (b : Nat) (q : Int32) : ME := match cAt C b q with
  | none => C
  | some j => up2 C (40 + j) 12 (C (40 + j) 12 + 1)
def oNote (C : ME) (b : Nat) (kd : Int32) : ME := if C (10 + 10 * b) 9 = 0 ∨ nI 200 ≤ C (10 + 10 * b) 6 then C else up2 (up2 C (17 + 10 * b) (tn (C (10 + 10 * b) 6)) kd) (10 + 10 * b) 6 (nI (tn (C (10 + 10 * b) 6) + 1))
def oDrain (C : ME) (b : Nat) : ME := up2 C (10 + 10 * b) 8 (if 0 < C (10 + 10 * b) 8 - C (10 + 10 * b) 7 then C (10 + 10 * b) 8 - C (10 + 10 * b) 7 else 0)
def oFix (C : ME) (b : Nat) : ME := up2 C (10 + 10 * b) 10 0
def oTake (C : ME) (b : Nat) (kd : Int32) : ME := oFol (oCnt C b kd) b kd
def oLost (C : ME) (b : Nat) (kd : Int32) : ME := oOwe (oTake C b kd) b (cFol (oCnt C b kd) b kd).2.2
def oShift (C : ME) (b : Nat) (kd : Int32) : ME := oFix (oDrain (oNote (oLost C b kd) b kd) b) b
theorem cE_cal {C : ME} {b n : Nat} {f : Nat → Int32} {rs : Int32} (hb : b < 2) (hn : C (13 + 10 * b) 1 = nI n) : cE C (oCal C (13 + 10 * b) n f rs) := by
  unfold oCal
  refine (cE.row (fun k hk => absurd hk (by unfold cT; omega))).trans (cE.row (fun k hk => ?_))
  have hk1 : k = 1 := by unfold cT at hk; omega
  subst hk1
  rw [va_up_ne _ _ (by decide), va_up_self, va_up_ne _ _ (by omega), hn]
theorem cE_count {C : ME} {j : Nat} {kd : Int32} (hj : j < 8) : cE C (oCount C j kd) := cE.row fun k hk => by
  have : k ≤ 1 := by unfold cT at hk; omega
  rw [va_up_ne _ _ (by omega), va_up_ne _ _ (by omega), va_up_ne _ _ (by omega)]
theorem cE_cnt {Lv : Nat → Bool} {C : ME} (hI : cI Lv C) {b : Nat} {kd : Int32} (hb : b < cNb C) : cE C (oCnt C b kd) := by
  unfold oCnt
  rcases h : cCur C b with _ | j
  · exact cE.refl C
  · have hj := Nat.lt_of_lt_of_le (cAt_lt hI hb h) hI.2.1
    have hb2 := (cI_lin hI hb).2
    dsimp only
    split
    · exact (cE_count hj).trans (cE.put (by unfold cT; omega))
    · exact cE_count hj
theorem cE_fol {Lv : Nat → Bool} {C : ME} (hI : cI Lv C) {b : Nat} {kd : Int32} (hb : b < cNb C) : cE C (oFol C b kd) := cE_cal (cI_lin hI hb).2 (cI_lin hI hb).1.2.2.2.2.2.2.2.2.1
theorem cE_owe {Lv : Nat → Bool} {C : ME} (hI : cI Lv C) {b : Nat} {q : Int32} (hb : b < cNb C) : cE C (oOwe C b q) := by
  unfold oOwe
  rcases h : cAt C b q with _ | j
  · exact cE.refl C
  · have hj := Nat.lt_of_lt_of_le (cAt_lt hI hb h) hI.2.1
    exact cE.put (by unfold cT; omega)
theorem note_ps {Lv : Nat → Bool} {C : ME} (hI : cI Lv C) {b : Nat} (hb : b < cNb C) (h : ¬ nI 200 ≤ C (10 + 10 * b) 6) : C (10 + 10 * b) 6 = nI (tn (C (10 + 10 * b) 6)) ∧ tn (C (10 + 10 * b) 6) < 200 := by
  obtain ⟨ps, h1, h2⟩ := (cI_lin hI hb).1.2.2.2.2.2.2.2.2.2.2.1
  exact ix_lt (by rw [h2]; exact nI_pos (by omega)) h (by decide)
theorem cE_note {Lv : Nat → Bool} {C : ME} (hI : cI Lv C) {b : Nat} {kd : Int32} (hb : b < cNb C) : cE C (oNote C b kd) := by
  have hb2 := (cI_lin hI hb).2
  unfold oNote
  split
  · exact cE.refl C
  · rename_i h
    exact (cE.put (by unfold cT; omega)).trans (cE.passed hb2 (note_ps hI hb (fun q => h (Or.inr q))).2)
theorem cE_drain {C : ME} {b : Nat} (hb : b < 2) : cE C (oDrain C b) := cE.put (by unfold cT; omega)
theorem cE_fix {C : ME} {b : Nat} (hb : b < 2) : cE C (oFix C b) := cE.put (by unfold cT; omega)
theorem cE_take {Lv : Nat → Bool} {C : ME} (hI : cI Lv C) {b : Nat} {kd : Int32} (hb : b < cNb C) : cE C (oTake C b kd) := by
  have h := cE_cnt (kd := kd) hI hb
  exact h.trans (cE_fol (h.keep hI) (by rw [h.nb]; exact hb))
theorem cE_lost {Lv : Nat → Bool} {C : ME} (hI : cI Lv C) {b : Nat} {kd : Int32} (hb : b < cNb C) : cE C (oLost C b kd) := by
  have h := cE_take (kd := kd) hI hb
  exact h.trans (cE_owe (h.keep hI) (by rw [h.nb]; exact hb))
theorem cE_shift {Lv : Nat → Bool} {C : ME} (hI : cI Lv C) {b : Nat} {kd : Int32} (hb : b < cNb C) : cE C (oShift C b kd) := by
  have hb2 := (cI_lin hI hb).2
  have h := cE_lost (kd := kd) hI hb
  exact ((h.trans (cE_note (h.keep hI) (by rw [h.nb]; exact hb))).trans (cE_drain hb2)).trans (cE_fix hb2)
/-! the heap along them -/
theorem HH.cal {g : GW} {ad : AD} {Lv : Nat → Bool} {C : ME} {ρ τ : RH} (hH : HH g ad Lv C ρ τ) {b n : Nat} {f : Nat → Int32} {rs : Int32} (hb : b < 2) (h1 : Lv (13 + 10 * b) = true) (h2 : Lv (14 + 10 * b) = true) : HH g ad Lv (oCal C (13 + 10 * b) n f rs) ρ (va_up (va_up τ (10 + 10 * b + 4) (some (arI g 8 f))) (10 + 10 * b + 3) (some (calO ad (10 + 10 * b + 4) n rs))) := by
  rw [show 10 + 10 * b + 4 = 14 + 10 * b by omega, show 10 + 10 * b + 3 = 13 + 10 * b by omega]
  have a := hH.set (r := 14 + 10 * b) (w := f) (by omega) h2 (ob_keptL (g := g) (ad := ad) hb).symm
  have k := a.set (r := 13 + 10 * b) (w := va_up (va_up (C (13 + 10 * b)) 1 (nI n)) 2 rs) (e := calO ad (14 + 10 * b) n rs) (by omega) h1 (by
    rw [ob_kept hb, show 14 + 10 * b = 13 + 10 * b + 1 by omega]; rfl)
  unfold oCal
  rw [show 13 + 10 * b + 1 = 14 + 10 * b by omega]
  exact k
theorem HH.anew {g : GW} {ad : AD} {Lv : Nat → Bool} {C : ME} {ρ τ : RH} (hH : HH g ad Lv C ρ τ) {b n : Nat} {f : Nat → Int32} {rs : Int32} (hb : b < 2) (h1 : Lv (15 + 10 * b) = true) (h2 : Lv (16 + 10 * b) = true) : HH g ad Lv (oCal C (15 + 10 * b) n f rs) ρ (va_up (va_up τ (10 + 10 * b + 6) (some (arI g 8 f))) (10 + 10 * b + 5) (some (calO ad (10 + 10 * b + 6) n rs))) := by
  rw [show 10 + 10 * b + 6 = 16 + 10 * b by omega, show 10 + 10 * b + 5 = 15 + 10 * b by omega]
  have a := hH.set (r := 16 + 10 * b) (w := f) (by omega) h2 (ob_anewL (g := g) (ad := ad) hb).symm
  have k := a.set (r := 15 + 10 * b) (w := va_up (va_up (C (15 + 10 * b)) 1 (nI n)) 2 rs) (e := calO ad (16 + 10 * b) n rs) (by omega) h1 (by
    rw [ob_anew hb, show 16 + 10 * b = 15 + 10 * b + 1 by omega]; rfl)
  unfold oCal
  rw [show 15 + 10 * b + 1 = 16 + 10 * b by omega]
  exact k
theorem HH.beam {g : GW} {ad : AD} {Lv : Nat → Bool} {C : ME} {ρ τ : RH} (hH : HH g ad Lv C ρ τ) {b : Nat} (hb : b < 2) (h1 : Lv (10 + 10 * b) = true) (k : Nat) (x : Int32) {e : va_E} (he : e = beO ad (10 + 10 * b) (va_up (C (10 + 10 * b)) k x)) : HH g ad Lv (up2 C (10 + 10 * b) k x) ρ (va_up τ (10 + 10 * b) (some e)) := hH.put k x (by omega) h1 (by rw [ob_beam hb]; exact he)
theorem HH.prop {g : GW} {ad : AD} {Lv : Nat → Bool} {C : ME} {ρ τ : RH} (hH : HH g ad Lv C ρ τ) {j : Nat} (hj : j < 8) (h1 : Lv (40 + j) = true) {w : Nat → Int32} {e : va_E} (he : e = ppO ad w) : HH g ad Lv (va_up C (40 + j) w) ρ (va_up τ (40 + j) (some e)) := hH.set (by omega) h1 (by rw [ob_prop hj]; exact he)
theorem H_kinds {g : GW} {ad : AD} {Lv : Nat → Bool} {C : ME} {ρ τ : RH} (hH : HH g ad Lv C ρ τ) (hI : cI Lv C) {b : Nat} (hb : b < cNb C) : τ (10 + 10 * b + 7) = some (arC g 200 (C (17 + 10 * b))) := by
  obtain ⟨hL, hb2⟩ := cI_lin hI hb
  rw [show 10 + 10 * b + 7 = 17 + 10 * b by omega, hH.at (by omega) hL.2.2.2.2.2.1, ob_kinds hb2]
theorem HH.kinds {g : GW} {ad : AD} {Lv : Nat → Bool} {C : ME} {ρ τ : RH} (hH : HH g ad Lv C ρ τ) {b : Nat} (hb : b < 2) (h1 : Lv (17 + 10 * b) = true) (k : Nat) (x : Int32) : HH g ad Lv (up2 C (17 + 10 * b) k x) ρ (va_up τ (10 + 10 * b + 7) (some (arC g 200 (va_up (C (17 + 10 * b)) k x)))) := by
  rw [show 10 + 10 * b + 7 = 17 + 10 * b by omega]
  exact hH.put (r := 17 + 10 * b) k x (by omega) h1 (by rw [ob_kinds hb])
theorem nI_1t {x : Int32} {n : Nat} (h : x = nI n) : x + 1 = nI (n + 1) := by rw [h]; exact nI_1 n
set_option maxHeartbeats 4000000 in
set_option maxRecDepth 100000 in
/-- note(kind) -/
theorem sp_X0_note {l : Launch} {g : GW} {ad : AD} {τ : RH} {Lv : Nat → Bool} {C : ME} {ρ : RH} {b : Nat} {kd : Int32} (hH : HH g ad Lv C ρ τ) (hI : cI Lv C) (hb : b < cNb C) (hkd : vp_nar .char kd = kd) : Sp l g yX0_note (.code yX0_note cX0_note 2 none) (rmv 0 0 0) [.ref (ad (10 + 10 * b)), .int kd] ad τ 0 0 (fun v ad' τ' => v = none ∧ ad' = ad ∧ HH g ad Lv (oNote C b kd) ρ τ') (NoX) := by
  refine Sp.of 0 [some (.ref (ad (10 + 10 * b))), some (.int kd)] (by decide +kernel) (Nat.le_of_ble_eq_true rfl) rfl ?_
  intro p e s m args below meth c A cx hout hr hnm
  have hB := H_beam hH hI hb
  obtain ⟨hL, hb2⟩ := cI_lin hI hb
  have hK := H_kinds hH hI hb
  refine a_aload_n cx dX0_note_0 rfl rfl ?_
  refine gf_X0_42 cx hB dX0_note_1 ?_
  refine a_if_eq cx (tgt := 39) dX0_note_4 (by decide) (fun c_4 => ?_) (fun c_4 => ?_)
  · exact a_vret cx hr dX0_note_39 (Nat.le_of_ble_eq_true rfl) (Nat.le_of_ble_eq_true rfl) ⟨rfl, rfl, by unfold oNote; rw [if_pos (show _ ∨ nI 200 ≤ _ from Or.inl c_4)]; exact hH⟩
  · refine a_aload_n cx dX0_note_7 rfl rfl ?_
    refine gf_X0_32 cx hB dX0_note_8 ?_
    refine a_aload_n cx dX0_note_11 rfl rfl ?_
    refine gf_X0_28 cx hB dX0_note_12 ?_
    refine a_alen cx 0 hK rfl rfl dX0_note_15 ?_
    refine a_icmp_ge cx (tgt := 39) dX0_note_16 (by decide) (fun c_16 => ?_) (fun c_16 => ?_)
    · exact a_vret cx hr dX0_note_39 (Nat.le_of_ble_eq_true rfl) (Nat.le_of_ble_eq_true rfl) ⟨rfl, rfl, by unfold oNote; rw [if_pos (show _ ∨ nI 200 ≤ _ from Or.inr c_16)]; exact hH⟩
    · refine a_aload_n cx dX0_note_19 rfl rfl ?_
      refine gf_X0_28 cx hB dX0_note_20 ?_
      refine a_aload_n cx dX0_note_23 rfl rfl ?_
      refine gf_X0_32 cx hB dX0_note_24 ?_
      refine a_iload_n cx dX0_note_27 rfl rfl ?_
      refine a_cst cx (tn (C (10 + 10 * b) 6)) hK ((note_ps hI hb c_16).1) ((note_ps hI hb c_16).2) (by decide) hkd dX0_note_28 ?_
      have hH2 := hH.kinds hb2 hL.2.2.2.2.2.1 (tn (C (10 + 10 * b) 6)) kd
      have hz : up2 C (17 + 10 * b) (tn (C (10 + 10 * b) 6)) kd (10 + 10 * b) = C (10 + 10 * b) := va_up_ne _ _ (by omega)
      have hE1 : cE C (up2 C (17 + 10 * b) (tn (C (10 + 10 * b) 6)) kd) := cE.put (by unfold cT; omega)
      replace hB := H_beam hH2 (hE1.keep hI) (hE1.lb hb)
      rw [hz] at hB
      refine a_aload_n cx dX0_note_29 rfl rfl ?_
      refine a_dup cx dX0_note_30 rfl ?_
      refine gf_X0_32 cx hB dX0_note_31 ?_
      refine a_iconst cx (v := 1) dX0_note_34 (by decide) ?_
      refine a_iadd cx dX0_note_35 ?_
      refine pf_X0_32 cx hB dX0_note_36 ?_
      exact a_vret cx hr dX0_note_39 (Nat.le_of_ble_eq_true rfl) (Nat.le_of_ble_eq_true rfl) ⟨rfl, rfl, by unfold oNote; rw [if_neg (show ¬ (_ ∨ nI 200 ≤ _) from fun h => h.elim c_4 c_16)]; exact hH2.beam hb2 hL.1 6 _ (by rw [hz, ← nI_1t (note_ps hI hb c_16).1]; rfl)⟩

set_option maxHeartbeats 4000000 in
set_option maxRecDepth 100000 in
/-- runShift(kind) -/
theorem sp_X0_runShift {l : Launch} {g : GW} {ad : AD} {τ : RH} {Lv : Nat → Bool} {C : ME} {ρ : RH} {b : Nat} {kd : Int32} (hH : HH g ad Lv C ρ τ) (hI : cI Lv C) (hb : b < cNb C) (hkd : vp_nar .char kd = kd) : Sp l g yX0_runShift (.code yX0_runShift cX0_runShift 4 none) (rmv 6 0 0) [.ref (ad (10 + 10 * b)), .int kd] ad τ 0 0 (fun v ad' τ' => v = none ∧ ad' = ad ∧ HH g ad Lv (oShift C b kd) ρ τ') (NoX) := by
  refine Sp.of 2 [some (.ref (ad (10 + 10 * b))), some (.int kd), none, none] (by decide +kernel) (Nat.le_of_ble_eq_true rfl) rfl ?_
  intro p e s m args below meth c A cx hout hr hnm
  have hB := H_beam hH hI hb
  obtain ⟨hL, hb2⟩ := cI_lin hI hb
  refine a_join (fun τ9 lv9 => HH g ad Lv (oLost C b kd) ρ τ9 ∧ ∃ z z', lv9 = [some (.ref (ad (10 + 10 * b))), some (.int kd), z, z']) 60 ?_ (fun tail60 => ?_)
  · rintro τ1 lv1 ⟨hH, z, z', rfl⟩
    have hE := cE_lost (kd := kd) hI hb
    have hB := H_beam hH (hE.keep hI) (hE.lb hb)
    refine a_aload_n cx dX0_runShift_60 rfl rfl ?_
    refine a_iload_n cx dX0_runShift_61 rfl rfl ?_
    refine a_callV cx 1 (sp_X0_note hH (hE.keep hI) (hE.lb hb) hkd) hB rfl ml_X0_108 im_X0_note se_X0_note ini_X0 cd_X0_note rfl rfl (by decide +kernel) rfl rfl ⟨(Nat.le_of_ble_eq_true rfl), (Nat.le_of_ble_eq_true rfl)⟩ (Nat.le_of_ble_eq_true rfl) dX0_runShift_62 ⟨(Nat.le_of_ble_eq_true rfl), (Nat.le_of_ble_eq_true rfl)⟩ (fun _ _ _ h => h.elim) (fun v9 ad9 τ9 hP9 => ?_)
    obtain ⟨rfl, h2, hH2⟩ := hP9
    replace h2 := h2.symm
    subst h2
    replace hE := hE.trans (cE_note (kd := kd) (hE.keep hI) (hE.lb hb))
    replace hB := H_beam hH2 (hE.keep hI) (hE.lb hb)
    refine a_aload_n cx dX0_runShift_65 rfl rfl ?_
    refine a_iconst cx (v := 0) dX0_runShift_66 (by decide) ?_
    refine a_aload_n cx dX0_runShift_67 rfl rfl ?_
    refine gf_X0_39 cx hB dX0_runShift_68 ?_
    refine a_aload_n cx dX0_runShift_71 rfl rfl ?_
    refine gf_X0_36 cx hB dX0_runShift_72 ?_
    refine a_isub cx dX0_runShift_75 ?_
    refine a_mmax cx ml_X0_111 (Nat.le_of_ble_eq_true rfl) (Nat.le_of_ble_eq_true rfl) dX0_runShift_76 ?_
    refine pf_X0_39 cx hB dX0_runShift_79 ?_
    replace hH2 := hH2.beam hb2 hL.1 8 (if 0 < oNote (oLost C b kd) b kd (10 + 10 * b) 8 - oNote (oLost C b kd) b kd (10 + 10 * b) 7 then oNote (oLost C b kd) b kd (10 + 10 * b) 8 - oNote (oLost C b kd) b kd (10 + 10 * b) 7 else 0) (e := _) rfl
    replace hE := hE.trans (cE_drain hb2)
    replace hB := H_beam hH2 (hE.keep hI) (hE.lb hb)
    refine a_aload_n cx dX0_runShift_82 rfl rfl ?_
    refine a_iconst cx (v := 0) dX0_runShift_83 (by decide) ?_
    refine pf_X0_46 cx hB (by first | exact Or.inl rfl | exact Or.inr rfl | assumption) dX0_runShift_84 ?_
    exact a_vret cx hr dX0_runShift_87 (Nat.le_of_ble_eq_true rfl) (Nat.le_of_ble_eq_true rfl) ⟨rfl, rfl, hH2.beam hb2 hL.1 10 0 rfl⟩
  · refine a_join (fun τ9 lv9 => HH g ad Lv (oCnt C b kd) ρ τ9 ∧ ∃ z : Value, z.category = 1 ∧ lv9 = [some (.ref (ad (10 + 10 * b))), some (.int kd), some z, none]) 33 ?_ (fun tail33 => ?_)
    · rintro τ1 lv1 ⟨hH, z, hz, rfl⟩
      have hE := cE_cnt (kd := kd) hI hb
      have hB := H_beam hH (hE.keep hI) (hE.lb hb)
      have hK := H_kept' hH (hE.keep hI) (hE.lb hb)
      refine a_aload_n cx dX0_runShift_33 rfl rfl ?_
      refine a_aload_n cx dX0_runShift_34 rfl rfl ?_
      refine gf_X0_21 cx hB dX0_runShift_35 ?_
      refine a_iload_n cx dX0_runShift_38 rfl rfl ?_
      refine a_callV cx 1 (sp_X1_follow (kd := kd) hK.1 hK.2.1 hK.2.2) hK.1 rfl ml_X0_101 im_X1_follow se_X1_follow ini_X1 cd_X1_follow rfl rfl (by decide +kernel) rfl rfl ⟨(Nat.le_of_ble_eq_true rfl), (Nat.le_of_ble_eq_true rfl)⟩ (Nat.le_of_ble_eq_true rfl) dX0_runShift_39 ⟨(Nat.le_of_ble_eq_true rfl), (Nat.le_of_ble_eq_true rfl)⟩ (fun _ _ _ h => h.elim) (fun v9 ad9 τ9 hP9 => ?_)
      obtain ⟨rfl, h2, h3⟩ := hP9
      replace h2 := h2.symm
      subst h2
      replace h3 := h3.symm
      subst h3
      have hn : cNq (oCnt C b kd) b = cNq C b := hE.nq hb2
      have hH2 : HH g ad Lv (oTake C b kd) ρ _ := hH.cal hb2 hL.2.1 hL.2.2.1
      have hE2 := cE_take (kd := kd) hI hb
      replace hB := H_beam hH2 (hE2.keep hI) (hE2.lb hb)
      refine a_callV cx 1 (sp_X0_proposalAt (q := (cFol (oCnt C b kd) b kd).2.2) hH2 (hE2.keep hI) (hE2.lb hb)) hB rfl ml_X0_86 im_X0_proposalAt se_X0_proposalAt ini_X0 cd_X0_proposalAt rfl rfl (by decide +kernel) rfl rfl ⟨(Nat.le_of_ble_eq_true rfl), (Nat.le_of_ble_eq_true rfl)⟩ (Nat.le_of_ble_eq_true rfl) dX0_runShift_42 ⟨(Nat.le_of_ble_eq_true rfl), (Nat.le_of_ble_eq_true rfl)⟩ (fun _ _ _ h => h.elim) (fun v9 ad9 τ9 hP => ?_)
      obtain ⟨rfl, h2, h3⟩ := hP
      replace h2 := h2.symm
      subst h2
      replace h3 := h3.symm
      subst h3
      rcases hq : cAt (oTake C b kd) b (cFol (oCnt C b kd) b kd).2.2 with _ | j
      · refine a_astore_n3N cx dX0_runShift_45 rfl (by decide) (by intro w h; first | (cases h; rfl) | (cases h; assumption) | (cases h; done)) ?_
        refine a_aload_nN cx dX0_runShift_46 rfl rfl ?_
        refine a_ifnullN cx (tgt := 60) dX0_runShift_47 (by decide) ?_
        exact tail60 _ _ ⟨by unfold oLost oOwe; rw [hq]; exact hH2, _, _, rfl⟩
      · have hj := cAt_lt (hE2.keep hI) (hE2.lb hb) hq
        have hP := H_prop hH2 (hE2.keep hI) hj
        obtain ⟨hLj, hj8⟩ := cI_prp (hE2.keep hI) hj
        refine a_astore_n3 cx dX0_runShift_45 rfl (by decide) (by intro w h; first | (cases h; rfl) | (cases h; assumption) | (cases h; done)) ?_
        refine a_aload_n cx dX0_runShift_46 rfl rfl ?_
        refine a_ifnullR cx dX0_runShift_47 ?_
        refine a_aload_n cx dX0_runShift_50 rfl rfl ?_
        refine a_dup cx dX0_runShift_51 rfl ?_
        refine gf_X0_105 cx hP dX0_runShift_52 ?_
        refine a_iconst cx (v := 1) dX0_runShift_55 (by decide) ?_
        refine a_iadd cx dX0_runShift_56 ?_
        refine pf_X0_105 cx hP dX0_runShift_57 ?_
        exact tail60 _ _ ⟨by unfold oLost oOwe; rw [hq]; exact hH2.prop hj8 hLj.1 (w := va_up (oTake C b kd (40 + j)) 12 _) rfl, _, _, rfl⟩
    · refine a_aload_n cx dX0_runShift_0 rfl rfl ?_
      refine a_callV cx 0 (sp_X0_current hH hI hb) hB rfl ml_X0_90 im_X0_current se_X0_current ini_X0 cd_X0_current rfl rfl (by decide +kernel) rfl rfl ⟨(Nat.le_of_ble_eq_true rfl), (Nat.le_of_ble_eq_true rfl)⟩ (Nat.le_of_ble_eq_true rfl) dX0_runShift_1 ⟨(Nat.le_of_ble_eq_true rfl), (Nat.le_of_ble_eq_true rfl)⟩ (fun _ _ _ h => h.elim) (fun v9 ad9 τ9 hP => ?_)
      obtain ⟨rfl, h2, h3⟩ := hP
      replace h2 := h2.symm
      subst h2
      replace h3 := h3.symm
      subst h3
      rcases hq : cCur C b with _ | j
      · refine a_astore_n2N cx dX0_runShift_4 rfl (by decide) (by intro w h; first | (cases h; rfl) | (cases h; assumption) | (cases h; done)) ?_
        refine a_aload_nN cx dX0_runShift_5 rfl rfl ?_
        refine a_ifnullN cx (tgt := 33) dX0_runShift_6 (by decide) ?_
        exact tail33 _ _ ⟨by unfold oCnt; rw [hq]; exact hH, _, rfl, rfl⟩
      · have hj := cAt_lt hI hb hq
        have hP := H_prop2 hH hI hj
        obtain ⟨hLj, hj8⟩ := cI_prp hI hj
        refine a_astore_n2 cx dX0_runShift_4 rfl (by decide) (by intro w h; first | (cases h; rfl) | (cases h; assumption) | (cases h; done)) ?_
        refine a_aload_n cx dX0_runShift_5 rfl rfl ?_
        refine a_ifnullR cx dX0_runShift_6 ?_
        refine a_aload_n cx dX0_runShift_9 rfl rfl ?_
        refine a_iload_n cx dX0_runShift_10 rfl rfl ?_
        refine a_callV cx 1 (sp_X2_countShift (kd := kd) hP) hP rfl ml_X0_94 im_X2_countShift se_X2_countShift ini_X2 cd_X2_countShift rfl rfl (by decide +kernel) rfl rfl ⟨(Nat.le_of_ble_eq_true rfl), (Nat.le_of_ble_eq_true rfl)⟩ (Nat.le_of_ble_eq_true rfl) dX0_runShift_11 ⟨(Nat.le_of_ble_eq_true rfl), (Nat.le_of_ble_eq_true rfl)⟩ (fun _ _ _ h => h.elim) (fun v9 ad9 τ9 hP9 => ?_)
        obtain ⟨rfl, h2, h3⟩ := hP9
        replace h2 := h2.symm
        subst h2
        replace h3 := h3.symm
        subst h3
        have hH2 : HH g ad Lv (oCount C j kd) ρ _ := hH.prop hj8 hLj.1 (w := va_up (va_up (va_up (C (40 + j)) 9 (if kd = 100 then C (40 + j) 9 + 1 else C (40 + j) 9)) 10 (if kd = 109 then C (40 + j) 10 + 1 else C (40 + j) 10)) 11 (if kd = 108 then C (40 + j) 11 + 1 else C (40 + j) 11)) rfl
        have hE2 := cE_count (C := C) (kd := kd) hj8
        replace hB := H_beam hH2 (hE2.keep hI) (hE2.lb hb)
        replace hP := H_prop hH2 (hE2.keep hI) (hE2.lp hj)
        refine a_iload_n cx dX0_runShift_14 rfl rfl ?_
        refine a_bipush cx (v := 100) dX0_runShift_15 (by decide) ?_
        refine a_icmp_ne cx (tgt := 33) dX0_runShift_17 (by decide) (fun c_17 => ?_) (fun c_17 => ?_)
        · exact tail33 _ _ ⟨by unfold oCnt; rw [hq]; dsimp only; rw [if_neg c_17]; exact hH2, _, rfl, rfl⟩
        · refine a_aload_n cx dX0_runShift_20 rfl rfl ?_
          refine a_dup cx dX0_runShift_21 rfl ?_
          refine gf_X0_39 cx hB dX0_runShift_22 ?_
          refine a_aload_n cx dX0_runShift_25 rfl rfl ?_
          refine gf_X0_98 cx hP dX0_runShift_26 ?_
          refine a_iadd cx dX0_runShift_29 ?_
          refine pf_X0_39 cx hB dX0_runShift_30 ?_
          exact tail33 _ _ ⟨by unfold oCnt; rw [hq]; dsimp only; rw [if_pos c_17]; exact hH2.beam hb2 hL.1 8 _ rfl, _, rfl, rfl⟩

