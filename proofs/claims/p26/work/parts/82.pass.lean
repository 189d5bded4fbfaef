section PASSR
variable {Lv : Nat → Bool}
def tS (t i : Nat) : Nat → Nat := fun b => if b < i then t + 1 else t
theorem kind_45 {w : Int32} : (kKind w = 100) = (w = 45) := by
  unfold kKind
  by_cases h : w = 45
  · rw [if_pos h]; simp [h]
  · rw [if_neg h]
    apply propext
    constructor
    · intro q
      revert q
      repeat' split
      all_goals intro q; exact absurd q (by decide)
    · intro q; exact absurd q h
theorem pass_lines {t : Nat} (ht : t < 200) : ∀ {f i : Nat} {A B : ME} {x y : Int32}, RelT A B (tS t i) → cI Lv A → i + f = cNb A → RelT (paS f i (A, y)).1 (mpS f i (B, x + y)).1 (tS t (i + f)) ∧ (mpS f i (B, x + y)).2 = x + (paS f i (A, y)).2 ∧ (∀ j, isC (paS f i (A, y)).1 j = isC A j) ∧ (paS f i (A, y)).1 0 4 = A 0 4 ∧ (mpS f i (B, x + y)).1 60 3 = B 60 3
  | 0, i, A, B, x, y, hT, _, _ => ⟨hT, rfl, fun _ => rfl, rfl, rfl⟩
  | f + 1, i, A, B, x, y, hT, hI, hi => by
    have hib : i < cNb A := by omega
    obtain ⟨s1, s2, s3, s4⟩ := shift_1 (T' := tS t (i + 1)) hT hI hib (fun b' => by unfold tS; split <;> split <;> omega) (by unfold tS; rw [if_neg (Nat.lt_irrefl i), if_pos (Nat.lt_succ_self i)]; exact Nat.le_refl _) (by unfold tS; rw [if_neg (Nat.lt_irrefl i)]; exact ht)
    have hE := cE_shift (kd := kKind (cWhy A i)) hI hib
    have hw := why_eq hI hT hib
    unfold paS mpS
    dsimp only
    have e : x + y + mDid B i = x + (if kKind (cWhy A i) = 100 then y + 1 else y) := by
      unfold mDid
      simp only [kind_45, hw]
      split
      · rw [Int32.add_assoc]
      · rw [Int32.add_zero]
    rw [e]
    obtain ⟨r1, r2, r3, r4, r5⟩ := pass_lines ht (f := f) (i := i + 1) (x := x) (y := if kKind (cWhy A i) = 100 then y + 1 else y) s1 (hE.keep hI) (by rw [hE.nb]; omega)
    exact ⟨by rw [show i + (f + 1) = i + 1 + f by omega]; exact r1, r2, fun j => (r3 j).trans (s2 j), r4.trans s3, r5.trans s4⟩
theorem agS_0 : ∀ {f p : Nat} {A : ME}, agS f p A 0 4 = A 0 4
  | 0, _, _ => rfl
  | f + 1, p, A => (agS_0 (f := f) (p := p + 1) (A := agJ A p)).trans (by unfold agJ; exact up2_ne (by omega))
theorem maS_0 : ∀ {f p : Nat} {B : ME}, maS f p B 60 3 = B 60 3
  | 0, _, _ => rfl
  | f + 1, p, B => (maS_0 (f := f) (p := p + 1) (B := maJ B p)).trans (by unfold maJ; exact up2_ne (by omega))
theorem pass_1 {A B : ME} {t : Nat} {x : Int32} (h : Rel A B) (hI : cI Lv A) (hC : rC A) (ht : t < 200) (h1 : A 0 4 = nI t) : Rel (oPass1 A) (mPass1 (B, x)).1 ∧ (mPass1 (B, x)).2 = x + (qShift A).2 ∧ rC (oPass1 A) ∧ oPass1 A 0 4 = nI (t + 1) := by
  have hnb := h.nb
  have hnp := h.np
  obtain ⟨t', t1, t2, t3, hT⟩ := h
  have e : t' = t := (nI_eq (by omega) (by omega)).mp (t2.symm.trans h1)
  subst e
  obtain ⟨r1, r2, r3, r4, r5⟩ := pass_lines ht (f := cNb A) (i := 0) (x := x) (y := 0) (hT.mono hI (T' := tS t' 0) (fun b _ => by unfold tS; split <;> omega)) hI (Nat.zero_add _)
  rw [Int32.add_zero] at r1 r2 r5
  have hE := cE_q hI
  have hI2 := hE.keep hI
  change RelT (qShift A).1 _ _ at r1
  change _ = x + (qShift A).2 at r2
  change ∀ j, isC (qShift A).1 j = isC A j at r3
  change (qShift A).1 0 4 = A 0 4 at r4
  obtain ⟨a1, a2⟩ := age_all (f := cNp A) (p := 0) r1 hI2 (by rw [hE.np]; omega)
  have hE2 : cE (qShift A).1 (agS (cNp A) 0 (qShift A).1) := cE_agS
  have a3 : agS (cNp A) 0 (qShift A).1 0 4 = nI t' := by rw [agS_0, r4]; exact h1
  have a4 : maS (cNp A) 0 (mpS (cNb A) 0 (B, x)).1 60 3 = nI t' := by rw [maS_0, r5]; exact t3
  have hk := tick (a1.mono (hE2.keep hI2) (T' := fun _ => t' + 1) (fun b hb => by unfold tS; split <;> omega)) (hE2.keep hI2) ht a3 a4
  unfold mPass1
  dsimp only
  rw [← hnb, ← hnp]
  refine ⟨hk, r2, ?_, ?_⟩
  · have hc : rC (agS (cNp A) 0 (qShift A).1) := hC.cong ((hE2.np).trans hE.np) (fun j => (a2 j).trans (r3 j))
    refine hc.cong ?_ (fun j => ?_)
    · unfold oPass1 cNp; rw [up2_ne (by omega)]
    · unfold oPass1 isC; rw [up2_ne (by omega), up2_ne (by omega)]
  · unfold oPass1
    rw [up2_eq, a3]
    exact nI_1 _
theorem pass_n : ∀ {f t : Nat} {A B : ME} {x : Int32}, Rel A B → cI Lv A → rC A → t + f ≤ 200 → A 0 4 = nI t → Rel (pasN f (A, x)).1 (mpN f (B, x)).1 ∧ (pasN f (A, x)).2 = (mpN f (B, x)).2 ∧ rC (pasN f (A, x)).1 ∧ cE A (pasN f (A, x)).1
  | 0, _, A, _, _, h, _, hC, _, _ => ⟨h, rfl, hC, cE.refl A⟩
  | f + 1, t, A, B, x, h, hI, hC, ht, h1 => by
    obtain ⟨r1, r2, r3, r4⟩ := pass_1 (x := x) h hI hC (by omega) h1
    have hE := cE_pass1 hI
    obtain ⟨s1, s2, s3, s4⟩ := pass_n (f := f) (x := x + (qShift A).2) r1 (hE.keep hI) r3 (by omega : t + 1 + f ≤ 200) r4
    unfold pasN mpN
    have e : mPass1 (B, x) = ((mPass1 (B, x)).1, x + (qShift A).2) := by rw [← r2]
    rw [e]
    exact ⟨s1, s2, s3, hE.trans s4⟩
theorem mE_pass1 {q : MI} : mE q.1 (mPass1 q).1 := mE_mpS.trans (mE_maS.trans mE_tick)
theorem mE_mpN : ∀ {f : Nat} {q : MI}, mE q.1 (mpN f q).1
  | 0, q => mE.refl q.1
  | f + 1, _ => mE_pass1.trans (mE_mpN (f := f))
end PASSR
