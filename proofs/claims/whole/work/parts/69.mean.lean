/-- a sum with one summand more by d, within its range -/
theorem sumf_upw {f f' : Nat → Int32} {k : Nat} {d : Int32} (hk : f' k = f k + d) : ∀ {n i : Nat} {x : Int32}, (∀ j, i ≤ j → j < i + n → j ≠ k → f' j = f j) → i ≤ k → k < i + n → sumf f' n i x = sumf f n i x + d
  | 0, _, _, _, h1, h2 => by omega
  | n + 1, i, x, ho, h1, h2 => by
    unfold sumf
    by_cases hik : i = k
    · subst hik
      rw [hk, sumf_cong (f := f') (h := f) (fun j a b => ho j (by omega) (by omega) (by omega)), ← Int32.add_assoc, Int32.add_comm (x + f i) d, sumf_add, Int32.add_comm]
    · rw [ho i (Nat.le_refl _) (by omega) hik]
      exact sumf_upw hk (fun j a b c => ho j (by omega) (by omega) c) (by omega) (by omega)
theorem sumf_0 : ∀ {n i : Nat}, sumf (fun _ => 0) n i 0 = 0
  | 0, _ => rfl
  | n + 1, i => by
    unfold sumf
    exact sumf_0 (n := n) (i := i + 1)
section MEAN
variable {Lv : Nat → Bool} {A B : ME} {T : Nat → Nat}
/-- placed before place k of line b -/
def pb (A : ME) (b k j : Nat) : Prop := ¬ A (40 + j) 6 = -1 ∧ (tn (A (40 + j) 1) < b ∨ (tn (A (40 + j) 1) = b ∧ tn (A (40 + j) 6) < k))
def pbB (A : ME) (b k j : Nat) : Bool := decide (¬ A (40 + j) 6 = -1) && (decide (tn (A (40 + j) 1) < b) || (decide (tn (A (40 + j) 1) = b) && decide (tn (A (40 + j) 6) < k)))
theorem pb_iff {b k j : Nat} : pbB A b k j = true ↔ pb A b k j := by
  unfold pbB pb
  rw [Bool.and_eq_true, Bool.or_eq_true, Bool.and_eq_true, decide_eq_true_eq, decide_eq_true_eq, decide_eq_true_eq, decide_eq_true_eq]
def sgP (A : ME) (g : Nat → Int32) (b k : Nat) : Int32 := sumf (fun j => if pbB A b k j = true then g j else 0) (cNp A) 0 0
theorem if_pb {p q : Bool} {x : Int32} (h : p = true ↔ q = true) : (if p = true then x else 0) = if q = true then x else 0 := by
  by_cases hp : p = true
  · rw [if_pos hp, if_pos (h.mp hp)]
  · rw [if_neg hp, if_neg (fun e => hp (h.mpr e))]
theorem sg_step (hT : RelT A B T) (hI : cI Lv A) (g : Nat → Int32) {b k : Nat} (hb : b < cNb A) (hk : k < cNq A b) : sgP A g b (k + 1) = sgP A g b k + g (tn (A (12 + 10 * b) k)) := by
  obtain ⟨⟨-, -, -, -, -, -, h8, -, -, -, -, hq⟩, hb2⟩ := cI_lin hI hb
  have hn8 := hI.2.1
  obtain ⟨q, h1, h2⟩ := hq k hk
  have ht : tn (A (12 + 10 * b) k) = q := by rw [h2, tn_nI (by omega)]
  obtain ⟨-, -, -, b4, b5⟩ := (hT.2.2.1 b hb).2.2.2.1.2 k hk
  rw [ht] at b4 b5
  rw [ht]
  unfold sgP
  refine sumf_upw (k := q) ?_ (fun j _ hj hjq => if_pb ?_) (Nat.zero_le _) (by omega)
  · rw [if_pos (pb_iff.mpr ⟨by rw [b4]; exact nI_ne1 (by omega), Or.inr ⟨by rw [b5, tn_nI (by omega)], by rw [b4, tn_nI (by omega)]; omega⟩⟩), if_neg (fun e => by
      have := (pb_iff.mp e).2
      rw [b5, b4, tn_nI (by omega), tn_nI (by omega)] at this
      omega)]
    rw [Int32.add_comm, Int32.add_zero]
  · rw [pb_iff, pb_iff]
    unfold pb
    constructor
    · rintro ⟨e1, e2⟩
      refine ⟨e1, ?_⟩
      rcases e2 with e2 | ⟨e2, e3⟩
      · exact Or.inl e2
      · refine Or.inr ⟨e2, ?_⟩
        rcases (hT.2.2.2.1 j (by omega)).2.2.2.2.2 with ⟨a1, -, -⟩ | ⟨k', a1, a2, a3⟩
        · exact absurd a1 e1
        · rw [e2] at a2 a3
          rw [a1, tn_nI (by omega)] at e3 ⊢
          rcases Nat.lt_or_ge k' k with h9 | h9
          · exact h9
          · have hkk : k' = k := by omega
            subst hkk
            rw [h2] at a3
            exact absurd ((nI_eq (by omega) (by omega)).mp a3).symm hjq
    · rintro ⟨e1, e2⟩
      exact ⟨e1, e2.imp id (fun q => ⟨q.1, by omega⟩)⟩
theorem sg_next (hT : RelT A B T) (hI : cI Lv A) (g : Nat → Int32) {b : Nat} (_hb : b < cNb A) : sgP A g (b + 1) 0 = sgP A g b (cNq A b) := by
  have hn8 := hI.2.1
  unfold sgP
  refine sumf_cong (fun j _ hj => if_pb ?_)
  rw [pb_iff, pb_iff]
  unfold pb
  constructor
  · rintro ⟨e1, e2⟩
    refine ⟨e1, ?_⟩
    rcases Nat.lt_or_ge (tn (A (40 + j) 1)) b with h9 | h9
    · exact Or.inl h9
    · have h7 : tn (A (40 + j) 1) = b := by omega
      refine Or.inr ⟨h7, ?_⟩
      rcases (hT.2.2.2.1 j (by omega)).2.2.2.2.2 with ⟨a1, -, -⟩ | ⟨k', a1, a2, a3⟩
      · exact absurd a1 e1
      · rw [h7] at a2
        have hq8 := (cI_lin hI _hb).1.2.2.2.2.2.2.1
        rw [a1, tn_nI (by omega)]; exact a2
  · rintro ⟨e1, e2⟩
    exact ⟨e1, Or.inl (by omega)⟩
theorem sg_in (hT : RelT A B T) (hI : cI Lv A) {b : Nat} (hb : b < cNb A) : ∀ k, k ≤ cNq A b → sumf (mSc B b) k 0 (sgP A (fun j => A (40 + j) 3) b 0) = sgP A (fun j => A (40 + j) 3) b k ∧ sgP A (fun _ => 1) b 0 + nI k = sgP A (fun _ => 1) b k
  | 0, _ => ⟨rfl, Int32.add_zero _⟩
  | k + 1, hk => by
    obtain ⟨e1, e2⟩ := sg_in hT hI hb k (by omega)
    have hn8 := hI.2.1
    obtain ⟨⟨-, -, -, -, -, -, h8, -, -, -, -, hq⟩, hb2⟩ := cI_lin hI hb
    obtain ⟨q, h1, h2⟩ := hq k (by omega)
    have ht : tn (A (12 + 10 * b) k) = q := by rw [h2, tn_nI (by omega)]
    obtain ⟨b1, -⟩ := (hT.2.2.1 b hb).2.2.2.1.2 k (by omega)
    refine ⟨?_, ?_⟩
    · rw [sumf_snoc, e1, sg_step hT hI _ hb (by omega), Nat.zero_add, ht]
      unfold mSc
      rw [b1, ht, (hT.2.2.2.1 q h1).1.2.2.1]
    · rw [sg_step hT hI _ hb (by omega), ← e2, ← nI_1, Int32.add_assoc]
theorem ms_eq (hT : RelT A B T) (hI : cI Lv A) (hM : mI B) : ∀ {f b : Nat}, b + f = cNb A → msO B f b (sgP A (fun j => A (40 + j) 3) b 0, sgP A (fun _ => 1) b 0) = (sgP A (fun j => A (40 + j) 3) (cNb A) 0, sgP A (fun _ => 1) (cNb A) 0)
  | 0, b, h => by
    have : b = cNb A := by omega
    subst this; rfl
  | f + 1, b, h => by
    have hb : b < cNb A := by omega
    have hb2 := (cI_lin hI hb).2
    obtain ⟨e1, e2⟩ := sg_in hT hI hb _ (Nat.le_refl _)
    have hq := (hT.2.2.1 b hb).2.2.2.1.1
    unfold msO
    dsimp only
    rw [(hM.2.2.2.2.1 b hb2).1, hq, e1, e2, ← sg_next hT hI _ hb, ← sg_next hT hI _ hb]
    exact ms_eq hT hI hM (by omega)
theorem mean_sum (hT : RelT A B T) (hI : cI Lv A) (hM : mI B) : mMs B = (cSum A, cNum A) := by
  have hn8 := hI.2.1
  have z : ∀ g, sgP A g 0 0 = 0 := fun g => by
    unfold sgP
    rw [sumf_cong (h := fun _ => 0) (fun j _ _ => if_neg (fun e => by have := (pb_iff.mp e).2; omega))]
    exact sumf_0
  have e := ms_eq hT hI hM (f := cNb A) (b := 0) (Nat.zero_add _)
  rw [z, z] at e
  unfold mMs
  rw [← hT.1.1, e]
  have fin : ∀ g : Nat → Int32, sgP A g (cNb A) 0 = sumf (fun j => if A (40 + j) 6 = -1 then 0 else g j) (cNp A) 0 0 := fun g => by
    unfold sgP
    refine sumf_cong (fun j _ hj => ?_)
    by_cases h6 : A (40 + j) 6 = -1
    · rw [if_pos h6, if_neg (fun e => (pb_iff.mp e).1 h6)]
    · rw [if_neg h6, if_pos (pb_iff.mpr ⟨h6, Or.inl (ln_lt hI (by omega)).1⟩)]
  rw [fin, fin]
  rfl
end MEAN
