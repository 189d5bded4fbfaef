theorem sumf_snoc {f : Nat → Int32} : ∀ {n i : Nat} {x : Int32}, sumf f (n + 1) i x = sumf f n i x + f (i + n)
  | 0, _, _ => rfl
  | n + 1, i, x => by
    have h := sumf_snoc (f := f) (n := n) (i := i + 1) (x := x + f i)
    rw [show i + (n + 1) = i + 1 + n by omega]
    exact h
/-- how many lie in the cold -/
def cldN (A : ME) : Nat := ctb (fun j => decide (isC A j = 1)) (cNp A)
def rC (A : ME) : Prop := cldN A ≤ 3
theorem isC_01 (A : ME) (j : Nat) : isC A j = 0 ∨ isC A j = 1 := by
  unfold isC
  split
  · exact Or.inr rfl
  · exact Or.inl rfl
theorem cold_n (A : ME) : ∀ n, sumf (isC A) n 0 0 = nI (ctb (fun j => decide (isC A j = 1)) n)
  | 0 => rfl
  | n + 1 => by
    rw [sumf_snoc, cold_n A n, Nat.zero_add]
    show nI (ctb (fun j => decide (isC A j = 1)) n) + isC A n = nI (ctb (fun j => decide (isC A j = 1)) n + if decide (isC A n = 1) = true then 1 else 0)
    rcases isC_01 A n with h | h
    · rw [h, if_neg (by decide), add_0]; rfl
    · rw [h, if_pos (by decide)]; exact nI_1 _
theorem cold_eq (A : ME) : cCold A = nI (cldN A) := cold_n A (cNp A)
theorem ctb_one {pr pr' : Nat → Bool} {j : Nat} (h : ∀ q, q ≠ j → pr' q = pr q) : ∀ n, ctb pr' n ≤ ctb pr n + 1 ∧ (n ≤ j → ctb pr' n = ctb pr n)
  | 0 => ⟨by unfold ctb; omega, fun _ => rfl⟩
  | n + 1 => by
    obtain ⟨h1, h2⟩ := ctb_one h n
    unfold ctb
    by_cases hn : n = j
    · have := h2 (by omega)
      refine ⟨by split <;> split <;> omega, fun q => by omega⟩
    · rw [h n hn]
      refine ⟨by omega, fun q => by rw [h2 (by omega)]⟩
section SMP
variable {Lv : Nat → Bool} {A B : ME}
theorem coldB {T : Nat → Nat} (hT : RelT A B T) : mCold B = cCold A := by
  unfold mCold cCold
  rw [← hT.1.2]
  refine sumf_cong (fun j _ hj => ?_)
  have h5 := (hT.2.2.2.1 j (by omega)).2.2.2.2.1
  unfold isK isC
  rcases h5 with ⟨a1, a2, a3⟩ | ⟨a1, a2, ⟨l, a3, a4⟩, a5⟩
  · rw [a3, a1, if_neg (by decide), if_neg (fun q => q.1 rfl)]
  · rw [a2, a4]
    by_cases h9 : A (40 + j) 8 = 99
    · rw [if_pos h9, if_pos ⟨nI_ne1 (by omega), h9⟩]
    · rw [if_neg h9, if_neg (fun q => h9 q.2)]
/-- a proposal's sample alone -/
theorem rPj.smp {A' B' : ME} {T : Nat → Nat} {j : Nat} (hj8 : j < 8) (hnb : cNb A' = cNb A) (hb2 : cNb A ≤ 2) (hln : tn (A (40 + j) 1) < 2) (hq : ∀ b, b < 2 → cNq A' b = cNq A b ∧ A' (12 + 10 * b) = A (12 + 10 * b)) (hA : ∀ k, k ≠ 7 → k ≠ 8 → A' (40 + j) k = A (40 + j) k) (hB : ∀ r, 70 ≤ r → r < 80 → B' r j = B r j) (h5 : rP5 A' B' j) (h : rPj A B T j) : rPj A' B' T j := by
  obtain ⟨p1, p2, p3, p4, p5, p6⟩ := h
  refine ⟨?_, ?_, ?_, ?_, h5, ?_⟩
  · unfold rP1 at *; rw [hA 1 (by decide) (by decide), hA 2 (by decide) (by decide), hA 3 (by decide) (by decide), hA 4 (by decide) (by decide), hA 5 (by decide) (by decide), hB 70 (by decide) (by decide), hB 71 (by decide) (by decide), hB 72 (by decide) (by decide), hB 73 (by decide) (by decide), hB 74 (by decide) (by decide)]; exact p1
  · unfold rP2 at *; rw [hA 2 (by decide) (by decide), hA 3 (by decide) (by decide), hA 4 (by decide) (by decide), hA 5 (by decide) (by decide)]; exact p2
  · unfold rP3 at *; rw [hA 9 (by decide) (by decide), hA 10 (by decide) (by decide), hA 11 (by decide) (by decide), hA 12 (by decide) (by decide), hB 76 (by decide) (by decide), hB 77 (by decide) (by decide), hB 78 (by decide) (by decide), hB 79 (by decide) (by decide)]; exact p3
  · unfold rP4 at *; rw [hA 1 (by decide) (by decide), hA 9 (by decide) (by decide), hA 10 (by decide) (by decide), hA 11 (by decide) (by decide), hA 12 (by decide) (by decide)]; exact p4
  · unfold rP6 at *
    rw [hA 6 (by decide) (by decide), hA 1 (by decide) (by decide), hnb, hB 75 (by decide) (by decide), (hq _ hln).1, (hq _ hln).2]
    rcases p6 with ⟨a1, a2, a3⟩ | p6
    · exact Or.inl ⟨a1, a2, fun b k hb hk => by rw [(hq b (by omega)).2]; exact a3 b k hb (by rw [← (hq b (by omega)).1]; exact hk)⟩
    · exact Or.inr p6
theorem e_bring (h : Rel A B) (hI : cI Lv A) (hC : rC A) {j x : Int32} : kBring A j x = jBring B j x ∧ (kBring A j x = 0 → A (40 + tn j) 7 = (if B 81 (tn j) = 110 then -1 else B 80 (tn j)) ∧ Rel (va_up A (40 + tn j) (va_up (va_up (A (40 + tn j)) 7 x) 8 114)) (up2 (up2 B 81 (tn j) 114) 80 (tn j) x) ∧ rC (va_up A (40 + tn j) (va_up (va_up (A (40 + tn j)) 7 x) 8 114))) := by
  refine ⟨by unfold kBring jBring okP okm; rw [h.np], fun hk => ?_⟩
  unfold kBring at hk
  obtain ⟨hok, hk⟩ := if0 hk (by decide)
  obtain ⟨hw, -⟩ := if0 hk (by decide)
  have hj := (okP_ix hI hok).2
  obtain ⟨hx, hx2⟩ := win_n (hi := 50) hw (by decide) (by decide)
  generalize tn j = i at hj
  obtain ⟨t, t1, t2, t3, hT⟩ := h
  have hP := hT.2.2.2.1 i hj
  have hn8 := hI.2.1
  obtain ⟨A', hA'⟩ : ∃ A', A' = va_up A (40 + i) (va_up (va_up (A (40 + i)) 7 x) 8 114) := ⟨_, rfl⟩
  rw [← hA']
  have ar : ∀ r, r ≠ 40 + i → A' r = A r := fun r hr => by rw [hA', va_up_ne _ _ hr]
  have ak : ∀ k, k ≠ 7 → k ≠ 8 → A' (40 + i) k = A (40 + i) k := fun k h7 h8 => by rw [hA', va_up_self, va_up_ne _ _ h8, va_up_ne _ _ h7]
  have a7 : A' (40 + i) 7 = x := by rw [hA', va_up_self, va_up_ne _ _ (by decide), va_up_self]
  have a8 : A' (40 + i) 8 = 114 := by rw [hA', va_up_self, va_up_self]
  have hE : cE A A' := by
    rw [hA']
    exact cE.row (fun k hk => by
      have : k ≤ 1 := by unfold cT at hk; omega
      rw [va_up_ne _ _ (by omega), va_up_ne _ _ (by omega)])
  refine ⟨?_, ⟨t, t1, by rw [ar 0 (by omega)]; exact t2, by rw [up2_ne (by omega), up2_ne (by omega)]; exact t3, hT.prop hI hj hE (fun r k h1 h2 => ?_) (fun r k h1 h2 h3 => by rw [up2_ne (by omega), up2_ne (by omega)]) (fun k h1 h2 => by rw [up2_ne (by omega), up2_ne (by omega)]) ?_⟩, ?_⟩
  · rcases hP.2.2.2.2.1 with ⟨a1, a2, a3⟩ | ⟨a1, a2, a3, a5⟩
    · rw [a1, if_pos a3]
    · rw [if_neg (fun q => by rw [a2] at q; rcases a5 with a5 | a5 | a5 <;> rw [a5] at q <;> exact absurd q (by decide)), a1]
  · by_cases hr : r = 40 + i
    · subst hr; exact ak k (by omega) (by omega)
    · rw [ar r hr]
  · refine hP.smp (by omega) hE.nb hI.1 (ln_lt hI hj).2.1 (fun b hb => hE.qrow hb) ak (fun r h1 h2 => by rw [up2_ne (by omega), up2_ne (by omega)]) ?_
    unfold rP5
    rw [a7, a8, up2_eq, up2_ne (by omega), up2_eq]
    exact Or.inr ⟨rfl, rfl, ⟨tn x, hx2, hx⟩, Or.inl rfl⟩
  · unfold rC cldN at *
    rw [hE.np]
    refine Nat.le_trans (ctb_mono (fun q hq => ?_) _) hC
    have hq1 := of_decide_eq_true hq
    refine decide_eq_true ?_
    by_cases hqi : q = i
    · subst hqi
      unfold isC at hq1
      rw [a8, if_neg (fun q => absurd q.2 (by decide))] at hq1
      exact absurd hq1 (by decide)
    · unfold isC at *
      rw [ar (40 + q) (by omega)] at hq1
      exact hq1
end SMP
