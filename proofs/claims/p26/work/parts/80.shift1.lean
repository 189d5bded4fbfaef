section SHIFT1
variable {Lv : Nat → Bool} {A B A1 B1 : ME} {T T' : Nat → Nat} {b : Nat}
/-- a proposal's counts behind a shift -/
theorem cnt_mid {j : Nat} {p9 p10 p11 p12 : Prop} [Decidable p9] [Decidable p10] [Decidable p11] [Decidable p12] (h3 : rP3 A B j) (h4 : rP4 A T j)
    (a9 : A1 (40 + j) 9 = A (40 + j) 9 + (if p9 then 1 else 0)) (a10 : A1 (40 + j) 10 = A (40 + j) 10 + (if p10 then 1 else 0)) (a11 : A1 (40 + j) 11 = A (40 + j) 11 + (if p11 then 1 else 0)) (a12 : A1 (40 + j) 12 = A (40 + j) 12 + (if p12 then 1 else 0)) (a1 : A1 (40 + j) 1 = A (40 + j) 1)
    (e9 : B1 76 j = B 76 j + (if p9 then 1 else 0)) (e10 : B1 77 j = B 77 j + (if p10 then 1 else 0)) (e11 : B1 78 j = B 78 j + (if p11 then 1 else 0)) (e12 : B1 79 j = B 79 j + (if p12 then 1 else 0))
    (hx : ¬ (p9 ∧ p10) ∧ ¬ (p9 ∧ p11) ∧ ¬ (p10 ∧ p11)) (hle : T (tn (A (40 + j) 1)) ≤ T' (tn (A (40 + j) 1))) (hlt : p9 ∨ p10 ∨ p11 ∨ p12 → T (tn (A (40 + j) 1)) + 1 ≤ T' (tn (A (40 + j) 1))) : rP3 A1 B1 j ∧ rP4 A1 T' j := by
  obtain ⟨c1, c2, c3, c4⟩ := h3
  obtain ⟨dn, ms, lo, ow, d1, d2, d3, d4, d5, d6⟩ := h4
  refine ⟨⟨by rw [a9, e9, c1], by rw [a10, e10, c2], by rw [a11, e11, c3], by rw [a12, e12, c4]⟩, ?_⟩
  have inc : ∀ (n : Nat) (p : Prop) [Decidable p], nI n + (if p then 1 else 0) = nI (n + if p then 1 else 0) := fun n p _ => by
    by_cases hp : p
    · rw [if_pos hp, if_pos hp]; exact nI_1 n
    · rw [if_neg hp, if_neg hp, Int32.add_zero, Nat.add_zero]
  refine ⟨dn + (if p9 then 1 else 0), ms + (if p10 then 1 else 0), lo + (if p11 then 1 else 0), ow + (if p12 then 1 else 0), by rw [a9, d1, inc], by rw [a10, d2, inc], by rw [a11, d3, inc], by rw [a12, d4, inc], ?_, ?_⟩
  · rw [a1]
    by_cases g9 : p9
    · have := hlt (Or.inl g9)
      rw [if_pos g9, if_neg (fun q => hx.1 ⟨g9, q⟩), if_neg (fun q => hx.2.1 ⟨g9, q⟩)]; omega
    · by_cases g10 : p10
      · have := hlt (Or.inr (Or.inl g10))
        rw [if_neg g9, if_pos g10, if_neg (fun q => hx.2.2 ⟨g10, q⟩)]; omega
      · by_cases g11 : p11
        · have := hlt (Or.inr (Or.inr (Or.inl g11)))
          rw [if_neg g9, if_neg g10, if_pos g11]; omega
        · rw [if_neg g9, if_neg g10, if_neg g11]; omega
  · rw [a1]
    by_cases g12 : p12
    · have := hlt (Or.inr (Or.inr (Or.inr g12)))
      rw [if_pos g12]; omega
    · rw [if_neg g12]; omega
theorem up2_inc {C : ME} {r j j' : Nat} : up2 C r j (C r j + 1) r j' = C r j' + (if j = j' then 1 else 0) := by
  rw [up2_at]
  by_cases h : j' = j
  · subst h; rw [if_pos ⟨rfl, rfl⟩, if_pos rfl]
  · rw [if_neg (fun q => h q.2), if_neg (fun q => h q.symm), Int32.add_zero]
/-- between the calendar and the note -/
def midR (A B A1 B1 : ME) (T' : Nat → Nat) (b : Nat) (kd : Int32) : Prop :=
  (B1 64 b = A1 (10 + 10 * b) 8 ∧ ∃ us rm : Nat, A1 (10 + 10 * b) 8 = nI us ∧ A (10 + 10 * b) 1 = nI rm ∧ us ≤ rm ∧ rm ≤ 999) ∧
  (A (10 + 10 * b) 9 = 0 → (cFol A b kd).2.1 = A (13 + 10 * b) 2) ∧ (¬ A (10 + 10 * b) 9 = 0 → B1 65 b = (cFol A b kd).2.1) ∧
  (∀ k, k < cNq A b → B1 75 (tn (A (12 + 10 * b) k)) = (cFol A b kd).1 k ∧ ∃ l : Nat, l ≤ 9 ∧ (cFol A b kd).1 k = nI l) ∧
  (∀ j, (∀ k, k < cNq A b → ¬ A (12 + 10 * b) k = nI j) → B1 75 j = B 75 j) ∧
  (∀ j, j < cNp A → rP3 A1 B1 j ∧ rP4 A1 T' j) ∧
  (∀ j, cNp A ≤ j → B1 76 j = B 76 j ∧ B1 77 j = B 77 j ∧ B1 78 j = B 78 j ∧ B1 79 j = B 79 j) ∧
  ∀ r k, 60 ≤ r → r < 84 → ¬ ((r = 64 ∨ r = 65) ∧ k = b) → ¬ (75 ≤ r ∧ r ≤ 79) → B1 r k = B r k
theorem kTake_at {f : Nat → Int32} {k : Nat} (hk : k < 8) (hp : 0 < f k) : kTake f (nI k) = va_up f k (f k - 1) := by
  rw [kTake_in (nI_pos (by omega)) (fun q => by have := le_nI q (by omega) (by decide); omega) (by rw [tn_nI (by omega)]; exact hp), tn_nI (by omega)]
/-- one shift less at place k -/
theorem mid_75 (hL : rLn A B T b) (ent : ∀ k, k < cNq A b → ∃ q, q < 8 ∧ A (12 + 10 * b) k = nI q ∧ tn (A (12 + 10 * b) k) = q) {k j : Nat} (hk : k < cNq A b) (hk8 : cNq A b ≤ 8) (hj : tn (A (12 + 10 * b) k) = j) (hp : 0 < A (14 + 10 * b) k) (h1 : B1 75 j = B 75 j - 1) (h2 : ∀ i, i ≠ j → B1 75 i = B 75 i) :
    (∀ k', k' < cNq A b → B1 75 (tn (A (12 + 10 * b) k')) = va_up (A (14 + 10 * b)) k (A (14 + 10 * b) k - 1) k' ∧ ∃ l : Nat, l ≤ 9 ∧ va_up (A (14 + 10 * b)) k (A (14 + 10 * b) k - 1) k' = nI l) ∧
    (∀ i, (∀ k', k' < cNq A b → ¬ A (12 + 10 * b) k' = nI i) → B1 75 i = B 75 i) := by
  have hq4 := hL.2.2.2.1.2
  have h75 : ∀ k', k' < cNq A b → B 75 (tn (A (12 + 10 * b) k')) = A (14 + 10 * b) k' := fun k' hk' => by
    obtain ⟨a1, a2, -⟩ := hq4 k' hk'
    rw [← a2]; unfold mLf; rw [a1]
  refine ⟨fun k' hk' => ?_, fun i hi => h2 i (fun q => ?_)⟩
  · obtain ⟨-, -, ⟨l, l1, l2⟩, a4, -⟩ := hq4 k' hk'
    by_cases hkk : k' = k
    · subst hkk
      rw [va_up_self, hj, h1, ← hj, h75 k' hk', l2]
      rw [l2] at hp
      rcases l with _ | l
      · exact absurd hp (by decide)
      · exact ⟨rfl, l, by omega, nI_pred l⟩
    · have hne : tn (A (12 + 10 * b) k') ≠ j := fun q => by
        have b4 := (hq4 k hk).2.2.2.1
        rw [q, ← hj, b4] at a4
        exact hkk ((nI_eq (by omega) (by omega)).mp a4).symm
      rw [va_up_ne _ _ hkk, h2 _ hne, h75 k' hk']
      exact ⟨rfl, l, l1, l2⟩
  · obtain ⟨q1, -, q2, q3⟩ := ent k hk
    exact hi k hk (by rw [q2, ← q3, hj, q])
set_option maxHeartbeats 2000000 in
theorem shift_mid (hT : RelT A B T) (hI : cI Lv A) (hb : b < cNb A) (hle : ∀ b', T b' ≤ T' b') (hTb : T b + 1 ≤ T' b) : midR A B (oLost A b (kKind (cWhy A b))) (mBody B b) T' b (kKind (cWhy A b)) := by
  have hb2 := (cI_lin hI hb).2
  have hn8 := hI.2.1
  have hL := hT.2.2.1 b hb
  have hq8 := (cI_lin hI hb).1.2.2.2.2.2.2.1
  have hwhy := why_eq hI hT hb
  obtain ⟨us, rm, rt, u1, u2, u3, u4, u5, u6⟩ := hL.2.1
  obtain ⟨l1, l2, l3, l4, l5, l6⟩ := hL.1
  have ent : ∀ k, k < cNq A b → ∃ q, q < 8 ∧ A (12 + 10 * b) k = nI q ∧ tn (A (12 + 10 * b) k) = q := fun k hk => by
    obtain ⟨q, h3, h4⟩ := (cI_lin hI hb).1.2.2.2.2.2.2.2.2.2.2.2 k hk
    exact ⟨q, by omega, h4, by rw [h4, tn_nI (by omega)]⟩
  have h75 : ∀ k', k' < cNq A b → B 75 (tn (A (12 + 10 * b) k')) = A (14 + 10 * b) k' ∧ ∃ l : Nat, l ≤ 9 ∧ A (14 + 10 * b) k' = nI l := fun k' hk' => by
    obtain ⟨a1, a2, a3, -⟩ := hL.2.2.2.1.2 k' hk'
    refine ⟨?_, a3⟩
    rw [← a2]; unfold mLf; rw [a1]
  rcases e : kFst (cNq A b) (A (14 + 10 * b)) with _ | k
  · have hc := cur_n e
    have hw : cWhy A b = 113 := cWhy_n hc
    rw [hw, show kKind 113 = 105 from by decide, (on_n hL e).2.2]
    have hf : cFol A b 105 = (A (14 + 10 * b), A (13 + 10 * b) 2, -1) := by
      unfold cFol kFollow
      rw [if_neg (by decide), if_neg (by decide)]
    have ha : ∀ j, ¬ cAt A b (cFol A b 105).2.2 = some j := fun j q => by
      rw [hf] at q
      unfold cAt at q
      rw [if_pos (Or.inl (show (-1 : Int32) < 0 by decide))] at q
      cases q
    unfold midR
    rw [lost_u hb2, hc]
    dsimp only
    refine ⟨⟨l4, us, rm, u1, u2, u4, u5⟩, fun _ => by rw [hf], fun hm => by rw [hf]; exact hL.2.2.1.2 hm, fun k hk => by rw [hf]; exact h75 k hk, fun _ _ => rfl, fun j hj => ?_, fun _ _ => ⟨rfl, rfl, rfl, rfl⟩, fun _ _ _ _ _ _ => rfl⟩
    obtain ⟨p1, p2, p3, p4, p5, p6⟩ := hT.2.2.2.1 j hj
    refine cnt_mid (p9 := False) (p10 := False) (p11 := False) (p12 := False) p3 p4 (lost_c hb2 (Or.inl ⟨rfl, rfl⟩) (by rw [hc]; simp)) (lost_c hb2 (Or.inr (Or.inl ⟨rfl, rfl⟩)) (by rw [hc]; simp)) (lost_c hb2 (Or.inr (Or.inr ⟨rfl, rfl⟩)) (by rw [hc]; simp)) (lost_o hb2 ⟨fun q => ha j q, fun q => q.elim⟩) (lost_p hb2 (by decide)) ?_ ?_ ?_ ?_ ⟨fun q => q.1, fun q => q.1, fun q => q.1⟩ (hle _) (fun q => by simp at q)
    all_goals rw [if_neg id, Int32.add_zero]
  · obtain ⟨j, hk, hc, hj1, hj2, hj3, hp⟩ := cur_s hI hb e
    have hj8 : j < 8 := by omega
    obtain ⟨-, -, -, ow, ob⟩ := on_s hL e hj1 hk hj8
    have hlnj : A (40 + j) 1 = nI b := by
      have := (hL.2.2.2.1.2 k hk).2.2.2.2
      rw [hj2] at this
      exact this
    have hPj := hT.2.2.2.1 j hj3
    have hmet : ¬ A (10 + 10 * b) 9 = 0 := fun q => by
      have := (hL.2.2.1.1 q).1
      omega
    have h65 := hL.2.2.1.2 hmet
    have hTl : ∀ i, A (40 + i) 1 = nI b → T (tn (A (40 + i) 1)) + 1 ≤ T' (tn (A (40 + i) 1)) := fun i hi => by
      rw [hi, tn_nI (by omega)]; exact hTb
    have hkk : kTake (A (14 + 10 * b)) (oI (some k)) = va_up (A (14 + 10 * b)) k (A (14 + 10 * b) k - 1) := kTake_at (by omega) hp
    have hat1 : ∀ i, ¬ cAt A b (-1) = some i := fun i q => by
      unfold cAt at q
      rw [if_pos (Or.inl (by decide))] at q
      cases q
    rw [ow] at hwhy
    rw [ob, hwhy]
    unfold mBodyJ
    by_cases hd : mWhyJ B b j = 45
    · rw [if_pos hd, hd, show kKind 45 = 100 from by decide]
      have hf : cFol A b 100 = (va_up (A (14 + 10 * b)) k (A (14 + 10 * b) k - 1), A (13 + 10 * b) 2, -1) := by
        unfold cFol kFollow
        rw [if_pos (Or.inl rfl), e, hkk]
      obtain ⟨m3, m4⟩ := mid_75 (B1 := up2 (up2 (up2 B 75 j (B 75 j - 1)) 76 j (B 76 j + 1)) 64 b (B 64 b + B 74 j)) hL ent hk hq8 hj2 hp (by simp (disch := omega) only [up2_ne, up2_eq]) (fun i hi => by simp (disch := omega) only [up2_ne])
      obtain ⟨us', sc, w, d, -, -, -, -, -, -, -, d1, d2⟩ := hPj.2.1
      have hdk : us + d ≤ rm := by
        have h9 : ¬ B 62 b < B 64 b + B 74 j := fun q => by
          unfold mWhyJ at hd
          revert hd
          repeat' split
          all_goals first | (intro hd; exact absurd hd (by decide)) | (intro _; contradiction)
        rw [l2, l4, hPj.1.2.2.2.2, u1, u2, d1, nI_add, nI_lt_iff (by omega) (by omega)] at h9
        omega
      unfold midR
      rw [lost_u hb2, hc, hf]
      dsimp only
      rw [if_pos rfl]
      refine ⟨⟨?_, us + d, rm, by rw [u1, d1, nI_add], u2, hdk, u5⟩, fun _ => rfl, fun hm => ?_, m3, m4, fun i hi => ?_, fun i hi => ?_, fun r i h1 h2 h3 h4 => ?_⟩
      · rw [up2_eq, l4, hPj.1.2.2.2.2]
      · simp (disch := omega) only [up2_ne]; exact h65
      · obtain ⟨p1, p2, p3, p4, p5, p6⟩ := hT.2.2.2.1 i hi
        refine cnt_mid (p9 := j = i) (p10 := False) (p11 := False) (p12 := False) p3 p4 (lost_c hb2 (Or.inl ⟨rfl, rfl⟩) (by rw [hc]; simp)) (lost_c hb2 (Or.inr (Or.inl ⟨rfl, rfl⟩)) (by simp)) (lost_c hb2 (Or.inr (Or.inr ⟨rfl, rfl⟩)) (by simp)) (lost_o hb2 (by rw [hf]; exact ⟨fun q => hat1 i q, fun q => q.elim⟩)) (lost_p hb2 (by decide)) ?_ ?_ ?_ ?_ ⟨fun q => q.2, fun q => q.2, fun q => q.1⟩ (hle _) (fun q => ?_)
        · rw [up2_ne (by omega), up2_at]
          by_cases hij : i = j
          · subst hij; rw [if_pos ⟨rfl, rfl⟩, if_pos rfl]
          · rw [if_neg (fun q => hij q.2), if_neg (fun q => hij q.symm), Int32.add_zero]; simp (disch := omega) only [up2_ne]
        · rw [if_neg id, Int32.add_zero]; simp (disch := omega) only [up2_ne]
        · rw [if_neg id, Int32.add_zero]; simp (disch := omega) only [up2_ne]
        · rw [if_neg id, Int32.add_zero]; simp (disch := omega) only [up2_ne]
        · rcases q with rfl | q | q | q
          · exact hTl _ hlnj
          · exact q.elim
          · exact q.elim
          · exact q.elim
      · simp (disch := omega) only [up2_ne]
        exact ⟨trivial, trivial, trivial, trivial⟩
      · simp (disch := omega) only [up2_ne]
    · rw [if_neg hd]
      by_cases hf2 : mWhyJ B b j = 102
      · rw [if_pos hf2, hf2, show kKind 102 = 108 from by decide]
        unfold mLoses
        by_cases hr : 0 < A (13 + 10 * b) 2
        · have hf : cFol A b 108 = (A (14 + 10 * b), A (13 + 10 * b) 2 - 1, -1) := by
            unfold cFol kFollow
            rw [if_neg (by decide), if_pos rfl, if_pos hr]
          rw [if_pos (by rw [h65]; exact hr)]
          unfold midR
          rw [lost_u hb2, hc, hf]
          dsimp only
          rw [if_neg (by decide)]
          refine ⟨⟨?_, us, rm, u1, u2, u4, u5⟩, fun q => absurd q hmet, fun hm => ?_, fun k' hk' => ?_, fun i hi => ?_, fun i hi => ?_, fun i hi => ?_, fun r i h1 h2 h3 h4 => ?_⟩
          · simp (disch := omega) only [up2_ne]; exact l4
          · rw [up2_eq, h65]
          · simp (disch := omega) only [up2_ne]; exact h75 k' hk'
          · simp (disch := omega) only [up2_ne]
          · obtain ⟨p1, p2, p3, p4, p5, p6⟩ := hT.2.2.2.1 i hi
            refine cnt_mid (p9 := False) (p10 := False) (p11 := j = i) (p12 := False) p3 p4 (lost_c hb2 (Or.inl ⟨rfl, rfl⟩) (by simp)) (lost_c hb2 (Or.inr (Or.inl ⟨rfl, rfl⟩)) (by simp)) (lost_c hb2 (Or.inr (Or.inr ⟨rfl, rfl⟩)) (by rw [hc]; simp)) (lost_o hb2 (by rw [hf]; exact ⟨fun q => hat1 i q, fun q => q.elim⟩)) (lost_p hb2 (by decide)) ?_ ?_ ?_ ?_ ⟨fun q => q.2, fun q => q.1, fun q => q.1⟩ (hle _) (fun q => ?_)
            · rw [if_neg id, Int32.add_zero]; simp (disch := omega) only [up2_ne]
            · rw [if_neg id, Int32.add_zero]; simp (disch := omega) only [up2_ne]
            · rw [up2_ne (by omega), up2_inc]
            · rw [if_neg id, Int32.add_zero]; simp (disch := omega) only [up2_ne]
            · rcases q with q | q | rfl | q
              · exact q.elim
              · exact q.elim
              · exact hTl _ hlnj
              · exact q.elim
          · simp (disch := omega) only [up2_ne]
            exact ⟨trivial, trivial, trivial, trivial⟩
          · simp (disch := omega) only [up2_ne]
        · rw [if_neg (by rw [h65]; exact hr)]
          have hlst : mLst B b = kLst (cNq A b) (A (14 + 10 * b)) := by
            unfold mLst kLst
            rw [hL.2.2.2.1.1]
            refine lsti_cong (fun k' hk' => ?_)
            obtain ⟨a1, a2, ⟨l, b1, b2⟩, -⟩ := hL.2.2.2.1.2 k' hk'
            have a3 : B 75 (tn (mQ B b k')) = A (14 + 10 * b) k' := a2
            unfold kPos
            rw [a3, b2]
            rcases l with _ | l
            · decide
            · rw [decide_eq_true (show ¬ nI (l + 1) = 0 from fun q => by have := (nI_eq (b := 0) (by omega) (by decide)).mp q; omega), decide_eq_true (show 0 < nI (l + 1) from by rw [show (0 : Int32) = nI 0 from rfl, nI_lt_iff (by decide) (by omega)]; omega)]
          rcases e2 : kLst (cNq A b) (A (14 + 10 * b)) with _ | k2
          · have := lsti_none e2 k hk
            unfold kPos at this
            exact absurd hp (of_decide_eq_false this)
          · have hk2 := kLst_lt e2
            have hp2 : 0 < A (14 + 10 * b) k2 := of_decide_eq_true (lsti_some e2).2.1
            obtain ⟨j2, g1, g2, g3⟩ := ent k2 hk2
            have hq2 : tn (mQ B b k2) = j2 := by rw [(hL.2.2.2.1.2 k2 hk2).1, g3]
            have hln2 : A (40 + j2) 1 = nI b := by
              have := (hL.2.2.2.1.2 k2 hk2).2.2.2.2
              rw [g3] at this
              exact this
            have hf : cFol A b 108 = (va_up (A (14 + 10 * b)) k2 (A (14 + 10 * b) k2 - 1), A (13 + 10 * b) 2, nI k2) := by
              unfold cFol kFollow
              rw [if_neg (by decide), if_pos rfl, if_neg hr, e2, show oI (some k2) = nI k2 from rfl, kTake_at (by omega) hp2]
            have hat2 : ∀ i, cAt A b (nI k2) = some i ↔ j2 = i := fun i => by
              unfold cAt
              rw [if_neg (fun q => q.elim (nI_pos (by omega)) (fun q => by have := le_nI q (by omega) (by omega); omega)), tn_nI (by omega), g3]
              exact ⟨fun q => Option.some.inj q, fun q => by rw [q]⟩
            rw [hlst, e2]
            dsimp only
            rw [hq2]
            obtain ⟨m3, m4⟩ := mid_75 (B1 := up2 (up2 (up2 B 78 j (B 78 j + 1)) 75 j2 (B 75 j2 - 1)) 79 j2 (B 79 j2 + 1)) hL ent hk2 hq8 g3 hp2 (by simp (disch := omega) only [up2_ne, up2_eq]) (fun i hi => by simp (disch := omega) only [up2_ne])
            unfold midR
            rw [lost_u hb2, hc, hf]
            dsimp only
            rw [if_neg (by decide)]
            refine ⟨⟨?_, us, rm, u1, u2, u4, u5⟩, fun q => absurd q hmet, fun hm => ?_, m3, m4, fun i hi => ?_, fun i hi => ?_, fun r i h1 h2 h3 h4 => ?_⟩
            · simp (disch := omega) only [up2_ne]; exact l4
            · simp (disch := omega) only [up2_ne]; exact h65
            · obtain ⟨p1, p2, p3, p4, p5, p6⟩ := hT.2.2.2.1 i hi
              refine cnt_mid (p9 := False) (p10 := False) (p11 := j = i) (p12 := j2 = i) p3 p4 (lost_c hb2 (Or.inl ⟨rfl, rfl⟩) (by simp)) (lost_c hb2 (Or.inr (Or.inl ⟨rfl, rfl⟩)) (by simp)) (lost_c hb2 (Or.inr (Or.inr ⟨rfl, rfl⟩)) (by rw [hc]; simp)) (lost_o hb2 (by rw [hf]; exact hat2 i)) (lost_p hb2 (by decide)) ?_ ?_ ?_ ?_ ⟨fun q => q.2, fun q => q.1, fun q => q.1⟩ (hle _) (fun q => ?_)
              · rw [if_neg id, Int32.add_zero]; simp (disch := omega) only [up2_ne]
              · rw [if_neg id, Int32.add_zero]; simp (disch := omega) only [up2_ne]
              · rw [up2_ne (by omega), up2_ne (by omega), up2_inc]
              · rw [up2_at]
                by_cases hij : i = j2
                · subst hij; rw [if_pos ⟨rfl, rfl⟩, if_pos rfl]
                · rw [if_neg (fun q => hij q.2), if_neg (fun q => hij q.symm), Int32.add_zero]; simp (disch := omega) only [up2_ne]
              · rcases q with q | q | rfl | rfl
                · exact q.elim
                · exact q.elim
                · exact hTl _ hlnj
                · exact hTl _ hln2
            · have hj2p : j2 < cNp A := by
                obtain ⟨q, h3, h4⟩ := (cI_lin hI hb).1.2.2.2.2.2.2.2.2.2.2.2 k2 hk2
                rw [h4, tn_nI (by omega)] at g3
                omega
              simp (disch := omega) only [up2_ne]
              exact ⟨trivial, trivial, trivial, trivial⟩
            · simp (disch := omega) only [up2_ne]
      · rw [if_neg hf2]
        have hkd : kKind (mWhyJ B b j) = 109 := by
          unfold kKind
          rw [if_neg hd, if_neg (mWhyJ_q B b j), if_neg hf2]
        rw [hkd]
        have hf : cFol A b 109 = (va_up (A (14 + 10 * b)) k (A (14 + 10 * b) k - 1), A (13 + 10 * b) 2, -1) := by
          unfold cFol kFollow
          rw [if_pos (Or.inr rfl), e, hkk]
        obtain ⟨m3, m4⟩ := mid_75 (B1 := up2 (up2 B 75 j (B 75 j - 1)) 77 j (B 77 j + 1)) hL ent hk hq8 hj2 hp (by simp (disch := omega) only [up2_ne, up2_eq]) (fun i hi => by simp (disch := omega) only [up2_ne])
        unfold midR
        rw [lost_u hb2, hc, hf]
        dsimp only
        rw [if_neg (by decide)]
        refine ⟨⟨?_, us, rm, u1, u2, u4, u5⟩, fun _ => rfl, fun hm => ?_, m3, m4, fun i hi => ?_, fun i hi => ?_, fun r i h1 h2 h3 h4 => ?_⟩
        · simp (disch := omega) only [up2_ne]; exact l4
        · simp (disch := omega) only [up2_ne]; exact h65
        · obtain ⟨p1, p2, p3, p4, p5, p6⟩ := hT.2.2.2.1 i hi
          refine cnt_mid (p9 := False) (p10 := j = i) (p11 := False) (p12 := False) p3 p4 (lost_c hb2 (Or.inl ⟨rfl, rfl⟩) (by simp)) (lost_c hb2 (Or.inr (Or.inl ⟨rfl, rfl⟩)) (by rw [hc]; simp)) (lost_c hb2 (Or.inr (Or.inr ⟨rfl, rfl⟩)) (by simp)) (lost_o hb2 (by rw [hf]; exact ⟨fun q => hat1 i q, fun q => q.elim⟩)) (lost_p hb2 (by decide)) ?_ ?_ ?_ ?_ ⟨fun q => q.1, fun q => q.1, fun q => q.2⟩ (hle _) (fun q => ?_)
          · rw [if_neg id, Int32.add_zero]; simp (disch := omega) only [up2_ne]
          · rw [up2_at]
            by_cases hij : i = j
            · subst hij; rw [if_pos ⟨rfl, rfl⟩, if_pos rfl]
            · rw [if_neg (fun q => hij q.2), if_neg (fun q => hij q.symm), Int32.add_zero]; simp (disch := omega) only [up2_ne]
          · rw [if_neg id, Int32.add_zero]; simp (disch := omega) only [up2_ne]
          · rw [if_neg id, Int32.add_zero]; simp (disch := omega) only [up2_ne]
          · rcases q with q | rfl | q | q
            · exact q.elim
            · exact hTl _ hlnj
            · exact q.elim
            · exact q.elim
        · simp (disch := omega) only [up2_ne]
          exact ⟨trivial, trivial, trivial, trivial⟩
        · simp (disch := omega) only [up2_ne]
end SHIFT1
