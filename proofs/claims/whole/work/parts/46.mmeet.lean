/-! the model's panel -/
def mmC (C : ME) (b : Nat) (s : Int32) (p : Nat) : Prop := C 70 p = nI b ∧ C 72 p = s ∧ ¬ C 65 b < C 73 p
def mmY (C : ME) (b p : Nat) : ME := up2 (up2 (up2 (up2 C 67 (8 * b + mNq C b) (nI p)) 66 b (C 66 b + 1)) 75 p (C 73 p)) 65 b (C 65 b - C 73 p)
def mmStep (b : Nat) (s : Int32) (p : Nat) (C : ME) : ME := if C 70 p = nI b ∧ C 72 p = s ∧ ¬ C 65 b < C 73 p then mmY C b p else C
def mmS (b : Nat) (s : Int32) : Nat → Nat → ME → ME
  | 0, _, C => C
  | f + 1, p, C => mmS b s f (p + 1) (mmStep b s p C)
def mmM (b : Nat) : Nat → ME → ME
  | 0, C => C
  | f + 1, C => mmM b f (mmS b (nI f) (mNp C) 0 C)
/-- how many of the first n have pr -/
def ctb (pr : Nat → Bool) : Nat → Nat
  | 0 => 0
  | n + 1 => ctb pr n + (if pr n = true then 1 else 0)
theorem ctb_le (pr : Nat → Bool) : ∀ n, ctb pr n ≤ n
  | 0 => Nat.le_refl _
  | n + 1 => by
    have := ctb_le pr n
    unfold ctb
    split <;> omega
theorem ctb_mono {pr pr' : Nat → Bool} (h : ∀ q, pr q = true → pr' q = true) : ∀ n, ctb pr n ≤ ctb pr' n
  | 0 => Nat.le_refl _
  | n + 1 => by
    have := ctb_mono h n
    unfold ctb
    by_cases h1 : pr n = true
    · rw [if_pos h1, if_pos (h n h1)]; omega
    · rw [if_neg h1]; split <;> omega
theorem ctb_lt {pr pr' : Nat → Bool} (h : ∀ q, pr q = true → pr' q = true) {p : Nat} (h1 : pr p = false) (h2 : pr' p = true) : ∀ n, p < n → ctb pr n + 1 ≤ ctb pr' n
  | 0, hn => by omega
  | n + 1, hn => by
    unfold ctb
    by_cases hp : p = n
    · subst hp
      have := ctb_mono h p
      rw [h1, h2, if_neg (by decide), if_pos rfl]; omega
    · have := ctb_lt h h1 h2 n (by omega)
      by_cases h3 : pr n = true
      · rw [if_pos h3, if_pos (h n h3)]; omega
      · rw [if_neg h3]; split <;> omega
/-- what comes before (s, p) in the panel's order -/
def bef (C : ME) (s : Int32) (p : Nat) : Nat → Bool := fun q => decide (s < C 72 q) || (decide (C 72 q = s) && decide (q < p))
theorem bef_step {C : ME} {s : Int32} {p q : Nat} (h : bef C s p q = true) : bef C s (p + 1) q = true := by
  unfold bef at *
  rw [Bool.or_eq_true, Bool.and_eq_true, decide_eq_true_eq, decide_eq_true_eq, decide_eq_true_eq] at *
  rcases h with h | h
  · exact Or.inl h
  · exact Or.inr ⟨h.1, by omega⟩
theorem bef_no {C : ME} {s : Int32} {p : Nat} (h : C 72 p = s) : bef C s p p = false ∧ bef C s (p + 1) p = true := by
  unfold bef
  constructor
  · rw [Bool.or_eq_false_iff, Bool.and_eq_false_iff]
    refine ⟨decide_eq_false (fun q => ?_), Or.inr (decide_eq_false (Nat.lt_irrefl _))⟩
    rw [h, Int32.lt_iff_toInt_lt] at q
    omega
  · rw [Bool.or_eq_true, Bool.and_eq_true, decide_eq_true_eq, decide_eq_true_eq, decide_eq_true_eq]
    exact Or.inr ⟨h, Nat.lt_succ_self p⟩
theorem bef_next {C : ME} {f n q : Nat} (hf : f < 1000) (h : bef C (nI (f + 1)) n q = true) : bef C (nI f) 0 q = true := by
  unfold bef at *
  rw [Bool.or_eq_true, Bool.and_eq_true, decide_eq_true_eq, decide_eq_true_eq, decide_eq_true_eq] at *
  left
  rw [Int32.lt_iff_toInt_lt, nI_toInt (by omega)] at *
  rcases h with h | h
  · omega
  · rw [h.1, nI_toInt (by omega)]; omega
theorem bef_C {C C' : ME} (h : C' 72 = C 72) (s : Int32) (p : Nat) : bef C' s p = bef C s p := by unfold bef; rw [h]
/-- what the panel's walk keeps -/
def mP (C0 C : ME) (b : Nat) : Prop := mI C ∧ mNp C = mNp C0 ∧ mNb C = mNb C0 ∧ C 72 = C0 72
theorem mmY_nq {C : ME} {b p : Nat} (h : C 66 b = nI (mNq C b)) (hn : mNq C b < 8) : mNq (mmY C b p) b = mNq C b + 1 := by
  have e : mmY C b p 66 b = nI (mNq C b + 1) := by
    unfold mmY
    rw [up2_at, if_neg (by omega), up2_at, if_neg (by omega), up2_at, if_pos ⟨rfl, rfl⟩, h]
    exact nI_1 _
  unfold mNq at e ⊢
  rw [e, tn_nI (by unfold mNq at hn; omega)]
theorem mmY_I {C : ME} {b p : Nat} (hI : mI C) (hb : b < 2) (hp : p < mNp C) (hn : mNq C b < 8) : mI (mmY C b p) := by
  obtain ⟨h1, h2, h3, h4, h5, h6⟩ := hI
  have e0 : ∀ r k, r ≠ 67 → r ≠ 66 → r ≠ 75 → r ≠ 65 → mmY C b p r k = C r k := fun r k a1 a2 a3 a4 => by
    unfold mmY
    rw [up2_at, if_neg (fun q => a4 q.1), up2_at, if_neg (fun q => a3 q.1), up2_at, if_neg (fun q => a2 q.1), up2_at, if_neg (fun q => a1 q.1)]
  have e66 : ∀ k, k ≠ b → mmY C b p 66 k = C 66 k := fun k hk => by
    unfold mmY
    rw [up2_at, if_neg (by omega), up2_at, if_neg (by omega), up2_at, if_neg (by omega), up2_at, if_neg (by omega)]
  have e67 : ∀ k, mmY C b p 67 k = if k = 8 * b + mNq C b then nI p else C 67 k := fun k => by
    unfold mmY
    rw [up2_at, if_neg (by omega), up2_at, if_neg (by omega), up2_at, if_neg (by omega), up2_at]
    by_cases hk : k = 8 * b + mNq C b
    · rw [if_pos hk, if_pos ⟨rfl, hk⟩]
    · rw [if_neg hk, if_neg (fun q => hk q.2)]
  have eb : mNb (mmY C b p) = mNb C := by unfold mNb; rw [e0 _ _ (by omega) (by omega) (by omega) (by omega)]
  have ep : mNp (mmY C b p) = mNp C := by unfold mNp; rw [e0 _ _ (by omega) (by omega) (by omega) (by omega)]
  have eq := mmY_nq (p := p) (h5 b hb).1 hn
  unfold mI
  rw [eb, ep, e0 60 1 (by omega) (by omega) (by omega) (by omega), e0 60 2 (by omega) (by omega) (by omega) (by omega)]
  refine ⟨h1, h2, h3, h4, fun b' hb' => ?_, fun p' hp' => ?_⟩
  · by_cases hbb : b' = b
    · subst hbb
      rw [eq]
      refine ⟨?_, by omega, fun k hk => ?_⟩
      · have h7 : mmY C b' p 66 b' = C 66 b' + 1 := by
          unfold mmY
          rw [up2_at, if_neg (by omega), up2_at, if_neg (by omega), up2_at, if_pos ⟨rfl, rfl⟩]
        rw [h7, (h5 b' hb').1]
        exact nI_1 _
      · rw [e67]
        by_cases hk2 : k = mNq C b'
        · rw [if_pos (by omega)]; exact ⟨p, hp, rfl⟩
        · rw [if_neg (by omega)]; exact (h5 b' hb').2.2 k (by omega)
    · have en : mNq (mmY C b p) b' = mNq C b' := by unfold mNq; rw [e66 _ hbb]
      have hnb := (h5 b hb).2.1
      rw [en, e66 _ hbb]
      refine ⟨(h5 b' hb').1, (h5 b' hb').2.1, fun k hk => ?_⟩
      have := (h5 b' hb').2.1
      rw [e67, if_neg (by omega)]
      exact (h5 b' hb').2.2 k hk
  · rw [e0 70 p' (by omega) (by omega) (by omega) (by omega), e0 71 p' (by omega) (by omega) (by omega) (by omega)]
    exact h6 p' hp'
/-- the walk's state at (s, p) -/
def mW (C0 C : ME) (b : Nat) (s : Int32) (p : Nat) : Prop := mI C ∧ mNp C = mNp C0 ∧ mNb C = mNb C0 ∧ C 72 = C0 72 ∧ mNq C b ≤ ctb (bef C0 s p) (mNp C0)
theorem mmY_0 {C : ME} {b p r k : Nat} (a1 : r ≠ 67) (a2 : r ≠ 66) (a3 : r ≠ 75) (a4 : r ≠ 65) : mmY C b p r k = C r k := by
  unfold mmY
  rw [up2_at, if_neg (fun q => a4 q.1), up2_at, if_neg (fun q => a3 q.1), up2_at, if_neg (fun q => a2 q.1), up2_at, if_neg (fun q => a1 q.1)]
theorem mW_lt {C0 C : ME} {b p : Nat} {s : Int32} (h : mW C0 C b s p) (hp : p < mNp C0) (hs : C 72 p = s) : mNq C b < 8 := by
  have h1 := ctb_lt (pr := bef C0 s p) (pr' := bef C0 s (p + 1)) (fun q hq => bef_step hq) (bef_no (by rw [← hs, h.2.2.2.1])).1 (bef_no (by rw [← hs, h.2.2.2.1])).2 (mNp C0) hp
  have h2 := ctb_le (bef C0 s (p + 1)) (mNp C0)
  have h3 := h.2.2.2.2
  have h4 := h.1.2.2.2.1
  rw [h.2.1] at h4
  omega
theorem mW_no {C0 C : ME} {b p : Nat} {s : Int32} (h : mW C0 C b s p) : mW C0 C b s (p + 1) := ⟨h.1, h.2.1, h.2.2.1, h.2.2.2.1, Nat.le_trans h.2.2.2.2 (ctb_mono (fun q hq => bef_step hq) _)⟩
theorem mW_yes {C0 C : ME} {b p : Nat} {s : Int32} (h : mW C0 C b s p) (hb : b < 2) (hp : p < mNp C0) (hs : C 72 p = s) : mW C0 (mmY C b p) b s (p + 1) := by
  have hlt := mW_lt h hp hs
  have h1 := ctb_lt (pr := bef C0 s p) (pr' := bef C0 s (p + 1)) (fun q hq => bef_step hq) (bef_no (by rw [← hs, h.2.2.2.1])).1 (bef_no (by rw [← hs, h.2.2.2.1])).2 (mNp C0) hp
  refine ⟨mmY_I h.1 hb (by rw [h.2.1]; exact hp) hlt, ?_, ?_, ?_, ?_⟩
  · rw [← h.2.1]; unfold mNp; rw [mmY_0 (by omega) (by omega) (by omega) (by omega)]
  · rw [← h.2.2.1]; unfold mNb; rw [mmY_0 (by omega) (by omega) (by omega) (by omega)]
  · rw [← h.2.2.2.1]; funext k; exact mmY_0 (by omega) (by omega) (by omega) (by omega)
  · rw [mmY_nq (h.1.2.2.2.2.1 b hb).1 hlt]
    have := h.2.2.2.2
    omega
theorem mW_next {C0 C : ME} {b f n : Nat} (hf : f < 1000) (h : mW C0 C b (nI (f + 1)) n) : mW C0 C b (nI f) 0 := ⟨h.1, h.2.1, h.2.2.1, h.2.2.2.1, Nat.le_trans h.2.2.2.2 (ctb_mono (fun q hq => bef_next hf hq) _)⟩
def mMeet0 (C : ME) (b : Nat) : ME := up2 (up2 C 68 b 1) 65 b (C 61 b)
def mMeet (C : ME) (b : Nat) : ME := mmM b 101 (mMeet0 C b)
def jMeet (C : ME) (b : Int32) : Int32 := if okm (mNb C) b then (if C 68 (tn b) = 0 then 0 else 2) else 1
set_option maxHeartbeats 4000000 in
set_option maxRecDepth 100000 in
/-- model: meet -/
theorem sp_X4_meet {l : Launch} {g : GW} {ad : AD} {τ : RH} {Lv : Nat → Bool} {C : ME} {ρ : RH} {b9 : Int32} (hH : HH g ad Lv C ρ τ) (hL : mL Lv) (hI : mI C) (hq0 : okm (mNb C) b9 → C 68 (tn b9) = 0 → mNq C (tn b9) = 0) : Sp l g yX4_meet (.code yX4_meet cX4_meet 4 (some .int)) (rmv 4 0 0) [.ref (ad 60), .int b9] ad τ 0 0 (fun v ad' τ' => (∃ w, v = some (.int w) ∧ (jMeet C b9 = 0 → w = mMeet C (tn b9) 66 (tn b9))) ∧ ad' = ad ∧ HH g ad Lv (up2 (if jMeet C b9 = 0 then mMeet C (tn b9) else C) 60 0 (jMeet C b9)) ρ τ') (NoX) := by
  refine Sp.of 2 [some (.ref (ad 60)), some (.int b9), none, none] (by decide +kernel) (Nat.le_of_ble_eq_true rfl) rfl ?_
  intro p e s m args below meth c A cx hout hr hnm
  have hM := M_obj hH hL
  have hR := M_row hH hL
  refine a_aload_n cx dX4_meet_0 rfl rfl ?_
  refine a_iload_n cx dX4_meet_1 rfl rfl ?_
  refine a_callV cx 1 (sp_X4_isLine (b := b9) hH hL hI) hM rfl ml_X4_102 im_X4_isLine se_X4_isLine ini_X4 cd_X4_isLine rfl rfl (by decide +kernel) rfl rfl ⟨(Nat.le_of_ble_eq_true rfl), (Nat.le_of_ble_eq_true rfl)⟩ (Nat.le_of_ble_eq_true rfl) dX4_meet_2 ⟨(Nat.le_of_ble_eq_true rfl), (Nat.le_of_ble_eq_true rfl)⟩ (fun _ _ _ h => h.elim) (fun v9 ad9 τ9 hP => ?_)
  obtain ⟨⟨w2, rfl, hw2⟩, h2, h3⟩ := hP
  replace h2 := h2.symm
  subst h2
  replace h3 := h3.symm
  subst h3
  replace hw2 := w_if hw2
  refine a_if_ne cx (tgt := 14) dX4_meet_5 (by decide) (fun c_5 => ?_) (fun c_5 => ?_)
  · refine a_aload_n cx dX4_meet_14 rfl rfl ?_
    refine gf_X4_31 cx hM dX4_meet_15 ?_
    refine a_iload_n cx dX4_meet_18 rfl rfl ?_
    refine a_zld cx (tn b9) (by exact hR _ (by decide) (by decide)) ((okm_ix (hw2.2 c_5) (by have := hI.2.1; omega)).1) ((by have h9 := (okm_ix (hw2.2 c_5) (by have := hI.2.1; omega)).2; have := hI.2.1; omega)) (by decide) dX4_meet_19 ?_
    refine a_if_eq cx (tgt := 29) dX4_meet_20 (by decide) (fun c_20 => ?_) (fun c_20 => ?_)
    · have hjk : jMeet C b9 = 0 := by unfold jMeet; rw [if_pos (hw2.2 c_5), if_pos c_20]
      have hq0 := hq0 (hw2.2 c_5) c_20
      obtain ⟨b, hb⟩ : ∃ b, b = tn b9 := ⟨_, rfl⟩
      have hb9 := okm_ix (hw2.2 c_5) (by have := hI.2.1; omega)
      rw [← hb] at hb9 hq0 ⊢
      have hb9e := hb9.1
      have hbn := hb9.2
      have hb : b < 2 := by have := hI.2.1; omega
      have hnp8 := hI.2.2.2.1
      rw [hb9e]
      rw [hb9e] at hjk
      refine a_aload_n cx dX4_meet_29 rfl rfl ?_
      refine gf_X4_31 cx hM dX4_meet_30 ?_
      refine a_iload_n cx dX4_meet_33 rfl rfl ?_
      refine a_iconst cx (v := 1) dX4_meet_34 (by decide) ?_
      refine a_zst cx (b) (by exact hR _ (by decide) (by decide)) (rfl) (hb) (by decide) (by first | rfl | decide) dX4_meet_35 ?_
      refine a_HH (hH.put (r := 68) (b) _ (by decide) (hL 68 (by decide) (by decide)) rfl) (fun τ hH => ?_)
      have hR := M_row hH hL
      have hM := M_obj hH hL
      refine a_aload_n cx dX4_meet_36 rfl rfl ?_
      refine gf_X4_22 cx hM dX4_meet_37 ?_
      refine a_iload_n cx dX4_meet_40 rfl rfl ?_
      refine a_aload_n cx dX4_meet_41 rfl rfl ?_
      refine gf_X4_7 cx hM dX4_meet_42 ?_
      refine a_iload_n cx dX4_meet_45 rfl rfl ?_
      refine a_ild cx (b) (by exact hR _ (by decide) (by decide)) (rfl) (hb) (by decide) dX4_meet_46 ?_
      refine a_ist cx (b) (by exact hR _ (by decide) (by decide)) (rfl) (hb) (by decide)  dX4_meet_47 ?_
      refine a_HH (hH.put (r := 65) (b) _ (by decide) (hL 65 (by decide) (by decide)) rfl) (fun τ hH => ?_)
      have hR := M_row hH hL
      have hM := M_obj hH hL
      refine a_bipush cx (v := 100) dX4_meet_48 (by decide) ?_
      refine a_istore_n2 cx dX4_meet_50 rfl (by decide) (by intro w h; first | (cases h; rfl) | (cases h; assumption) | (cases h; done)) ?_
      refine a_loop (σ := Nat × ME × RH × Option Value) (fun f s => s.1 = f ∧ f ≤ 101 ∧ mW C s.2.1 b (nI f) (mNp C) ∧ HH g ad Lv s.2.1 ρ s.2.2.1 ∧ mmM b f s.2.1 = mMeet C b) (fun _ => ad) (fun s => s.2.2.1) (fun s => [some (.ref (ad 60)), some (.int (nI b)), some (.int (nI s.1 - 1)), s.2.2.2]) 101 (101, mMeet0 C b, τ, none) ⟨rfl, Nat.le_refl _, ⟨hI, rfl, rfl, rfl, by rw [show mNq (mMeet0 C b) b = mNq C b from rfl, hq0]; exact Nat.zero_le _⟩, hH, rfl⟩ rfl rfl (by dsimp only; rw [show nI 101 - 1 = (100 : Int32) by decide]) ?_
      clear hH hR hM
      rintro f ⟨i, C1, τ1, z⟩ ⟨rfl, hi1, hW, hH, hx⟩ ih
      dsimp only at hi1 hW hH hx ⊢
      refine a_iload_n cx dX4_meet_51 rfl rfl ?_
      refine a_if_lt cx (tgt := 169) dX4_meet_52 (by decide) (fun c_52 => ?_) (fun c_52 => ?_)
      · have hz : i = 0 := by
          cases i with
          | zero => rfl
          | succ i => rw [nI_pred] at c_52; exact absurd c_52 (nI_pos (by omega))
        subst hz
        replace hx : C1 = mMeet C b := hx
        have hR := M_row hH hL
        have hM := M_obj hH hL
        refine a_aload_n cx dX4_meet_169 rfl rfl ?_
        refine a_aload_n cx dX4_meet_170 rfl rfl ?_
        refine gf_X4_25 cx hM dX4_meet_171 ?_
        refine a_iload_n cx dX4_meet_174 rfl rfl ?_
        refine a_ild cx (b) (by exact hR _ (by decide) (by decide)) (rfl) (hb) (by decide) dX4_meet_175 ?_
        refine a_callV cx 1 (sp_X4_tells hH hL) hM rfl ml_X4_99 im_X4_tells se_X4_tells ini_X4 cd_X4_tells rfl rfl (by decide +kernel) rfl rfl ⟨(Nat.le_of_ble_eq_true rfl), (Nat.le_of_ble_eq_true rfl)⟩ (Nat.le_of_ble_eq_true rfl) dX4_meet_176 ⟨(Nat.le_of_ble_eq_true rfl), (Nat.le_of_ble_eq_true rfl)⟩ (fun _ _ _ h => h.elim) (fun v9 ad9 τ9 hP => ?_)
        obtain ⟨rfl, h2, hH⟩ := hP
        replace h2 := h2.symm
        subst h2
        exact a_iret cx hr dX4_meet_179 (Nat.le_of_ble_eq_true rfl) (Nat.le_of_ble_eq_true rfl) ⟨⟨_, rfl, fun _ => by rw [← hx]⟩, rfl, m_ok hjk (by rw [← hx]; exact hH)⟩
      · obtain ⟨i, rfl⟩ : ∃ j9, i = j9 + 1 := by
          cases i with
          | zero => exact absurd (by decide) c_52
          | succ i => exact ⟨i, rfl⟩
        rw [nI_pred]
        unfold mmM at hx
        refine a_iconst cx (v := 0) dX4_meet_55 (by decide) ?_
        refine a_istore_n3 cx dX4_meet_56 rfl (by decide) (by intro w h; first | (cases h; rfl) | (cases h; assumption) | (cases h; done)) ?_
        refine a_loop (σ := Nat × ME × RH) (fun f s => s.1 + f = mNp C ∧ mW C s.2.1 b (nI i) s.1 ∧ HH g ad Lv s.2.1 ρ s.2.2 ∧ mmS b (nI i) f s.1 s.2.1 = mmS b (nI i) (mNp C) 0 C1) (fun _ => ad) (fun s => s.2.2) (fun s => [some (.ref (ad 60)), some (.int (nI b)), some (.int (nI i)), some (.int (nI s.1))]) (mNp C) (0, C1, τ1) ⟨Nat.zero_add _, mW_next (by omega) hW, hH, rfl⟩ rfl rfl rfl ?_
        clear hH
        rintro f2 ⟨p, C2, τ2⟩ ⟨hp1, hV, hH, hy⟩ ih2
        dsimp only at hp1 hV hH hy ⊢
        have hR := M_row hH hL
        have hM := M_obj hH hL
        have hn2 : C2 60 2 = nI (mNp C) := by rw [hV.1.2.2.1, hV.2.1]
        have hnq := hV.1.2.2.2.2.1 b hb
        refine a_iload_n cx dX4_meet_57 rfl rfl ?_
        refine a_aload_n cx dX4_meet_58 rfl rfl ?_
        refine gf_X4_92 cx hM dX4_meet_59 ?_
        refine a_icmp_ge cx (tgt := 163) dX4_meet_62 (by decide) (fun c_62 => ?_) (fun c_62 => ?_)
        · have hz : f2 = 0 := (by rw [hn2] at c_62; have := le_nI c_62 (by omega) (by omega); omega)
          subst hz
          replace hy : C2 = mmS b (nI i) (mNp C) 0 C1 := hy
          refine a_iinc2 cx (nI i - 1) dX4_meet_163 (ad_m1 _) (by decide) (by intro w h; first | (cases h; rfl) | (cases h; assumption) | (cases h; done)) ?_
          refine a_goto cx (tgt := 51) dX4_meet_166 (by decide) ?_
          exact ih i (i, C2, _, _) (Nat.lt_succ_self i) ⟨rfl, by omega, (by rw [show mNp C = p by omega]; exact hV), hH, by rw [hy, ← hW.2.1]; exact hx⟩
        · have hpn : p < mNp C := by
            rcases Nat.lt_or_ge p (mNp C) with h9 | h9
            · exact h9
            · exact absurd (by rw [hn2]; exact nI_le h9 (by omega)) c_62
          have hp8 : p < 8 := by omega
          obtain ⟨f2, rfl⟩ : ∃ f9, f2 = f9 + 1 := ⟨f2 - 1, by omega⟩
          refine a_aload_n cx dX4_meet_65 rfl rfl ?_
          refine gf_X4_38 cx hM dX4_meet_66 ?_
          refine a_iload_n cx dX4_meet_69 rfl rfl ?_
          refine a_ild cx (p) (by exact hR _ (by decide) (by decide)) (rfl) (hp8) (by decide) dX4_meet_70 ?_
          refine a_iload_n cx dX4_meet_71 rfl rfl ?_
          refine a_icmp_ne cx (tgt := 157) dX4_meet_72 (by decide) (fun c_72 => ?_) (fun c_72 => ?_)
          · refine a_iinc3 cx (nI (p + 1)) dX4_meet_157 (nI_1 p) (by decide) (by intro w h; first | (cases h; rfl) | (cases h; assumption) | (cases h; done)) ?_
            refine a_goto cx (tgt := 57) dX4_meet_160 (by decide) ?_
            have hst : mmStep b (nI i) p C2 = C2 := if_neg (fun h => c_72 h.1)
            refine ih2 f2 (p + 1, C2, _) (Nat.lt_succ_self f2) ⟨by omega, mW_no hV, hH, ?_⟩
            rw [← hy]; show _ = mmS b (nI i) f2 (p + 1) (mmStep b (nI i) p C2); rw [hst]
          · refine a_aload_n cx dX4_meet_75 rfl rfl ?_
            refine gf_X4_44 cx hM dX4_meet_76 ?_
            refine a_iload_n cx dX4_meet_79 rfl rfl ?_
            refine a_ild cx (p) (by exact hR _ (by decide) (by decide)) (rfl) (hp8) (by decide) dX4_meet_80 ?_
            refine a_iload_n cx dX4_meet_81 rfl rfl ?_
            refine a_icmp_ne cx (tgt := 157) dX4_meet_82 (by decide) (fun c_82 => ?_) (fun c_82 => ?_)
            · refine a_iinc3 cx (nI (p + 1)) dX4_meet_157 (nI_1 p) (by decide) (by intro w h; first | (cases h; rfl) | (cases h; assumption) | (cases h; done)) ?_
              refine a_goto cx (tgt := 57) dX4_meet_160 (by decide) ?_
              have hst : mmStep b (nI i) p C2 = C2 := if_neg (fun h => c_82 h.2.1)
              refine ih2 f2 (p + 1, C2, _) (Nat.lt_succ_self f2) ⟨by omega, mW_no hV, hH, ?_⟩
              rw [← hy]; show _ = mmS b (nI i) f2 (p + 1) (mmStep b (nI i) p C2); rw [hst]
            · refine a_aload_n cx dX4_meet_85 rfl rfl ?_
              refine gf_X4_47 cx hM dX4_meet_86 ?_
              refine a_iload_n cx dX4_meet_89 rfl rfl ?_
              refine a_ild cx (p) (by exact hR _ (by decide) (by decide)) (rfl) (hp8) (by decide) dX4_meet_90 ?_
              refine a_aload_n cx dX4_meet_91 rfl rfl ?_
              refine gf_X4_22 cx hM dX4_meet_92 ?_
              refine a_iload_n cx dX4_meet_95 rfl rfl ?_
              refine a_ild cx (b) (by exact hR _ (by decide) (by decide)) (rfl) (hb) (by decide) dX4_meet_96 ?_
              refine a_icmp_le cx (tgt := 103) dX4_meet_97 (by decide) (fun c_97 => ?_) (fun c_97 => ?_)
              · have hlt := mW_lt hV hpn c_82
                refine a_aload_n cx dX4_meet_103 rfl rfl ?_
                refine gf_X4_28 cx hM dX4_meet_104 ?_
                refine a_bipush cx (v := 8) dX4_meet_107 (by decide) ?_
                refine a_iload_n cx dX4_meet_109 rfl rfl ?_
                refine a_imul cx dX4_meet_110 ?_
                refine a_aload_n cx dX4_meet_111 rfl rfl ?_
                refine gf_X4_25 cx hM dX4_meet_112 ?_
                refine a_iload_n cx dX4_meet_115 rfl rfl ?_
                refine a_ild cx (b) (by exact hR _ (by decide) (by decide)) (rfl) (hb) (by decide) dX4_meet_116 ?_
                refine a_iadd cx dX4_meet_117 ?_
                refine a_iload_n cx dX4_meet_118 rfl rfl ?_
                refine a_ist cx (8 * b + mNq C2 b) (by exact hR _ (by decide) (by decide)) ((by rw [hnq.1]; exact q8 hb (by omega))) ((show 8 * b + mNq C2 b < 16 by omega)) (by decide)  dX4_meet_119 ?_
                refine a_HH (hH.put (r := 67) (8 * b + mNq C2 b) _ (by decide) (hL 67 (by decide) (by decide)) rfl) (fun τ hH => ?_)
                have hR := M_row hH hL
                have hM := M_obj hH hL
                refine a_aload_n cx dX4_meet_120 rfl rfl ?_
                refine gf_X4_25 cx hM dX4_meet_121 ?_
                refine a_iload_n cx dX4_meet_124 rfl rfl ?_
                refine a_dup2 cx dX4_meet_125 rfl rfl ?_
                refine a_ild cx (b) (by exact hR _ (by decide) (by decide)) (rfl) (hb) (by decide) dX4_meet_126 ?_
                refine a_iconst cx (v := 1) dX4_meet_127 (by decide) ?_
                refine a_iadd cx dX4_meet_128 ?_
                refine a_ist cx (b) (by exact hR _ (by decide) (by decide)) (rfl) (hb) (by decide)  dX4_meet_129 ?_
                refine a_HH (hH.put (r := 66) (b) _ (by decide) (hL 66 (by decide) (by decide)) rfl) (fun τ hH => ?_)
                have hR := M_row hH hL
                have hM := M_obj hH hL
                refine a_aload_n cx dX4_meet_130 rfl rfl ?_
                refine gf_X4_53 cx hM dX4_meet_131 ?_
                refine a_iload_n cx dX4_meet_134 rfl rfl ?_
                refine a_aload_n cx dX4_meet_135 rfl rfl ?_
                refine gf_X4_47 cx hM dX4_meet_136 ?_
                refine a_iload_n cx dX4_meet_139 rfl rfl ?_
                refine a_ild cx (p) (by exact hR _ (by decide) (by decide)) (rfl) (hp8) (by decide) dX4_meet_140 ?_
                refine a_ist cx (p) (by exact hR _ (by decide) (by decide)) (rfl) (hp8) (by decide)  dX4_meet_141 ?_
                refine a_HH (hH.put (r := 75) (p) _ (by decide) (hL 75 (by decide) (by decide)) rfl) (fun τ hH => ?_)
                have hR := M_row hH hL
                have hM := M_obj hH hL
                refine a_aload_n cx dX4_meet_142 rfl rfl ?_
                refine gf_X4_22 cx hM dX4_meet_143 ?_
                refine a_iload_n cx dX4_meet_146 rfl rfl ?_
                refine a_dup2 cx dX4_meet_147 rfl rfl ?_
                refine a_ild cx (b) (by exact hR _ (by decide) (by decide)) (rfl) (hb) (by decide) dX4_meet_148 ?_
                refine a_aload_n cx dX4_meet_149 rfl rfl ?_
                refine gf_X4_47 cx hM dX4_meet_150 ?_
                refine a_iload_n cx dX4_meet_153 rfl rfl ?_
                refine a_ild cx (p) (by exact hR _ (by decide) (by decide)) (rfl) (hp8) (by decide) dX4_meet_154 ?_
                refine a_isub cx dX4_meet_155 ?_
                refine a_ist cx (b) (by exact hR _ (by decide) (by decide)) (rfl) (hb) (by decide)  dX4_meet_156 ?_
                refine a_HH (hH.put (r := 65) (b) _ (by decide) (hL 65 (by decide) (by decide)) rfl) (fun τ hH => ?_)
                have hR := M_row hH hL
                have hM := M_obj hH hL
                refine a_iinc3 cx (nI (p + 1)) dX4_meet_157 (nI_1 p) (by decide) (by intro w h; first | (cases h; rfl) | (cases h; assumption) | (cases h; done)) ?_
                refine a_goto cx (tgt := 57) dX4_meet_160 (by decide) ?_
                have hst : mmStep b (nI i) p C2 = mmY C2 b p := if_pos ⟨c_72, c_82, fun h => lt_ge h c_97⟩
                refine ih2 f2 (p + 1, mmY C2 b p, _) (Nat.lt_succ_self f2) ⟨by omega, mW_yes hV hb hpn c_82, hH, ?_⟩
                rw [← hy]; show _ = mmS b (nI i) f2 (p + 1) (mmStep b (nI i) p C2); rw [hst]
              · refine a_goto cx (tgt := 157) dX4_meet_100 (by decide) ?_
                refine a_iinc3 cx (nI (p + 1)) dX4_meet_157 (nI_1 p) (by decide) (by intro w h; first | (cases h; rfl) | (cases h; assumption) | (cases h; done)) ?_
                refine a_goto cx (tgt := 57) dX4_meet_160 (by decide) ?_
                have hst : mmStep b (nI i) p C2 = C2 := if_neg (fun h => c_97 (ge_lt h.2.2))
                refine ih2 f2 (p + 1, C2, _) (Nat.lt_succ_self f2) ⟨by omega, mW_no hV, hH, ?_⟩
                rw [← hy]; show _ = mmS b (nI i) f2 (p + 1) (mmStep b (nI i) p C2); rw [hst]
    · refine a_aload_n cx dX4_meet_23 rfl rfl ?_
      refine a_iconst cx (v := 2) dX4_meet_24 (by decide) ?_
      refine a_callV cx 1 (sp_X4_fails (k := 2) hH hL) hM rfl ml_X4_95 im_X4_fails se_X4_fails ini_X4 cd_X4_fails rfl rfl (by decide +kernel) rfl rfl ⟨(Nat.le_of_ble_eq_true rfl), (Nat.le_of_ble_eq_true rfl)⟩ (Nat.le_of_ble_eq_true rfl) dX4_meet_25 ⟨(Nat.le_of_ble_eq_true rfl), (Nat.le_of_ble_eq_true rfl)⟩ (fun _ _ _ h => h.elim) (fun v9 ad9 τ9 hP => ?_)
      obtain ⟨rfl, h2, hH⟩ := hP
      replace h2 := h2.symm
      subst h2
      exact a_iret cx hr dX4_meet_28 (Nat.le_of_ble_eq_true rfl) (Nat.le_of_ble_eq_true rfl) ⟨⟨_, rfl, fun q => absurd (((show jMeet C b9 = 2 from (by unfold jMeet; rw [if_pos (hw2.2 c_5), if_neg (c_20)]))).symm.trans q) (by decide)⟩, rfl, m_no (show jMeet C b9 = 2 from (by unfold jMeet; rw [if_pos (hw2.2 c_5), if_neg (c_20)])) (by decide) hH⟩
  · refine a_aload_n cx dX4_meet_8 rfl rfl ?_
    refine a_iconst cx (v := 1) dX4_meet_9 (by decide) ?_
    refine a_callV cx 1 (sp_X4_fails (k := 1) hH hL) hM rfl ml_X4_95 im_X4_fails se_X4_fails ini_X4 cd_X4_fails rfl rfl (by decide +kernel) rfl rfl ⟨(Nat.le_of_ble_eq_true rfl), (Nat.le_of_ble_eq_true rfl)⟩ (Nat.le_of_ble_eq_true rfl) dX4_meet_10 ⟨(Nat.le_of_ble_eq_true rfl), (Nat.le_of_ble_eq_true rfl)⟩ (fun _ _ _ h => h.elim) (fun v9 ad9 τ9 hP => ?_)
    obtain ⟨rfl, h2, hH⟩ := hP
    replace h2 := h2.symm
    subst h2
    exact a_iret cx hr dX4_meet_13 (Nat.le_of_ble_eq_true rfl) (Nat.le_of_ble_eq_true rfl) ⟨⟨_, rfl, fun q => absurd (((show jMeet C b9 = 1 from (by unfold jMeet; rw [if_neg (hw2.1 c_5)]))).symm.trans q) (by decide)⟩, rfl, m_no (show jMeet C b9 = 1 from (by unfold jMeet; rw [if_neg (hw2.1 c_5)])) (by decide) hH⟩

