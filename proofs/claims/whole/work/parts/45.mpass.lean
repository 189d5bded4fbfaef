def mpS : Nat → Nat → MI → MI
  | 0, _, q => q
  | f + 1, b, q => mpS f (b + 1) (mShift q.1 b, q.2 + mDid q.1 b)
def maV (C : ME) (p : Nat) : Int32 := if (C 81 p = 114 ∨ C 81 p = 98) ∧ 0 < C 80 p then 1 else 0
def maJ (C : ME) (p : Nat) : ME := up2 C 80 p (C 80 p - maV C p)
def maS : Nat → Nat → ME → ME
  | 0, _, C => C
  | f + 1, p, C => maS f (p + 1) (maJ C p)
def mTick (C : ME) : ME := up2 C 60 3 (C 60 3 + 1)
def mPass1 (q : MI) : MI := (mTick (maS (mNp q.1) 0 (mpS (mNb q.1) 0 q).1), (mpS (mNb q.1) 0 q).2)
def mpN : Nat → MI → MI
  | 0, q => q
  | f + 1, q => mpN f (mPass1 q)
theorem mE_mpS : ∀ {f b : Nat} {q : MI}, mE q.1 (mpS f b q).1
  | 0, _, q => mE.refl q.1
  | f + 1, b, q => mE_shift.trans (mE_mpS (f := f) (b := b + 1) (q := (mShift q.1 b, q.2 + mDid q.1 b)))
theorem mE_maS : ∀ {f p : Nat} {C : ME}, mE C (maS f p C)
  | 0, _, C => mE.refl C
  | f + 1, p, C => (show mE C (maJ C p) from mE.put (by omega)).trans (mE_maS (f := f) (p := p + 1) (C := maJ C p))
theorem mE_tick {C : ME} : mE C (mTick C) := mE.put (by omega)
def jPass (C : ME) (n : Int32) : Int32 := if win n 1 20 then (if C 60 3 + n ≤ 200 then 0 else 2) else 1
def mqPass (C : ME) (n : Int32) : MI := mpN (tn n) (C, 0)
theorem maV_1 {C : ME} {p : Nat} (h : C 81 p = 114 ∨ C 81 p = 98) (h2 : ¬ C 80 p ≤ 0) : 1 = maV C p := by unfold maV; rw [if_pos ⟨h, not_le_pos h2⟩]
theorem maV_0 {C : ME} {p : Nat} (h : ¬ ((C 81 p = 114 ∨ C 81 p = 98) ∧ 0 < C 80 p)) : 0 = maV C p := by unfold maV; rw [if_neg h]
set_option maxHeartbeats 4000000 in
set_option maxRecDepth 100000 in
/-- model: pass -/
theorem sp_X4_pass {l : Launch} {g : GW} {ad : AD} {τ : RH} {Lv : Nat → Bool} {C : ME} {ρ : RH} {n : Int32} (hH : HH g ad Lv C ρ τ) (hL : mL Lv) (hI : mI C) : Sp l g yX4_pass (.code yX4_pass cX4_pass 5 (some .int)) (rmv 4 0 0) [.ref (ad 60), .int n] ad τ 0 0 (fun v ad' τ' => (∃ w, v = some (.int w) ∧ (jPass C n = 0 → w = (mqPass C n).2)) ∧ ad' = ad ∧ HH g ad Lv (up2 (if jPass C n = 0 then (mqPass C n).1 else C) 60 0 (jPass C n)) ρ τ') (NoX) := by
  refine Sp.of 3 [some (.ref (ad 60)), some (.int n), none, none, none] (by decide +kernel) (Nat.le_of_ble_eq_true rfl) rfl ?_
  intro p e s m args below meth c A cx hout hr hnm
  have hM := M_obj hH hL
  have hR := M_row hH hL
  refine a_iload_n cx dX4_pass_0 rfl rfl ?_
  refine a_iconst cx (v := 1) dX4_pass_1 (by decide) ?_
  refine a_bipush cx (v := 20) dX4_pass_2 (by decide) ?_
  refine a_callS cx 3 (sp_X4_in (x := n) (lo := 1) (hi := 20)) ml_X4_88 st_X4_in ini_X4 cd_X4_in rfl rfl (by decide +kernel) rfl rfl ⟨(Nat.le_of_ble_eq_true rfl), (Nat.le_of_ble_eq_true rfl)⟩ (Nat.le_of_ble_eq_true rfl) dX4_pass_4 ⟨(Nat.le_of_ble_eq_true rfl), (Nat.le_of_ble_eq_true rfl)⟩ (fun _ _ _ h => h.elim) (fun v9 ad9 τ9 hP => ?_)
  obtain ⟨⟨w4, rfl, hw4⟩, h2, h3⟩ := hP
  replace h2 := h2.symm
  subst h2
  replace h3 := h3.symm
  subst h3
  replace hw4 := w_if hw4
  refine a_if_ne cx (tgt := 16) dX4_pass_7 (by decide) (fun c_7 => ?_) (fun c_7 => ?_)
  · refine a_aload_n cx dX4_pass_16 rfl rfl ?_
    refine gf_X4_134 cx hM dX4_pass_17 ?_
    refine a_iload_n cx dX4_pass_20 rfl rfl ?_
    refine a_iadd cx dX4_pass_21 ?_
    refine a_sipush cx (v := 200) dX4_pass_22 (by decide) ?_
    refine a_icmp_le cx (tgt := 34) dX4_pass_25 (by decide) (fun c_25 => ?_) (fun c_25 => ?_)
    · have hpk : jPass C n = 0 := by unfold jPass; rw [if_pos (hw4.2 c_7), if_pos c_25]
      have hn := win_n (hi := 20) (hw4.2 c_7) (by decide) (by decide)
      refine a_iconst cx (v := 0) dX4_pass_34 (by decide) ?_
      refine a_istore_n2 cx dX4_pass_35 rfl (by decide) (by intro w h; first | (cases h; rfl) | (cases h; assumption) | (cases h; done)) ?_
      refine a_iconst cx (v := 0) dX4_pass_36 (by decide) ?_
      refine a_istore_n3 cx dX4_pass_37 rfl (by decide) (by intro w h; first | (cases h; rfl) | (cases h; assumption) | (cases h; done)) ?_
      refine a_loop (σ := Nat × MI × RH × Option Value) (fun f s => s.1 + f = tn n ∧ mE C s.2.1.1 ∧ HH g ad Lv s.2.1.1 ρ s.2.2.1 ∧ mpN f s.2.1 = mqPass C n) (fun _ => ad) (fun s => s.2.2.1) (fun s => [some (.ref (ad 60)), some (.int n), some (.int s.2.1.2), some (.int (nI s.1)), s.2.2.2]) (tn n) (0, (C, 0), τ, none) ⟨Nat.zero_add _, mE.refl C, hH, rfl⟩ rfl rfl rfl ?_
      clear hH hR hM
      rintro f ⟨i, ⟨C0, x0⟩, τ0, z⟩ ⟨hi, hE0, hH, hx0⟩ ih0
      dsimp only at hi hE0 hH hx0 ⊢
      refine a_iload_n cx dX4_pass_38 rfl rfl ?_
      refine a_iload_n cx dX4_pass_39 rfl rfl ?_
      refine a_icmp_ge cx (tgt := 153) dX4_pass_40 (by decide) (fun c_40 => ?_) (fun c_40 => ?_)
      · have hz : f = 0 := (by rw [hn.1] at c_40; have := le_nI c_40 (by omega) (by omega); omega)
        subst hz
        replace hx0 : (C0, x0) = mqPass C n := hx0
        have hM := M_obj hH hL
        refine a_aload_n cx dX4_pass_153 rfl rfl ?_
        refine a_iload_n cx dX4_pass_154 rfl rfl ?_
        refine a_callV cx 1 (sp_X4_tells hH hL) hM rfl ml_X4_99 im_X4_tells se_X4_tells ini_X4 cd_X4_tells rfl rfl (by decide +kernel) rfl rfl ⟨(Nat.le_of_ble_eq_true rfl), (Nat.le_of_ble_eq_true rfl)⟩ (Nat.le_of_ble_eq_true rfl) dX4_pass_155 ⟨(Nat.le_of_ble_eq_true rfl), (Nat.le_of_ble_eq_true rfl)⟩ (fun _ _ _ h => h.elim) (fun v9 ad9 τ9 hP => ?_)
        obtain ⟨rfl, h2, hH⟩ := hP
        replace h2 := h2.symm
        subst h2
        exact a_iret cx hr dX4_pass_158 (Nat.le_of_ble_eq_true rfl) (Nat.le_of_ble_eq_true rfl) ⟨⟨_, rfl, fun _ => by rw [← hx0]⟩, rfl, m_ok hpk (by rw [← hx0]; exact hH)⟩
      · have hin : i < tn n := by
          rcases Nat.lt_or_ge i (tn n) with h9 | h9
          · exact h9
          · exact absurd (by rw [hn.1]; exact nI_le h9 (by omega)) c_40
        obtain ⟨f, rfl⟩ : ∃ f9, f = f9 + 1 := ⟨f - 1, by omega⟩
        refine a_iconst cx (v := 0) dX4_pass_43 (by decide) ?_
        refine a_istore4 cx dX4_pass_44 (by decide) (by intro w h; first | (cases h; rfl) | (cases h; assumption) | (cases h; done)) ?_
        refine a_loop (σ := Nat × MI × RH) (fun f s => s.1 + f = mNb C ∧ mE C s.2.1.1 ∧ HH g ad Lv s.2.1.1 ρ s.2.2 ∧ mpS f s.1 s.2.1 = mpS (mNb C) 0 (C0, x0)) (fun _ => ad) (fun s => s.2.2) (fun s => [some (.ref (ad 60)), some (.int n), some (.int s.2.1.2), some (.int (nI i)), some (.int (nI s.1))]) (mNb C) (0, (C0, x0), τ0) ⟨Nat.zero_add _, hE0, hH, rfl⟩ rfl rfl rfl ?_
        clear hH
        rintro f1 ⟨b, ⟨C1, x1⟩, τ1⟩ ⟨hb1, hE, hH, hx⟩ ih1
        dsimp only at hb1 hE hH hx ⊢
        have hR := M_row hH hL
        have hM := M_obj hH hL
        have hn1 : C1 60 1 = nI (mNb C) := (hE 60 1 (by omega)).trans hI.1
        refine a_iload cx dX4_pass_46 rfl ?_
        refine a_aload_n cx dX4_pass_48 rfl rfl ?_
        refine gf_X4_85 cx hM dX4_pass_49 ?_
        refine a_icmp_ge cx (tgt := 70) dX4_pass_52 (by decide) (fun c_52 => ?_) (fun c_52 => ?_)
        · have hz : f1 = 0 := (by rw [hn1] at c_52; have := le_nI c_52 (by have := hI.2.1; omega) (by have := hI.2.1; omega); omega)
          subst hz
          replace hx : (C1, x1) = mpS (mNb C) 0 (C0, x0) := hx
          refine a_iconst cx (v := 0) dX4_pass_70 (by decide) ?_
          refine a_istore4 cx dX4_pass_71 (by decide) (by intro w h; first | (cases h; rfl) | (cases h; assumption) | (cases h; done)) ?_
          refine a_loop (σ := Nat × ME × RH) (fun f s => s.1 + f = mNp C ∧ mE C s.2.1 ∧ HH g ad Lv s.2.1 ρ s.2.2 ∧ maS f s.1 s.2.1 = maS (mNp C) 0 C1) (fun _ => ad) (fun s => s.2.2) (fun s => [some (.ref (ad 60)), some (.int n), some (.int x1), some (.int (nI i)), some (.int (nI s.1))]) (mNp C) (0, C1, τ1) ⟨Nat.zero_add _, hE, hH, rfl⟩ rfl rfl rfl ?_
          clear hH hR hM hE
          rintro f2 ⟨p, C2, τ2⟩ ⟨hp1, hE, hH, hy⟩ ih2
          dsimp only at hp1 hE hH hy ⊢
          have hR := M_row hH hL
          have hM := M_obj hH hL
          have hn2 : C2 60 2 = nI (mNp C) := (hE 60 2 (by omega)).trans hI.2.2.1
          refine a_iload cx dX4_pass_73 rfl ?_
          refine a_aload_n cx dX4_pass_75 rfl rfl ?_
          refine gf_X4_92 cx hM dX4_pass_76 ?_
          refine a_icmp_ge cx (tgt := 137) dX4_pass_79 (by decide) (fun c_79 => ?_) (fun c_79 => ?_)
          · have hz : f2 = 0 := (by rw [hn2] at c_79; have := le_nI c_79 (by have := hI.2.2.2.1; omega) (by have := hI.2.2.2.1; omega); omega)
            subst hz
            replace hy : C2 = maS (mNp C) 0 C1 := hy
            refine a_aload_n cx dX4_pass_137 rfl rfl ?_
            refine a_dup cx dX4_pass_138 rfl ?_
            refine gf_X4_134 cx hM dX4_pass_139 ?_
            refine a_iconst cx (v := 1) dX4_pass_142 (by decide) ?_
            refine a_iadd cx dX4_pass_143 ?_
            refine pf_X4_134 cx hM dX4_pass_144 ?_
            refine a_HH (hH.put (r := 60) (3) _ (by decide) (hL 60 (by decide) (by decide)) rfl) (fun τ hH => ?_)
            have hR := M_row hH hL
            have hM := M_obj hH hL
            refine a_iinc3 cx (nI (i + 1)) dX4_pass_147 (nI_1 i) (by decide) (by intro w h; first | (cases h; rfl) | (cases h; assumption) | (cases h; done)) ?_
            refine a_goto cx (tgt := 38) dX4_pass_150 (by decide) ?_
            refine ih0 f (i + 1, (mTick C2, x1), _, _) (Nat.lt_succ_self f) ⟨by omega, hE.trans mE_tick, hH, ?_⟩
            rw [← hx0]; show mpN f (mTick C2, x1) = mpN f (mPass1 (C0, x0))
            unfold mPass1; dsimp only; rw [hE0.nb, hE0.np, ← hx, hy]
          · have hpn : p < mNp C := by
              rcases Nat.lt_or_ge p (mNp C) with h9 | h9
              · exact h9
              · exact absurd (by rw [hn2]; exact nI_le h9 (by have := hI.2.2.2.1; omega)) c_79
            have hp8 : p < 8 := by have := hI.2.2.2.1; omega
            obtain ⟨f2, rfl⟩ : ∃ f9, f2 = f9 + 1 := ⟨f2 - 1, by omega⟩
            refine a_aload_n cx dX4_pass_82 rfl rfl ?_
            refine gf_X4_68 cx hM dX4_pass_83 ?_
            refine a_iload cx dX4_pass_86 rfl ?_
            refine a_dup2 cx dX4_pass_88 rfl rfl ?_
            refine a_ild cx (p) (by exact hR _ (by decide) (by decide)) (rfl) (hp8) (by decide) dX4_pass_89 ?_
            refine a_aload_n cx dX4_pass_90 rfl rfl ?_
            refine gf_X4_71 cx hM dX4_pass_91 ?_
            refine a_iload cx dX4_pass_94 rfl ?_
            refine a_cld cx (p) (by exact hR _ (by decide) (by decide)) (rfl) (hp8) (by decide) dX4_pass_96 ?_
            refine a_bipush cx (v := 114) dX4_pass_97 (by decide) ?_
            refine a_icmp_eq cx (tgt := 114) dX4_pass_99 (by decide) (fun c_99 => ?_) (fun c_99 => ?_)
            · refine a_aload_n cx dX4_pass_114 rfl rfl ?_
              refine gf_X4_68 cx hM dX4_pass_115 ?_
              refine a_iload cx dX4_pass_118 rfl ?_
              refine a_ild cx (p) (by exact hR _ (by decide) (by decide)) (rfl) (hp8) (by decide) dX4_pass_120 ?_
              refine a_if_le cx (tgt := 128) dX4_pass_121 (by decide) (fun c_121 => ?_) (fun c_121 => ?_)
              · refine a_iconst cx (v := 0) dX4_pass_128 (by decide) ?_
                refine a_int (maV_0 (fun h => le_not_pos c_121 h.2)) ?_
                refine a_isub cx dX4_pass_129 ?_
                refine a_ist cx (p) (by exact hR _ (by decide) (by decide)) (rfl) (hp8) (by decide)  dX4_pass_130 ?_
                refine a_HH (hH.put (r := 80) (p) _ (by decide) (hL 80 (by decide) (by decide)) rfl) (fun τ hH => ?_)
                have hR := M_row hH hL
                have hM := M_obj hH hL
                refine a_iinc4 cx (nI (p + 1)) dX4_pass_131 (nI_1 p) (by decide) (by intro w h; first | (cases h; rfl) | (cases h; assumption) | (cases h; done)) ?_
                refine a_goto cx (tgt := 73) dX4_pass_134 (by decide) ?_
                exact ih2 f2 (p + 1, maJ C2 p, _) (Nat.lt_succ_self f2) ⟨by omega, hE.trans (mE.put (by omega)), hH, hy⟩
              · refine a_iconst cx (v := 1) dX4_pass_124 (by decide) ?_
                refine a_goto cx (tgt := 129) dX4_pass_125 (by decide) ?_
                refine a_int (maV_1 (Or.inl c_99) c_121) ?_
                refine a_isub cx dX4_pass_129 ?_
                refine a_ist cx (p) (by exact hR _ (by decide) (by decide)) (rfl) (hp8) (by decide)  dX4_pass_130 ?_
                refine a_HH (hH.put (r := 80) (p) _ (by decide) (hL 80 (by decide) (by decide)) rfl) (fun τ hH => ?_)
                have hR := M_row hH hL
                have hM := M_obj hH hL
                refine a_iinc4 cx (nI (p + 1)) dX4_pass_131 (nI_1 p) (by decide) (by intro w h; first | (cases h; rfl) | (cases h; assumption) | (cases h; done)) ?_
                refine a_goto cx (tgt := 73) dX4_pass_134 (by decide) ?_
                exact ih2 f2 (p + 1, maJ C2 p, _) (Nat.lt_succ_self f2) ⟨by omega, hE.trans (mE.put (by omega)), hH, hy⟩
            · refine a_aload_n cx dX4_pass_102 rfl rfl ?_
              refine gf_X4_71 cx hM dX4_pass_103 ?_
              refine a_iload cx dX4_pass_106 rfl ?_
              refine a_cld cx (p) (by exact hR _ (by decide) (by decide)) (rfl) (hp8) (by decide) dX4_pass_108 ?_
              refine a_bipush cx (v := 98) dX4_pass_109 (by decide) ?_
              refine a_icmp_ne cx (tgt := 128) dX4_pass_111 (by decide) (fun c_111 => ?_) (fun c_111 => ?_)
              · refine a_iconst cx (v := 0) dX4_pass_128 (by decide) ?_
                refine a_int (maV_0 (fun h => h.1.elim c_99 c_111)) ?_
                refine a_isub cx dX4_pass_129 ?_
                refine a_ist cx (p) (by exact hR _ (by decide) (by decide)) (rfl) (hp8) (by decide)  dX4_pass_130 ?_
                refine a_HH (hH.put (r := 80) (p) _ (by decide) (hL 80 (by decide) (by decide)) rfl) (fun τ hH => ?_)
                have hR := M_row hH hL
                have hM := M_obj hH hL
                refine a_iinc4 cx (nI (p + 1)) dX4_pass_131 (nI_1 p) (by decide) (by intro w h; first | (cases h; rfl) | (cases h; assumption) | (cases h; done)) ?_
                refine a_goto cx (tgt := 73) dX4_pass_134 (by decide) ?_
                exact ih2 f2 (p + 1, maJ C2 p, _) (Nat.lt_succ_self f2) ⟨by omega, hE.trans (mE.put (by omega)), hH, hy⟩
              · refine a_aload_n cx dX4_pass_114 rfl rfl ?_
                refine gf_X4_68 cx hM dX4_pass_115 ?_
                refine a_iload cx dX4_pass_118 rfl ?_
                refine a_ild cx (p) (by exact hR _ (by decide) (by decide)) (rfl) (hp8) (by decide) dX4_pass_120 ?_
                refine a_if_le cx (tgt := 128) dX4_pass_121 (by decide) (fun c_121 => ?_) (fun c_121 => ?_)
                · refine a_iconst cx (v := 0) dX4_pass_128 (by decide) ?_
                  refine a_int (maV_0 (fun h => le_not_pos c_121 h.2)) ?_
                  refine a_isub cx dX4_pass_129 ?_
                  refine a_ist cx (p) (by exact hR _ (by decide) (by decide)) (rfl) (hp8) (by decide)  dX4_pass_130 ?_
                  refine a_HH (hH.put (r := 80) (p) _ (by decide) (hL 80 (by decide) (by decide)) rfl) (fun τ hH => ?_)
                  have hR := M_row hH hL
                  have hM := M_obj hH hL
                  refine a_iinc4 cx (nI (p + 1)) dX4_pass_131 (nI_1 p) (by decide) (by intro w h; first | (cases h; rfl) | (cases h; assumption) | (cases h; done)) ?_
                  refine a_goto cx (tgt := 73) dX4_pass_134 (by decide) ?_
                  exact ih2 f2 (p + 1, maJ C2 p, _) (Nat.lt_succ_self f2) ⟨by omega, hE.trans (mE.put (by omega)), hH, hy⟩
                · refine a_iconst cx (v := 1) dX4_pass_124 (by decide) ?_
                  refine a_goto cx (tgt := 129) dX4_pass_125 (by decide) ?_
                  refine a_int (maV_1 (Or.inr c_111) c_121) ?_
                  refine a_isub cx dX4_pass_129 ?_
                  refine a_ist cx (p) (by exact hR _ (by decide) (by decide)) (rfl) (hp8) (by decide)  dX4_pass_130 ?_
                  refine a_HH (hH.put (r := 80) (p) _ (by decide) (hL 80 (by decide) (by decide)) rfl) (fun τ hH => ?_)
                  have hR := M_row hH hL
                  have hM := M_obj hH hL
                  refine a_iinc4 cx (nI (p + 1)) dX4_pass_131 (nI_1 p) (by decide) (by intro w h; first | (cases h; rfl) | (cases h; assumption) | (cases h; done)) ?_
                  refine a_goto cx (tgt := 73) dX4_pass_134 (by decide) ?_
                  exact ih2 f2 (p + 1, maJ C2 p, _) (Nat.lt_succ_self f2) ⟨by omega, hE.trans (mE.put (by omega)), hH, hy⟩
        · have hbn : b < mNb C := by
            rcases Nat.lt_or_ge b (mNb C) with h9 | h9
            · exact h9
            · exact absurd (by rw [hn1]; exact nI_le h9 (by have := hI.2.1; omega)) c_52
          have hb2 : b < 2 := by have := hI.2.1; omega
          obtain ⟨f1, rfl⟩ : ∃ f9, f1 = f9 + 1 := ⟨f1 - 1, by omega⟩
          refine a_iload_n cx dX4_pass_55 rfl rfl ?_
          refine a_aload_n cx dX4_pass_56 rfl rfl ?_
          refine a_iload cx dX4_pass_57 rfl ?_
          refine a_callV cx 1 (sp_X4_shift hH hL (hE.keep hI) rfl hb2) hM rfl ml_X4_137 im_X4_shift se_X4_shift ini_X4 cd_X4_shift rfl rfl (by decide +kernel) rfl rfl ⟨(Nat.le_of_ble_eq_true rfl), (Nat.le_of_ble_eq_true rfl)⟩ (Nat.le_of_ble_eq_true rfl) dX4_pass_59 ⟨(Nat.le_of_ble_eq_true rfl), (Nat.le_of_ble_eq_true rfl)⟩ (fun _ _ _ h => h.elim) (fun v9 ad9 τ9 hP9 => ?_)
          obtain ⟨rfl, h2, hH⟩ := hP9
          replace h2 := h2.symm
          subst h2
          refine a_iadd cx dX4_pass_62 ?_
          refine a_istore_n2 cx dX4_pass_63 rfl (by decide) (by intro w h; first | (cases h; rfl) | (cases h; assumption) | (cases h; done)) ?_
          refine a_iinc4 cx (nI (b + 1)) dX4_pass_64 (nI_1 b) (by decide) (by intro w h; first | (cases h; rfl) | (cases h; assumption) | (cases h; done)) ?_
          refine a_goto cx (tgt := 46) dX4_pass_67 (by decide) ?_
          exact ih1 f1 (b + 1, (mShift C1 b, x1 + mDid C1 b), _) (Nat.lt_succ_self f1) ⟨by omega, hE.trans mE_shift, hH, hx⟩
    · refine a_aload_n cx dX4_pass_28 rfl rfl ?_
      refine a_iconst cx (v := 2) dX4_pass_29 (by decide) ?_
      refine a_callV cx 1 (sp_X4_fails (k := 2) hH hL) hM rfl ml_X4_95 im_X4_fails se_X4_fails ini_X4 cd_X4_fails rfl rfl (by decide +kernel) rfl rfl ⟨(Nat.le_of_ble_eq_true rfl), (Nat.le_of_ble_eq_true rfl)⟩ (Nat.le_of_ble_eq_true rfl) dX4_pass_30 ⟨(Nat.le_of_ble_eq_true rfl), (Nat.le_of_ble_eq_true rfl)⟩ (fun _ _ _ h => h.elim) (fun v9 ad9 τ9 hP => ?_)
      obtain ⟨rfl, h2, hH⟩ := hP
      replace h2 := h2.symm
      subst h2
      exact a_iret cx hr dX4_pass_33 (Nat.le_of_ble_eq_true rfl) (Nat.le_of_ble_eq_true rfl) ⟨⟨_, rfl, fun q => absurd (((show jPass C n = 2 from (by unfold jPass; rw [if_pos (hw4.2 c_7), if_neg (c_25)]))).symm.trans q) (by decide)⟩, rfl, m_no (show jPass C n = 2 from (by unfold jPass; rw [if_pos (hw4.2 c_7), if_neg (c_25)])) (by decide) hH⟩
  · refine a_aload_n cx dX4_pass_10 rfl rfl ?_
    refine a_iconst cx (v := 1) dX4_pass_11 (by decide) ?_
    refine a_callV cx 1 (sp_X4_fails (k := 1) hH hL) hM rfl ml_X4_95 im_X4_fails se_X4_fails ini_X4 cd_X4_fails rfl rfl (by decide +kernel) rfl rfl ⟨(Nat.le_of_ble_eq_true rfl), (Nat.le_of_ble_eq_true rfl)⟩ (Nat.le_of_ble_eq_true rfl) dX4_pass_12 ⟨(Nat.le_of_ble_eq_true rfl), (Nat.le_of_ble_eq_true rfl)⟩ (fun _ _ _ h => h.elim) (fun v9 ad9 τ9 hP => ?_)
    obtain ⟨rfl, h2, hH⟩ := hP
    replace h2 := h2.symm
    subst h2
    exact a_iret cx hr dX4_pass_15 (Nat.le_of_ble_eq_true rfl) (Nat.le_of_ble_eq_true rfl) ⟨⟨_, rfl, fun q => absurd (((show jPass C n = 1 from (by unfold jPass; rw [if_neg (hw4.1 c_7)]))).symm.trans q) (by decide)⟩, rfl, m_no (show jPass C n = 1 from (by unfold jPass; rw [if_neg (hw4.1 c_7)])) (by decide) hH⟩

