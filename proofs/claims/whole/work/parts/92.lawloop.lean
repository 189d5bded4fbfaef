section LLOOP
variable {l : Launch} {g : GW} {p : Program} {e : Env} {s : State} {m : MethodId} {args : Array Value} {below : List Frame} {meth : Method} {c : Code} {A : Nat → Prop} {Q : State → Prop} {ad : AD} {τ : RH} {cells slots b L i : Nat} {xs : Nat → Int32} {Lv : Nat → Bool} {C : ME} {ρ : RH}
/-- one round of the law's loop -/
theorem lw_round (cx : Cx l g p s m args meth c A cL_law 9 RL) (hX : va_X b L xs s s.heap) (hbl : b < s.heap.size) (hbA : ¬ A b) (hL : L ≤ 3072) (hi : i + 6 ≤ L) (hS : lwI g ad Lv C ρ τ) (hc : cells + 1000 ≤ 603072) (hs : slots + 10000 ≤ 7211114) (kk : ∀ ad' τ' Lv' C' ρ', lwI g ad' Lv' C' ρ' τ' → AW l g p e room_1 s m args below meth c A 9 Q ad' τ' (cells + 1000) (slots + 10000) 1558 (lwV b ad' i) []) : AW l g p e room_1 s m args below meth c A 9 Q ad τ cells slots 38 (lwV b ad i) [] := by
  refine a_aload_n cx dL_law_38 rfl rfl ?_
  refine a_iload cx dL_law_39 rfl ?_
  refine a_sld cx hX hbl hbA i rfl (by omega) (by omega) dL_law_41 ?_
  refine a_bipush cx (v := 31) dL_law_42 (by decide) ?_
  refine a_iand cx dL_law_44 ?_
  generalize xs i &&& 31 = x
  by_cases h : x.toInt < 0 ∨ 22 < x.toInt
  · refine a_tableOut cx dL_law_45 h (tgt := 1558) (by decide) ?_
    exact a_wide (by omega) (by omega) (kk _ _ _ _ _ hS)
  · rcases (show x.toInt = 0 ∨ x.toInt = 1 ∨ x.toInt = 2 ∨ x.toInt = 3 ∨ x.toInt = 4 ∨ x.toInt = 5 ∨ x.toInt = 6 ∨ x.toInt = 7 ∨ x.toInt = 8 ∨ x.toInt = 9 ∨ x.toInt = 10 ∨ x.toInt = 11 ∨ x.toInt = 12 ∨ x.toInt = 13 ∨ x.toInt = 14 ∨ x.toInt = 15 ∨ x.toInt = 16 ∨ x.toInt = 17 ∨ x.toInt = 18 ∨ x.toInt = 19 ∨ x.toInt = 20 ∨ x.toInt = 21 ∨ x.toInt = 22 by omega) with q | q | q | q | q | q | q | q | q | q | q | q | q | q | q | q | q | q | q | q | q | q | q
    · exact a_tableIn cx dL_law_45 (by omega) (by omega) (off := 107) (tgt := 152) (by rw [q]; rfl) (by decide) (lw_addBeamline cx hX hbl hbA hL hi hS hc hs kk)
    · exact a_tableIn cx dL_law_45 (by omega) (by omega) (off := 175) (tgt := 220) (by rw [q]; rfl) (by decide) (lw_setRate cx hX hbl hbA hL hi hS hc hs kk)
    · exact a_tableIn cx dL_law_45 (by omega) (by omega) (off := 243) (tgt := 288) (by rw [q]; rfl) (by decide) (lw_propose cx hX hbl hbA hL hi hS hc hs kk)
    · exact a_tableIn cx dL_law_45 (by omega) (by omega) (off := 347) (tgt := 392) (by rw [q]; rfl) (by decide) (lw_meet cx hX hbl hbA hL hi hS hc hs kk)
    · exact a_tableIn cx dL_law_45 (by omega) (by omega) (off := 403) (tgt := 448) (by rw [q]; rfl) (by decide) (lw_reserve cx hX hbl hbA hL hi hS hc hs kk)
    · exact a_tableIn cx dL_law_45 (by omega) (by omega) (off := 459) (tgt := 504) (by rw [q]; rfl) (by decide) (lw_train cx hX hbl hbA hL hi hS hc hs kk)
    · exact a_tableIn cx dL_law_45 (by omega) (by omega) (off := 515) (tgt := 560) (by rw [q]; rfl) (by decide) (lw_setThere cx hX hbl hbA hL hi hS hc hs kk)
    · exact a_tableIn cx dL_law_45 (by omega) (by omega) (off := 606) (tgt := 651) (by rw [q]; rfl) (by decide) (lw_bring cx hX hbl hbA hL hi hS hc hs kk)
    · exact a_tableIn cx dL_law_45 (by omega) (by omega) (off := 674) (tgt := 719) (by rw [q]; rfl) (by decide) (lw_put cx hX hbl hbA hL hi hS hc hs kk)
    · exact a_tableIn cx dL_law_45 (by omega) (by omega) (off := 744) (tgt := 789) (by rw [q]; rfl) (by decide) (lw_life cx hX hbl hbA hL hi hS hc hs kk)
    · exact a_tableIn cx dL_law_45 (by omega) (by omega) (off := 800) (tgt := 845) (by rw [q]; rfl) (by decide) (lw_on cx hX hbl hbA hL hi hS hc hs kk)
    · exact a_tableIn cx dL_law_45 (by omega) (by omega) (off := 856) (tgt := 901) (by rw [q]; rfl) (by decide) (lw_reason cx hX hbl hbA hL hi hS hc hs kk)
    · exact a_tableIn cx dL_law_45 (by omega) (by omega) (off := 912) (tgt := 957) (by rw [q]; rfl) (by decide) (lw_fail cx hX hbl hbA hL hi hS hc hs kk)
    · exact a_tableIn cx dL_law_45 (by omega) (by omega) (off := 975) (tgt := 1020) (by rw [q]; rfl) (by decide) (lw_pass cx hX hbl hbA hL hi hS hc hs kk)
    · exact a_tableIn cx dL_law_45 (by omega) (by omega) (off := 1031) (tgt := 1076) (by rw [q]; rfl) (by decide) (lw_time cx hX hbl hbA hL hi hS hc hs kk)
    · exact a_tableIn cx dL_law_45 (by omega) (by omega) (off := 1044) (tgt := 1089) (by rw [q]; rfl) (by decide) (lw_used cx hX hbl hbA hL hi hS hc hs kk)
    · exact a_tableIn cx dL_law_45 (by omega) (by omega) (off := 1100) (tgt := 1145) (by rw [q]; rfl) (by decide) (lw_left cx hX hbl hbA hL hi hS hc hs kk)
    · exact a_tableIn cx dL_law_45 (by omega) (by omega) (off := 1156) (tgt := 1201) (by rw [q]; rfl) (by decide) (lw_leftAnew cx hX hbl hbA hL hi hS hc hs kk)
    · exact a_tableIn cx dL_law_45 (by omega) (by omega) (off := 1212) (tgt := 1257) (by rw [q]; rfl) (by decide) (lw_nextAt cx hX hbl hbA hL hi hS hc hs kk)
    · exact a_tableIn cx dL_law_45 (by omega) (by omega) (off := 1268) (tgt := 1313) (by rw [q]; rfl) (by decide) (lw_count cx hX hbl hbA hL hi hS hc hs kk)
    · exact a_tableIn cx dL_law_45 (by omega) (by omega) (off := 1338) (tgt := 1383) (by rw [q]; rfl) (by decide) (lw_mostOwed cx hX hbl hbA hL hi hS hc hs kk)
    · exact a_tableIn cx dL_law_45 (by omega) (by omega) (off := 1382) (tgt := 1427) (by rw [q]; rfl) (by decide) (lw_doneShare cx hX hbl hbA hL hi hS hc hs kk)
    · exact a_tableIn cx dL_law_45 (by omega) (by omega) (off := 1448) (tgt := 1493) (by rw [q]; rfl) (by decide) (lw_meanScore cx hX hbl hbA hL hi hS hc hs kk)
/-- the law's loop -/
theorem lw_loop (cx : Cx l g p s m args meth c A cL_law 9 RL) (hX : va_X b L xs s s.heap) (hbl : b < s.heap.size) (hbA : ¬ A b) (hL : L ≤ 3072) (hS : lwI g ad Lv C ρ τ) (hc : cells ≤ 1000) (hs : slots ≤ 10000) (kend : ∀ ad' τ' cells' slots' lv', cells' ≤ 603072 → slots' ≤ 7211114 → AW l g p e room_1 s m args below meth c A 9 Q ad' τ' cells' slots' 1564 lv' []) : AW l g p e room_1 s m args below meth c A 9 Q ad τ cells slots 28 (lwV b ad 0) [] := by
  refine a_loopG (σ := Nat × AD × RH × (Nat → Bool) × ME × RH) (fun f s => s.1 + f = 512 ∧ lwI g s.2.1 s.2.2.2.1 s.2.2.2.2.1 s.2.2.2.2.2 s.2.2.1) (fun s => s.2.1) (fun s => s.2.2.1) (fun s => lwV b s.2.1 (6 * s.1)) (fun s => 1000 + 1000 * s.1) (fun s => 10000 + 10000 * s.1) 512 (0, ad, τ, Lv, C, ρ) ⟨rfl, hS⟩ rfl rfl rfl hc hs ?_
  clear hS hc hs
  rintro f ⟨k, ad1, τ1, Lv1, C1, ρ1⟩ ⟨hk, hS⟩ ih
  dsimp only at hk hS ⊢
  refine a_iload cx dL_law_28 rfl ?_
  refine a_aload_n cx dL_law_30 rfl rfl ?_
  refine a_slen cx hX hbl hbA dL_law_31 ?_
  refine a_bipush cx (v := 6) dL_law_32 (by decide) ?_
  refine a_isub cx dL_law_34 ?_
  have e : (Int32.ofNat L - 6).toInt = (L : Int) - 6 := by
    rw [Int32.toInt_sub, show (Int32.ofNat L).toInt = (L : Int) from nI_toInt (by omega), show (6 : Int32).toInt = 6 from by decide]
    rw [Int.bmod_def]
    omega
  have e2 : (nI (6 * k)).toInt = ((6 * k : Nat) : Int) := nI_toInt (by omega)
  refine a_icmp_gt cx (tgt := 1564) dL_law_35 (by decide) (fun c_35 => ?_) (fun c_35 => ?_)
  · exact kend _ _ _ _ _ (by omega) (by omega)
  · have hi : 6 * k + 6 ≤ L := by
      apply Classical.byContradiction
      intro q
      apply c_35
      rw [Int32.lt_iff_toInt_lt, e, e2]
      omega
    refine lw_round cx hX hbl hbA hL hi hS (by omega) (by omega) (fun ad' τ' Lv' C' ρ' hS' => ?_)
    unfold lwV
    refine a_iinc5 cx (nI (6 * (k + 1))) dL_law_1558 (by rw [show Int32.ofInt 6 = nI 6 from by decide, sum_at]; congr 1) (by decide) (by intro w h; first | (cases h; rfl) | (cases h; assumption) | (cases h; done)) ?_
    refine a_goto cx (tgt := 28) dL_law_1561 (by decide) ?_
    refine a_wide (k := 1000 + 1000 * (k + 1)) (n := 10000 + 10000 * (k + 1)) (by omega) (by omega) ?_
    exact ih (f - 1) (k + 1, ad', τ', Lv', C', ρ') (by omega) ⟨by dsimp only; omega, hS'⟩
end LLOOP
