section LENTRY
theorem tOff_hi {g : GW} {a : AD} {X : va_E} {r : Nat} (h : 7 ≤ r) : tOff g a (va_up (fun _ => none) 0 X) r = none := by
  unfold tOff
  rw [va_up_ne _ _ (by omega), va_up_ne _ _ (by omega), va_up_ne _ _ (by omega), va_up_ne _ _ (by omega), va_up_ne _ _ (by omega), va_up_ne _ _ (by omega)]
theorem tMod_hi {g : GW} {a a2 : AD} {X Y : va_E} {r : Nat} (h : 84 ≤ r) : tMod g a2 (va_up (tOff g a (va_up (fun _ => none) 0 X)) 60 Y) r = none := by
  unfold tMod
  rw [if_neg (by omega), if_neg (by omega), va_up_ne _ _ (by omega)]
  exact tOff_hi (by omega)
variable {l : Launch} {g : GW} {p : Program} {e : Env} {s : State} {m : MethodId} {args : Array Value} {below : List Frame} {meth : Method} {c : Code} {A : Nat → Prop} {Q : State → Prop} {ad : AD} {b L : Nat} {xs : Nat → Int32}
set_option maxHeartbeats 4000000 in
set_option maxRecDepth 100000 in
/-- the law from its entry -/
theorem lw_entry (cx : Cx l g p s m args meth c A cL_law 9 RL) (hX : va_X b L xs s s.heap) (hbl : b < s.heap.size) (hbA : ¬ A b) (hL : L ≤ 3072) (kend : ∀ ad' τ' cells' slots' lv', cells' ≤ 603072 → slots' ≤ 7211114 → AW l g p e room_1 s m args below meth c A 9 Q ad' τ' cells' slots' 1564 lv' []) : AW l g p e room_1 s m args below meth c A 9 Q ad (fun _ => none) 0 0 0 [some (.ref b), none, none, none, none, none, none, none, none] [] := by
  refine a_newG cx (fs := dvX3) (ci := 6) (0) (rfl) uw_X3 tyX3 tyX3_ok cl_L_8 ins_X3 ini_X3 rfl dvX3_ok (Nat.le_of_ble_eq_true rfl) (Nat.le_of_ble_eq_true rfl) dL_law_0 (fun a1 h1 => ?_)
  refine a_dup cx dL_law_3 rfl ?_
  refine a_callI cx 0 (sp_X3_init (va_up_self _ _ _) (va_up_ne _ _ (by decide)) (va_up_ne _ _ (by decide)) (va_up_ne _ _ (by decide)) (va_up_ne _ _ (by decide))) ml_L_98 im_X3_init ini_X3 cd_X3_init rfl rfl rfl (by decide +kernel) rfl rfl ⟨(Nat.le_of_ble_eq_true rfl), (Nat.le_of_ble_eq_true rfl)⟩ (Nat.le_of_ble_eq_true rfl) dL_law_4 ⟨(Nat.le_of_ble_eq_true rfl), (Nat.le_of_ble_eq_true rfl)⟩ (fun v9 a2 τ9 hQ => ?_)
  obtain ⟨h4, rfl, rfl⟩ := hQ
  rw [← h4 0 (by decide) (by decide) (by decide) (by decide)]
  refine a_astore_n1 cx dL_law_7 rfl (by decide) (by intro w h; first | (cases h; rfl) | (cases h; assumption) | (cases h; done)) ?_
  refine a_newG cx (fs := dvX4) (ci := 7) (60) (tOff_hi (by decide)) uw_X4 tyX4 tyX4_ok cl_L_99 ins_X4 ini_X4 rfl dvX4_ok (Nat.le_of_ble_eq_true rfl) (Nat.le_of_ble_eq_true rfl) dL_law_8 (fun a3 h8 => ?_)
  rw [← h8 0 (by decide)]
  refine a_dup cx dL_law_11 rfl ?_
  refine a_callI cx 0 (sp_X4_init (va_up_self _ _ _) (fun r q1 q2 => (va_up_ne _ _ (by omega)).trans (tOff_hi (by omega)))) ml_L_101 im_X4_init ini_X4 cd_X4_init rfl rfl rfl (by decide +kernel) rfl rfl ⟨(Nat.le_of_ble_eq_true rfl), (Nat.le_of_ble_eq_true rfl)⟩ (Nat.le_of_ble_eq_true rfl) dL_law_12 ⟨(Nat.le_of_ble_eq_true rfl), (Nat.le_of_ble_eq_true rfl)⟩ (fun v9 a4 τ9 hQ => ?_)
  obtain ⟨h12, rfl, rfl⟩ := hQ
  rw [← h12 0 (by omega), ← h12 60 (by omega)]
  refine a_astore_n2 cx dL_law_15 rfl (by decide) (by intro w h; first | (cases h; rfl) | (cases h; assumption) | (cases h; done)) ?_
  refine a_iconst cx (v := 1) dL_law_16 (by decide) ?_
  refine a_newaG cx (atype := .long) (t0 := 4) (N := 1) (90) (tMod_hi (by decide)) (.inr (.inl (fun _ => 0))) ac_long rfl rfl rfl (fun _ => rfl) (by decide) (by decide) (Nat.le_of_ble_eq_true rfl) (Nat.le_of_ble_eq_true rfl) (Nat.le_of_ble_eq_true rfl) dL_law_17 (fun a5 h17 => ?_)
  rw [← h17 0 (by decide), ← h17 60 (by decide)]
  refine a_astore_n3 cx dL_law_19 rfl (by decide) (by intro w h; first | (cases h; rfl) | (cases h; assumption) | (cases h; done)) ?_
  refine a_iconst cx (v := 1) dL_law_20 (by decide) ?_
  refine a_newaG cx (atype := .double) (t0 := 5) (N := 1) (91) ((va_up_ne _ _ (by decide)).trans (tMod_hi (by decide))) (.inr (.inr (.inr (.inl (fun _ => 0))))) ac_double rfl rfl rfl (fun _ => rfl) (by decide) (by decide) (Nat.le_of_ble_eq_true rfl) (Nat.le_of_ble_eq_true rfl) (Nat.le_of_ble_eq_true rfl) dL_law_21 (fun a6 h21 => ?_)
  rw [← h21 0 (by decide), ← h21 60 (by decide), ← h21 90 (by decide)]
  refine a_astore4 cx dL_law_23 (by decide) (by intro w h; first | (cases h; rfl) | (cases h; assumption) | (cases h; done)) ?_
  refine a_iconst cx (v := 0) dL_law_25 (by decide) ?_
  refine a_istore5 cx dL_law_26 (by decide) (by intro w h; first | (cases h; rfl) | (cases h; assumption) | (cases h; done)) ?_
  exact lw_loop cx hX hbl hbA hL ⟨HH_00 (ad1 := a2) (ad2 := a4) (by simp (disch := omega) only [h21, h17, h12, h8]) (by simp (disch := omega) only [h21, h17, h12, h8]) (by simp (disch := omega) only [h21, h17, h12, h8]) (by simp (disch := omega) only [h21, h17, h12, h8]) (fun r q1 q2 => by simp (disch := omega) only [h21, h17]), lwP_00, ⟨_, (va_up_ne _ _ (by decide)).trans (va_up_self _ _ _)⟩, ⟨_, va_up_self _ _ _⟩⟩ (Nat.le_of_ble_eq_true rfl) (Nat.le_of_ble_eq_true rfl) kend
end LENTRY
