set_option maxHeartbeats 4000000 in
set_option maxRecDepth 100000 in
/-- model: thrown -/
theorem sp_X4_thrown {l : Launch} {g : GW} {ad : AD} {τ : RH} {Lv : Nat → Bool} {C : ME} {ρ : RH} (hH : HH g ad Lv C ρ τ) (hL : mL Lv) : Sp l g yX4_thrown (.code yX4_thrown cX4_thrown 1 (some .int)) (rmv 4 0 0) [.ref (ad 60)] ad τ 0 0 (fun v ad' τ' => v = some (.int (C 60 0)) ∧ ad' = ad ∧ τ' = τ) (NoX) := by
  refine Sp.of 0 [some (.ref (ad 60))] (by decide +kernel) (Nat.le_of_ble_eq_true rfl) rfl ?_
  intro p e s m args below meth c A cx hout hr hnm
  have hM := M_obj hH hL
  refine a_aload_n cx dX4_thrown_0 rfl rfl ?_
  refine gf_X4_81 cx hM dX4_thrown_1 ?_
  exact a_iret cx hr dX4_thrown_4 (Nat.le_of_ble_eq_true rfl) (Nat.le_of_ble_eq_true rfl) ⟨rfl, rfl, rfl⟩

set_option maxHeartbeats 4000000 in
set_option maxRecDepth 100000 in
/-- time, and nothing thrown -/
theorem sp_time0 {l : Launch} {g : GW} {ad : AD} {τ : RH} {Lv : Nat → Bool} {C : ME} {ρ : RH} (hH : HH g ad Lv C ρ τ) (hI : cI Lv C) : Sp l g yX3_time (.code yX3_time cX3_time 1 (some .int)) (rmv 8 2 12) [.ref (ad 0)] ad τ 2 12 (fun v ad' τ' => v = some (.int (C 0 4)) ∧ ad' = ad ∧ τ' = τ) (NoX) := by
  refine Sp.of 0 [some (.ref (ad 0))] (by decide +kernel) (Nat.le_of_ble_eq_true rfl) rfl ?_
  intro p e s m args below meth c A cx hout hr hnm
  have hO := (H_lines hH hI).1
  refine a_aload_n cx dX3_time_0 rfl rfl ?_
  refine gf_X3_26 cx hO dX3_time_1 ?_
  exact a_iret cx hr dX3_time_4 (Nat.le_of_ble_eq_true rfl) (Nat.le_of_ble_eq_true rfl) ⟨rfl, rfl, rfl⟩

section LROWS
variable {l : Launch} {g : GW} {p : Program} {e : Env} {R : Room} {s : State} {m : MethodId} {args : Array Value} {below : List Frame} {meth : Method} {c : Code} {A : Nat → Prop} {cc : ByteArray} {nL : Nat} {own : String} {Q : State → Prop} {ad : AD} {τ : RH} {cells slots pc : Nat} {lv : LV} {st : List Value}
/-- the script: its length, its k-th int -/
theorem a_slen (cx : Cx l g p s m args meth c A cc nL own) {b L : Nat} {xs : Nat → Int32} (hX : va_X b L xs s s.heap) (hbl : b < s.heap.size) (hbA : ¬ A b) (d : decode cc pc = .ok (.arraylength, 1)) (kk : AW l g p e R s m args below meth c A nL Q ad τ cells slots (pc + 1) lv (.int (Int32.ofNat L) :: st)) : AW l g p e R s m args below meth c A nL Q ad τ cells slots pc lv (.ref b :: st) := fun H locs ls i1 i2 i3 i4 =>
  va_slen cx.1 cx.2.1 hX hbl hbA i3 d (kk H locs ls i1 i2 i3 i4)
theorem a_sld (cx : Cx l g p s m args meth c A cc nL own) {b L : Nat} {xs : Nat → Int32} (hX : va_X b L xs s s.heap) (hbl : b < s.heap.size) (hbA : ¬ A b) {i : Int32} (k : Nat) (hi : i = nI k) (hk : k < L) (hL : L < 2 ^ 31) (d : decode cc pc = .ok (.iaload, 1)) (kk : AW l g p e R s m args below meth c A nL Q ad τ cells slots (pc + 1) lv (.int (xs k) :: st)) : AW l g p e R s m args below meth c A nL Q ad τ cells slots pc lv (.int i :: .ref b :: st) := fun H locs ls i1 i2 i3 i4 =>
  va_sld cx.1 cx.2.1 hX hbl hbA i3 (by rw [hi]; exact vp_in_nI hk hL) d (by rw [hi, nI_clamp (Nat.lt_trans hk hL)]; exact kk H locs ls i1 i2 i3 i4)
/-- script[i + k] -/
theorem a_arg (cx : Cx l g p s m args meth c A cc nL own) {b L : Nat} {xs : Nat → Int32} (hX : va_X b L xs s s.heap) (hbl : b < s.heap.size) (hbA : ¬ A b) (k i : Nat) {n : Int} (hv : Int32.ofInt n = nI k) (hk : i + k < L) (hL : L < 2 ^ 31) (h0 : lv[0]? = some (some (.ref b))) (h5 : lv[5]? = some (some (.int (nI i)))) (d0 : decode cc pc = .ok (.aload_n 0, 1)) (d1 : decode cc (pc + 1) = .ok (.iload 5, 2)) (d3 : decode cc (pc + 1 + 2) = .ok (.iconst n, 1)) (d4 : decode cc (pc + 1 + 2 + 1) = .ok (.iadd, 1)) (d5 : decode cc (pc + 1 + 2 + 1 + 1) = .ok (.iaload, 1)) (kk : AW l g p e R s m args below meth c A nL Q ad τ cells slots (pc + 6) lv (.int (xs (i + k)) :: st)) : AW l g p e R s m args below meth c A nL Q ad τ cells slots pc lv st := by
  refine a_aload_n cx d0 rfl h0 ?_
  refine a_iload cx d1 h5 ?_
  refine a_iconst cx d3 hv ?_
  refine a_iadd cx d4 ?_
  refine a_sld cx hX hbl hbA (i + k) ?_ hk hL d5 kk
  exact nI_add _ _
end LROWS
theorem lg_self (x : Int64) : lg_cmp x x = 0 := (lg_cmp_eq x x).mpr rfl
theorem dcmp_0 {x : UInt64} (h : FP.Core.val64 x ≠ .nan) : Op.cmpValue (FP.dcmp x x) .l = 0 := by
  show Op.cmpValue (FP.Core.dcmp x x) .l = 0
  rw [FP.Core.dcmp_self h]
  rfl
theorem sum_at (n : Nat) : nI n + nI 6 = nI (n + 6) := nI_add _ _
/-- the memory at the law's loop -/
def lwI (g : GW) (ad : AD) (Lv : Nat → Bool) (C : ME) (ρ τ : RH) : Prop := HH g ad Lv C ρ τ ∧ lwP Lv C ∧ (∃ f, ρ 90 = some (lgO g f)) ∧ ∃ f, ρ 91 = some (dbO g f)
def lwV (b : Nat) (ad : AD) (i : Nat) : LV := [some (.ref b), some (.ref (ad 0)), some (.ref (ad 60)), some (.ref (ad 90)), some (.ref (ad 91)), some (.int (nI i)), none, none, none]
theorem lwV_sub {b i : Nat} {ad : AD} {z6 z7 z8 : Option Value} : ∀ (k : Nat) (v : Value), (lwV b ad i)[k]? = some (some v) → ([some (.ref b), some (.ref (ad 0)), some (.ref (ad 60)), some (.ref (ad 90)), some (.ref (ad 91)), some (.int (nI i)), z6, z7, z8] : LV)[k]? = some (some v) := by
  intro k v h
  unfold lwV at h
  match k, h with
  | 0, h => exact h
  | 1, h => exact h
  | 2, h => exact h
  | 3, h => exact h
  | 4, h => exact h
  | 5, h => exact h
  | 6, h => simp at h
  | 7, h => simp at h
  | 8, h => simp at h
  | k + 9, h => simp at h
theorem rL_90 {g : GW} {ρ : RH} {f : Nat → Int64} {x : Int64} : rL g ρ f x 90 = some (lgO g (va_up f 0 x)) := va_up_self _ _ _
theorem rL_91 {g : GW} {ρ : RH} {f : Nat → Int64} {x : Int64} : rL g ρ f x 91 = ρ 91 := va_up_ne _ _ (by decide)
theorem rD_91 {g : GW} {ρ : RH} {f : Nat → UInt64} {x : UInt64} : rD g ρ f x 91 = some (dbO g (va_up f 0 x)) := va_up_self _ _ _
theorem rD_90 {g : GW} {ρ : RH} {f : Nat → UInt64} {x : UInt64} : rD g ρ f x 90 = ρ 90 := va_up_ne _ _ (by decide)

