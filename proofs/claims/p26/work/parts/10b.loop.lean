theorem vI {x y : Int32} (h : x = y) : some (Value.int x) = some (Value.int y) := by rw [h]
section LOOPS
variable {l : Launch} {g : GW} {p : Program} {e : Env} {R : Room} {s : State} {m : MethodId} {args : Array Value} {below : List Frame} {meth : Method} {c : Code} {A : Nat → Prop} {nL : Nat} {Q : State → Prop} {ad : AD} {τ : RH} {cells slots pc : Nat} {lv : LV} {st : List Value}
/-- a loop: its head with a state, a fuel that falls -/
theorem a_loop {σ : Type} (Inv : Nat → σ → Prop) (Af : σ → AD) (Tf : σ → RH) (LVf : σ → LV) (f0 : Nat) (s0 : σ) (h0 : Inv f0 s0) (hA : Af s0 = ad) (hT : Tf s0 = τ) (hL : LVf s0 = lv)
    (step : ∀ f s', Inv f s' → (∀ f' s'', f' < f → Inv f' s'' → AW l g p e R s m args below meth c A nL Q (Af s'') (Tf s'') cells slots pc (LVf s'') st) → AW l g p e R s m args below meth c A nL Q (Af s') (Tf s') cells slots pc (LVf s') st) : AW l g p e R s m args below meth c A nL Q ad τ cells slots pc lv st := by
  subst hA; subst hT; subst hL
  have key : ∀ n f s', f < n → Inv f s' → AW l g p e R s m args below meth c A nL Q (Af s') (Tf s') cells slots pc (LVf s') st := by
    intro n
    induction n with
    | zero => intro f s' h; exact absurd h (Nat.not_lt_zero _)
    | succ n ih => intro f s' h hi; exact step f s' hi (fun f' s'' h1 h2 => ih f' s'' (Nat.lt_of_lt_of_le h1 (Nat.le_of_lt_succ h)) h2)
  exact key (f0 + 1) f0 s0 (Nat.lt_succ_self _) h0
end LOOPS
theorem kk_lt {k : Int32} {n : Nat} (h0 : ¬ k < 0) (h1 : ¬ nI n ≤ k) (hn : n ≤ 8) : k < nI 8 := by
  obtain ⟨h2, h3⟩ := ix_lt h0 h1 (by omega)
  rw [h2]; exact nI_lt (by omega) (by decide)
theorem kAt_out {n : Nat} {lf : Nat → Int32} {k : Int32} (h : k < 0 ∨ nI n ≤ k) : (0 : Int32) = kAt n lf k := by unfold kAt; rw [if_pos h]
theorem kAt_in {n : Nat} {lf : Nat → Int32} {k : Int32} (h0 : ¬ k < 0) (h1 : ¬ nI n ≤ k) : lf (tn k) = kAt n lf k := by unfold kAt; rw [if_neg (fun h => h.elim h0 h1)]
theorem kAt_nI {n i : Nat} {lf : Nat → Int32} (hi : i < n) (hn : n ≤ 8) : kAt n lf (nI i) = lf i := by rw [← kAt_in (nI_pos (by omega)) (nI_ge hi (by omega)), tn_nI (by omega)]
theorem not_le_pos {x : Int32} (h : ¬ x ≤ 0) : 0 < x := by
  rw [Int32.le_iff_toInt_le] at h
  rw [Int32.lt_iff_toInt_lt]
  omega
theorem le_not_pos {x : Int32} (h : x ≤ 0) : ¬ 0 < x := by
  rw [Int32.le_iff_toInt_le] at h
  rw [Int32.lt_iff_toInt_lt]
  omega
section MMX
variable {l : Launch} {g : GW} {p : Program} {e : Env} {R : Room} {s : State} {m : MethodId} {args : Array Value} {below : List Frame} {meth : Method} {c : Code} {A : Nat → Prop} {cc : ByteArray} {nL : Nat} {own : String} {Q : State → Prop} {ad : AD} {τ : RH} {cells slots pc : Nat} {lv : LV} {st : List Value}
theorem cd_mmax : Cond.code Lib.Math.max.name Lib.Math.max.code 2 (some .int) ∈ TW := cd_J9_max_7cf53
theorem a_mmax (cx : Cx l g p s m args meth c A cc nL own) {index : Nat} {x y : Int32} (hlink : Cond.methodLink own index yJ9_max_7cf53 ∈ TW) (hRf : 1 ≤ R.frames) (hRl : (st.map fun v => v.category).sum + 13 ≤ R.locals) (d : decode cc pc = .ok (.invokestatic index, 3)) (kk : AW l g p e R s m args below meth c A nL Q ad τ cells slots (pc + 3) lv (.int (if x < y then y else x) :: st)) (hc : cells ≤ R.cells := by exact Nat.le_of_ble_eq_true rfl) (hs : slots ≤ R.slots := by exact Nat.le_of_ble_eq_true rfl) : AW l g p e R s m args below meth c A nL Q ad τ cells slots pc lv (.int y :: .int x :: st) := fun H locs ls i1 i2 i3 i4 =>
  va_mmax cx.1 cx.2.1 (cx.2.2.1.trans i4.1.symm) cx.2.2.2.1 (cx.2.2.2.2.1 _ hlink) (cx.2.2.2.2.1 _ st_J9_max_7cf53) (cx.2.2.2.2.1 _ ini_J9) (cx.2.2.2.2.1 _ cd_mmax) hRf hRl hc hs d (kk H locs ls i1 i2 i3 i4)
end MMX
section NEWG
variable {l : Launch} {g : GW} {p : Program} {e : Env} {R : Room} {s : State} {m : MethodId} {args : Array Value} {below : List Frame} {meth : Method} {c : Code} {A : Nat → Prop} {cc : ByteArray} {nL : Nat} {own : String} {Q : State → Prop} {ad : AD} {τ : RH} {cells slots pc : Nat} {lv : LV} {st : List Value}
/-- an object at the fresh role r0, the addresses anew -/
theorem a_newG (cx : Cx l g p s m args meth c A cc nL own) {C : String} {T : u_T} {N ci index : Nat} {fs : List Value} (r0 : Nat) (h0 : τ r0 = none) (hin : ∀ w ∈ u_ws C T N, w ∈ TW) (ty : Nat → FieldType) (hty : ∀ k, k < N → parseFieldDescriptor (T k).2.2.1 = some (ty k)) (hcl : Cond.classLink own index C ∈ TW) (hinst : Cond.instantiable C N ∈ TW) (hini : Cond.initialized C ∈ TW) (hc : vwCl[ci]? = some (C, T, N)) (hfs : ∀ j, j < N → defaultValue (ty j) = vp_V fs j) (hcells : cells + 1 ≤ R.cells) (hslots : slots + N ≤ R.slots) (d : decode cc pc = .ok (.new index, 3))
    (kk : ∀ ad' : AD, (∀ x, x ≠ r0 → ad' x = ad x) → AW l g p e R s m args below meth c A nL Q ad' (va_up τ r0 (some (.inr (ci, fs)))) (cells + 1) (slots + N) (pc + 3) lv (.ref (ad' r0) :: st)) : AW l g p e R s m args below meth c A nL Q ad τ cells slots pc lv st :=
  a_new cx r0 h0 hin ty hty hcl hinst hini hc hfs hcells hslots d (fun q => by
    have h := kk (va_up ad r0 q) (fun x hx => va_up_ne _ _ hx)
    rw [va_up_self] at h
    exact h)
theorem a_newaG (cx : Cx l g p s m args meth c A cc nL own) {atype : ArrayType} {ty : FieldType} {n : Int32} {N t0 : Nat} {cA : ClassId} (r0 : Nat) (h0 : τ r0 = none) (pl : (Nat → Int32) ⊕ (Nat → Int64) ⊕ (Nat → UInt32) ⊕ (Nat → UInt64) ⊕ (Nat → Option Nat)) (harr : Cond.arrayClass (newarray.typeOf atype) ∈ TW) (hty : newarray.typeOf atype = ty) (ht : (aTys g)[t0]? = some (cA, ty)) (hq : va_RA s cA ty = (s.vm.findClass ("[" ++ ty.toString) = some cA)) (ha : ∀ cA : ClassId, vp_cell cA (N, pl) = arrV cA N (fun _ => defaultValue ty)) (hn : ¬ n < 0) (hN : n.toNatClampNeg = N) (hbytes : N * componentBytes ty ≤ 536870912) (hcells : cells + 1 ≤ R.cells) (hslots : slots + N ≤ R.slots) (d : decode cc pc = .ok (.newarray atype, 2))
    (kk : ∀ ad' : AD, (∀ x, x ≠ r0 → ad' x = ad x) → AW l g p e R s m args below meth c A nL Q ad' (va_up τ r0 (some (.inl (cA, N, pl)))) (cells + 1) (slots + N) (pc + 2) lv (.ref (ad' r0) :: st)) : AW l g p e R s m args below meth c A nL Q ad τ cells slots pc lv (.int n :: st) :=
  a_newa cx r0 h0 pl harr hty ht hq ha hn hN hbytes hcells hslots d (fun q => by
    have h := kk (va_up ad r0 q) (fun x hx => va_up_ne _ _ hx)
    rw [va_up_self] at h
    exact h)
theorem a_newqG (cx : Cx l g p s m args meth c A cc nL own) {index : Nat} {n : Int32} {N : Nat} (r0 : Nat) (h0 : τ r0 = none) (hclink : Cond.classLink own index "java/lang/Object" ∈ TW) (hn : ¬ n < 0) (hN : n.toNatClampNeg = N) (hbytes : N * 4 ≤ 536870912) (hcells : cells + 1 ≤ R.cells) (hslots : slots + N ≤ R.slots) (d : decode cc pc = .ok (.anewarray index, 3))
    (kk : ∀ ad' : AD, (∀ x, x ≠ r0 → ad' x = ad x) → AW l g p e R s m args below meth c A nL Q ad' (va_up τ r0 (some (.inl (g.2.1 3, N, .inr (.inr (.inr (.inr (fun _ => none)))))))) (cells + 1) (slots + N) (pc + 3) lv (.ref (ad' r0) :: st)) : AW l g p e R s m args below meth c A nL Q ad τ cells slots pc lv (.int n :: st) :=
  a_newq cx r0 h0 hclink hn hN hbytes hcells hslots d (fun q => by
    have h := kk (va_up ad r0 q) (fun x hx => va_up_ne _ _ hx)
    rw [va_up_self] at h
    exact h)
/-- an object of a known class is an Object -/
theorem a_sub (cx : Cx l g p s m args meth c A cc nL own) {C : String} {T : u_T} {N ci : Nat} (hca : Cond.castable C "java/lang/Object" ∈ BW) (hw : vwCl[ci]? = some (C, T, N)) : ∀ comp : ClassId, s.vm.findClass "java/lang/Object" = some comp → s.vm.assignable (g.1.1 ci) comp = true := by
  intro comp hc
  obtain ⟨c3, c4, h3, h4, h5⟩ := Cond.castable_spec (args := args) (s := s) (va_Nw.use (A := args) rfl (cx.2.2.2.2.2.1.2.2.2.2.2.1 _ hca))
  have h6 := ((cx_K cx).1 ci _ hw).2.1
  rw [← Option.some.inj (h3.symm.trans h6), ← Option.some.inj (h4.symm.trans hc)]
  exact h5
end NEWG
abbrev dvJx4a65c : List Value := [.int 0, .null, .int 0]
theorem dvJx4a65c_ok : ∀ j, j < 3 → defaultValue (tyJx4a65c j) = vp_V dvJx4a65c j := by
  intro j hj
  match j, hj with
  | 0, _ => rfl
  | 1, _ => rfl
  | 2, _ => rfl
  | j + 3, h => exact absurd h (by omega)
abbrev dvX0 : List Value := [.int 0, .int 0, .null, .null, .null, .null, .int 0, .int 0, .int 0, .int 0, .int 0]
theorem dvX0_ok : ∀ j, j < 11 → defaultValue (tyX0 j) = vp_V dvX0 j := by
  intro j hj
  match j, hj with
  | 0, _ => rfl
  | 1, _ => rfl
  | 2, _ => rfl
  | 3, _ => rfl
  | 4, _ => rfl
  | 5, _ => rfl
  | 6, _ => rfl
  | 7, _ => rfl
  | 8, _ => rfl
  | 9, _ => rfl
  | 10, _ => rfl
  | j + 11, h => exact absurd h (by omega)
abbrev dvX1 : List Value := [.null, .int 0, .int 0]
theorem dvX1_ok : ∀ j, j < 3 → defaultValue (tyX1 j) = vp_V dvX1 j := by
  intro j hj
  match j, hj with
  | 0, _ => rfl
  | 1, _ => rfl
  | 2, _ => rfl
  | j + 3, h => exact absurd h (by omega)
abbrev dvX2 : List Value := [.int 0, .null, .int 0, .int 0, .int 0, .int 0, .int 0, .int 0, .int 0, .int 0, .int 0, .int 0, .int 0]
theorem dvX2_ok : ∀ j, j < 13 → defaultValue (tyX2 j) = vp_V dvX2 j := by
  intro j hj
  match j, hj with
  | 0, _ => rfl
  | 1, _ => rfl
  | 2, _ => rfl
  | 3, _ => rfl
  | 4, _ => rfl
  | 5, _ => rfl
  | 6, _ => rfl
  | 7, _ => rfl
  | 8, _ => rfl
  | 9, _ => rfl
  | 10, _ => rfl
  | 11, _ => rfl
  | 12, _ => rfl
  | j + 13, h => exact absurd h (by omega)
abbrev dvX3 : List Value := [.null, .null, .null, .null, .int 0]
theorem dvX3_ok : ∀ j, j < 5 → defaultValue (tyX3 j) = vp_V dvX3 j := by
  intro j hj
  match j, hj with
  | 0, _ => rfl
  | 1, _ => rfl
  | 2, _ => rfl
  | 3, _ => rfl
  | 4, _ => rfl
  | j + 5, h => exact absurd h (by omega)
