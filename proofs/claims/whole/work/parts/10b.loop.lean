theorem vI {x y : Int32} (h : x = y) : some (Value.int x) = some (Value.int y) := by rw [h]
section LOOPS
variable {l : Launch} {g : GW} {p : Program} {e : Env} {R : Room} {s : State} {m : MethodId} {args : Array Value} {below : List Frame} {meth : Method} {c : Code} {A : Nat → Prop} {nL : Nat} {Q : State → Prop} {ad : AD} {τ : RH} {cells slots pc : Nat} {lv : LV} {st : List Value}
/-- a loop: its head with a state, a fuel that falls -/
theorem a_loop {σ : Type} (Inv : Nat → σ → Prop) (Af : σ → AD) (Tf : σ → RH) (LVf : σ → LV) (f0 : Nat) (s0 : σ) (h0 : Inv f0 s0) (hA : Af s0 = ad) (hT : Tf s0 = τ) (hL : LVf s0 = lv)
    (step : ∀ f s', Inv f s' → (∀ f' s'', f' < f → Inv f' s'' → AW l g p e R s m args below meth c A nL Q (Af s'') (Tf s'') cells slots pc (LVf s'') st) → AW l g p e R s m args below meth c A nL Q (Af s') (Tf s') cells slots pc (LVf s') st) : AW l g p e R s m args below meth c A nL Q ad τ cells slots pc lv st := by
  subst hA; subst hT; subst hL
  have key : ∀ n f s', f < n → Inv f s' → AW l g p e R s m args below meth c A nL Q (Af s') (Tf s') cells slots pc (LVf s') st := by
    intro n
    induction n with
    | zero => intro f s' h; exact absurd h (Nat.not_lt_zero _)
    | succ n ih => intro f s' h hi; exact step f s' hi (fun f' s'' h1 h2 => ih f' s'' (Nat.lt_of_lt_of_le h1 (Nat.le_of_lt_succ h)) h2)
  exact key (f0 + 1) f0 s0 (Nat.lt_succ_self _) h0
end LOOPS
theorem kk_lt {k : Int32} {n : Nat} (h0 : ¬ k < 0) (h1 : ¬ nI n ≤ k) (hn : n ≤ 8) : k < nI 8 := by
  obtain ⟨h2, h3⟩ := ix_lt h0 h1 (by omega)
  rw [h2]; exact nI_lt (by omega) (by decide)
theorem kAt_out {n : Nat} {lf : Nat → Int32} {k : Int32} (h : k < 0 ∨ nI n ≤ k) : (0 : Int32) = kAt n lf k := by unfold kAt; rw [if_pos h]
theorem kAt_in {n : Nat} {lf : Nat → Int32} {k : Int32} (h0 : ¬ k < 0) (h1 : ¬ nI n ≤ k) : lf (tn k) = kAt n lf k := by unfold kAt; rw [if_neg (fun h => h.elim h0 h1)]
theorem kAt_nI {n i : Nat} {lf : Nat → Int32} (hi : i < n) (hn : n ≤ 8) : kAt n lf (nI i) = lf i := by rw [← kAt_in (nI_pos (by omega)) (nI_ge hi (by omega)), tn_nI (by omega)]
theorem not_le_pos {x : Int32} (h : ¬ x ≤ 0) : 0 < x := by
  rw [Int32.le_iff_toInt_le] at h
  rw [Int32.lt_iff_toInt_lt]
  omega
theorem le_not_pos {x : Int32} (h : x ≤ 0) : ¬ 0 < x := by
  rw [Int32.le_iff_toInt_le] at h
  rw [Int32.lt_iff_toInt_lt]
  omega
section MMX
variable {l : Launch} {g : GW} {p : Program} {e : Env} {R : Room} {s : State} {m : MethodId} {args : Array Value} {below : List Frame} {meth : Method} {c : Code} {A : Nat → Prop} {cc : ByteArray} {nL : Nat} {own : String} {Q : State → Prop} {ad : AD} {τ : RH} {cells slots pc : Nat} {lv : LV} {st : List Value}
theorem cd_mmax : Cond.code Lib.Math.max.name Lib.Math.max.code 2 (some .int) ∈ TW := cd_J9_max_7cf53
theorem a_mmax (cx : Cx l g p s m args meth c A cc nL own) {index : Nat} {x y : Int32} (hlink : Cond.methodLink own index yJ9_max_7cf53 ∈ TW) (hRf : 1 ≤ R.frames) (hRl : (st.map fun v => v.category).sum + 13 ≤ R.locals) (d : decode cc pc = .ok (.invokestatic index, 3)) (kk : AW l g p e R s m args below meth c A nL Q ad τ cells slots (pc + 3) lv (.int (if x < y then y else x) :: st)) (hc : cells ≤ R.cells := by exact Nat.le_of_ble_eq_true rfl) (hs : slots ≤ R.slots := by exact Nat.le_of_ble_eq_true rfl) : AW l g p e R s m args below meth c A nL Q ad τ cells slots pc lv (.int y :: .int x :: st) := fun H locs ls i1 i2 i3 i4 =>
  va_mmax cx.1 cx.2.1 (cx.2.2.1.trans i4.1.symm) cx.2.2.2.1 (cx.2.2.2.2.1 _ hlink) (cx.2.2.2.2.1 _ st_J9_max_7cf53) (cx.2.2.2.2.1 _ ini_J9) (cx.2.2.2.2.1 _ cd_mmax) hRf hRl hc hs d (kk H locs ls i1 i2 i3 i4)
end MMX
