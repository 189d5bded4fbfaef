theorem aH_kept {g : GW} {ad : AD} {τ : RH} {H H1 : Heap} (h : aH g ad τ H) (hq : ∀ q : Nat, q < H.size → H1[q]? = H[q]?) : aH g ad τ H1 := ⟨fun r e hr => (h.1 r e hr).kept (hq _ (aH_lt h hr)), h.2⟩
theorem aW1 {D : va_G} {cl : List vw_C} {q : Nat × va_E} {H : Heap} (h : va_at D cl q H) : va_P D cl [q] H := fun k x hx => by
  match k, hx with
  | 0, hx => cases hx; exact h
theorem cx_K {l : Launch} {g : GW} {p : Program} {s : State} {m : MethodId} {args : Array Value} {meth : Method} {c : Code} {A : Nat → Prop} {cc : ByteArray} {nL : Nat} {own : String} (cx : Cx l g p s m args meth c A cc nL own) : va_K g.1 vwCl (aTys g) s := cx.2.2.2.2.2.1.1
theorem gi_V {own C : String} {idx : Nat} {y : MethodName} {cw : Cond} (h1 : Cond.methodLink own idx y ∈ TW) (h2 : Cond.instanceMethod y ∈ TW) (h3 : Cond.selects C y y ∈ TW) (h4 : Cond.initialized C ∈ TW) (h5 : cw ∈ TW) : GoodIn TW (wsV own idx C y (cw :: TW)) := by
  intro w hw
  simp only [wsV, List.cons_append, List.nil_append, List.mem_cons] at hw
  rcases hw with rfl | rfl | rfl | rfl | rfl | hw
  · exact ⟨h1, tw_good h1⟩
  · exact ⟨h2, tw_good h2⟩
  · exact ⟨h3, tw_good h3⟩
  · exact ⟨h4, tw_good h4⟩
  · exact ⟨h5, tw_good h5⟩
  · exact ⟨hw, tw_good hw⟩
theorem gi_S {own : String} {idx : Nat} {y : MethodName} {cw : Cond} (h1 : Cond.methodLink own idx y ∈ TW) (h2 : Cond.static y ∈ TW) (h4 : Cond.initialized y.cls ∈ TW) (h5 : cw ∈ TW) : GoodIn TW (va_wsS own idx y (cw :: TW)) := by
  intro w hw
  simp only [va_wsS, List.cons_append, List.nil_append, List.mem_cons] at hw
  rcases hw with rfl | rfl | rfl | rfl | hw
  · exact ⟨h1, tw_good h1⟩
  · exact ⟨h2, tw_good h2⟩
  · exact ⟨h4, tw_good h4⟩
  · exact ⟨h5, tw_good h5⟩
  · exact ⟨hw, tw_good hw⟩
theorem gi_I {cw : Cond} (h5 : cw ∈ TW) : GoodIn TW (cw :: TW) := by
  intro w hw
  rcases List.mem_cons.mp hw with rfl | hw
  · exact ⟨h5, tw_good h5⟩
  · exact ⟨hw, tw_good hw⟩
theorem aPc_blind {g : GW} {As : List Value} {ad : AD} {τ : RH} {sz : Nat} : FrameBlind (aPc g As ad τ sz) := fun a U f mk q => ⟨q.1, q.2.1, q.2.2.1, Gl.move (H := U.heap) (State.WarmedH.refl U) (fun _ _ _ => rfl) (fun _ h => h) q.2.2.2⟩
/-- the callee's start out of the caller's frame -/
theorem aPc_of {l : Launch} {g : GW} {p : Program} {s : State} {m : MethodId} {args : Array Value} {meth : Method} {c : Code} {A : Nat → Prop} {cc : ByteArray} {nL : Nat} {own : String} (cx : Cx l g p s m args meth c A cc nL own) {H : Heap} {locs : List Loc} {ad : AD} {τ : RH} (i1 : aH g ad τ H) (i2 : aIn ad τ A) (i3 : va_S A s.heap H locs) (As : List Value) : ∀ U : State, U.heap = H → s.WarmedH U.vm → aPc g As ad τ H.size As.toArray U := fun U hU hW =>
  ⟨rfl, by rw [hU], by rw [hU]; exact i1, Gl.move hW (fun a h1 h2 => by rw [hU]; exact i3.2.1 a h1 h2) (fun q hq => by
    rcases hq with ⟨r, e, hr, rfl⟩ | hq
    · exact i2 r e hr
    · exact cx.2.2.2.2.2.2.1 q (Nat.le_trans i3.1 hq)) cx.2.2.2.2.2.1⟩
theorem aA_sub {l : Launch} {g : GW} {p : Program} {s : State} {m : MethodId} {args : Array Value} {meth : Method} {c : Code} {A : Nat → Prop} {cc : ByteArray} {nL : Nat} {own : String} (cx : Cx l g p s m args meth c A cc nL own) {H : Heap} {locs : List Loc} {ad : AD} {τ : RH} (i2 : aIn ad τ A) (i3 : va_S A s.heap H locs) : ∀ q, aA ad τ H.size q → A q := fun q hq => by
  rcases hq with ⟨r, e, hr, rfl⟩ | hq
  · exact i2 r e hr
  · exact cx.2.2.2.2.2.2.1 q (Nat.le_trans i3.1 hq)
section BROWS
variable {l : Launch} {g : GW} {p : Program} {e : Env} {R : Room} {s : State} {m : MethodId} {args : Array Value} {below : List Frame} {meth : Method} {c : Code} {A : Nat → Prop} {cc : ByteArray} {nL : Nat} {own : String} {Q : State → Prop} {ad : AD} {τ : RH} {cells slots pc : Nat} {lv : LV} {st : List Value}
theorem a_get (cx : Cx l g p s m args meth c A cc nL own) {ref C : String} {T : u_T} {N ci index : Nat} (k : Nat) {r : Nat} {fs : List Value} {v : Value} (hin : ∀ w ∈ u_ws C T N, w ∈ TW) (hc : vwCl[ci]? = some (C, T, N)) (hk : k < N) (hlink : Cond.fieldLink own index ref (T k).2.1 (T k).2.2.1 ∈ TW) (hsame : ∀ x, s.fieldFound? (T k).1 (T k).2.1 (T k).2.2.1 = some x → s.fieldFound? ref (T k).2.1 (T k).2.2.1 = some x)
    (hτ : τ r = some (.inr (ci, fs))) (hv : fs[k]? = some v) (d : decode cc pc = .ok (.getfield index, 3)) (kk : AW l g p e R s m args below meth c A nL Q ad τ cells slots (pc + 3) lv (v :: st)) : AW l g p e R s m args below meth c A nL Q ad τ cells slots pc lv (.ref (ad r) :: st) := fun H locs ls i1 i2 i3 i4 =>
  va_get (D := g.1) (cl := vwCl) (ws := [(ad r, .inr (ci, fs))]) cx.1 cx.2.1 cx.2.2.2.2.1 hin cx.2.2.2.1 (cx_K cx) (aW1 (i1.1 r _ hτ)) 0 rfl hc k hk (cx.2.2.2.2.1 _ hlink) hsame hv d (kk H locs ls i1 i2 i3 i4)
theorem a_put (cx : Cx l g p s m args meth c A cc nL own) {ref C : String} {T : u_T} {N ci index : Nat} (k : Nat) {r : Nat} {fs : List Value} {v : Value} (hin : ∀ w ∈ u_ws C T N, w ∈ TW) (ty0 : Nat → FieldType) (hty : ∀ k, k < N → parseFieldDescriptor (T k).2.2.1 = some (ty0 k)) (hnm : ∀ a, a < N → ∀ b, b < N → a ≠ b → (T a).2.1 ≠ (T b).2.1) (hc : vwCl[ci]? = some (C, T, N)) (hk : k < N) (hlink : Cond.fieldLink own index ref (T k).2.1 (T k).2.2.1 ∈ TW) (hsame : ∀ x, s.fieldFound? (T k).1 (T k).2.1 (T k).2.2.1 = some x → s.fieldFound? ref (T k).2.1 (T k).2.2.1 = some x) (hfin : (T k).2.2.2 = false)
    (hτ : τ r = some (.inr (ci, fs))) (hn : narrow (ty0 k) v = v) (hfit : fits (ty0 k) v = true) (hl : k < fs.length) (d : decode cc pc = .ok (.putfield index, 3)) (kk : AW l g p e R s m args below meth c A nL Q ad (va_up τ r (some (.inr (ci, fs.set k v)))) cells slots (pc + 3) lv st) : AW l g p e R s m args below meth c A nL Q ad τ cells slots pc lv (v :: .ref (ad r) :: st) := by
  intro H locs ls i1 i2 i3 i4
  have hts := cx.2.2.2.2.1
  have hK := cx_K cx
  have hap := va_apart (own := own) hts hin ty0 hty hnm hK hc
  obtain ⟨r', h1, cell, q1, q2, q3, q4⟩ := i1.1 r _ hτ
  have hr : r' = (C, T, N) := Option.some.inj (h1.symm.trans hc)
  subst hr
  obtain ⟨hS, hfc, kC, hkC, hkind⟩ := hK.1 ci _ hc
  obtain ⟨cf, kf, fi, f, hi, hsl⟩ := hS k hk
  have hlay := hts _ (hin _ (u_in_lay hk))
  unfold u_lay at hlay
  rw [if_neg (by rw [hfin]; decide)] at hlay
  have hst := (u_facts hfc hkC (u_lays hts hin hk) hi).1
  have h6 := u_store hfc hkC hkind hlay hi (hty k hk) hn hfit
  refine W.putK cx.1 cx.2.1 (f := f) ⟨cx.2.2.2.1, hts _ hlink, ⟨_, _, _, hsame _ hi⟩, hst⟩ (by rw [q2]; exact h6) q1 q3 (by rw [hsl]; exact k2_hasslot (q4 k hk)) rfl rfl d fun H' e1 e2 e3 => ?_
  rw [hsl] at e1 ⊢
  exact kk H' _ ls (aH_set i1 hτ ⟨_, hc, t_OB.to (V := updV (vp_V fs) k v) ⟨_, e1, q2, q3, t_set q4 hap hk v⟩ (fun j _ => vp_updV_set hl v j)⟩ e3) (aIn_set i2 hτ) (i3.put e2 e3 (i2 r _ hτ)) i4
theorem a_putF (cx : Cx l g p s m args meth c A cc nL own) {ref C : String} {T : u_T} {N ci index : Nat} (k : Nat) {r : Nat} {fs : List Value} {v : Value} (hin : ∀ w ∈ u_ws C T N, w ∈ TW) (ty0 : Nat → FieldType) (hty : ∀ k, k < N → parseFieldDescriptor (T k).2.2.1 = some (ty0 k)) (hnm : ∀ a, a < N → ∀ b, b < N → a ≠ b → (T a).2.1 ≠ (T b).2.1) (hc : vwCl[ci]? = some (C, T, N)) (hk : k < N) (hlink : Cond.fieldLink own index ref (T k).2.1 (T k).2.2.1 ∈ TW) (hsame : ∀ x, s.fieldFound? (T k).1 (T k).2.1 (T k).2.2.1 = some x → s.fieldFound? ref (T k).2.1 (T k).2.2.1 = some x) (hfin : (T k).2.2.2 = true) (hdecl : (T k).1 = own) (hin2 : meth.name = "<init>")
    (hτ : τ r = some (.inr (ci, fs))) (hn : narrow (ty0 k) v = v) (hfit : fits (ty0 k) v = true) (hl : k < fs.length) (d : decode cc pc = .ok (.putfield index, 3)) (kk : AW l g p e R s m args below meth c A nL Q ad (va_up τ r (some (.inr (ci, fs.set k v)))) cells slots (pc + 3) lv st) : AW l g p e R s m args below meth c A nL Q ad τ cells slots pc lv (v :: .ref (ad r) :: st) := by
  intro H locs ls i1 i2 i3 i4
  have hts := cx.2.2.2.2.1
  have hK := cx_K cx
  have hown := cx.2.2.2.1
  have hap := va_apart (own := own) hts hin ty0 hty hnm hK hc
  obtain ⟨r', h1, cell, q1, q2, q3, q4⟩ := i1.1 r _ hτ
  have hr : r' = (C, T, N) := Option.some.inj (h1.symm.trans hc)
  subst hr
  obtain ⟨hS, hfc, kC, hkC, hkind⟩ := hK.1 ci _ hc
  obtain ⟨cf, kf, fi, f, hi, hsl⟩ := hS k hk
  have hlay := hts _ (hin _ (u_in_lay hk))
  unfold u_lay at hlay
  rw [if_pos hfin] at hlay
  have hst := (u_facts hfc hkC (u_lays hts hin hk) hi).1
  have hcf : m.cls = cf := by
    obtain ⟨_, _, c', _, _, _, -, -, hf', -, -, -, hown2, -⟩ := Cond.laysFinal_spec hlay
    have e1 : c' = cf := by have := hi.symm.trans hf'; simp at this; exact this.1.symm
    rw [hdecl] at hown2
    rw [← e1]; exact Option.some.inj (hown.symm.trans hown2)
  have h6 := u_fits hfc hkC hkind (Or.inr hlay) hi (hty k hk) hn hfit
  refine W.putFinK cx.1 cx.2.1 hown (hts _ hlink) (hsame _ hi) hst hcf hin2 (by rw [q2]; exact h6) q1 q3 (by rw [hsl]; exact k2_hasslot (q4 k hk)) rfl rfl d fun H' e1 e2 e3 => ?_
  rw [hsl] at e1 ⊢
  exact kk H' _ ls (aH_set i1 hτ ⟨_, hc, t_OB.to (V := updV (vp_V fs) k v) ⟨_, e1, q2, q3, t_set q4 hap hk v⟩ (fun j _ => vp_updV_set hl v j)⟩ e3) (aIn_set i2 hτ) (i3.put e2 e3 (i2 r _ hτ)) i4
theorem a_ild (cx : Cx l g p s m args meth c A cc nL own) {r n : Nat} {f : Nat → Int32} {i : Int32} (k : Nat) (hτ : τ r = some (.inl (g.2.1 1, n, .inl f))) (hi : i = nI k) (hk : k < n) (hn : n < 2 ^ 31) (d : decode cc pc = .ok (.iaload, 1)) (kk : AW l g p e R s m args below meth c A nL Q ad τ cells slots (pc + 1) lv (.int (f k) :: st)) : AW l g p e R s m args below meth c A nL Q ad τ cells slots pc lv (.int i :: .ref (ad r) :: st) := fun H locs ls i1 i2 i3 i4 =>
  va_iald (D := g.1) (cl := vwCl) (ws := [(ad r, .inl (g.2.1 1, n, .inl f))]) cx.1 cx.2.1 (cx_K cx) (aW1 (i1.1 r _ hτ)) 0 1 rfl rfl (by rw [hi]; exact vp_in_nI hk hn) d (by rw [hi, nI_clamp (Nat.lt_trans hk hn)]; exact kk H locs ls i1 i2 i3 i4)
theorem a_zld (cx : Cx l g p s m args meth c A cc nL own) {r n : Nat} {f : Nat → Int32} {i : Int32} (k : Nat) (hτ : τ r = some (.inl (g.2.1 2, n, .inl f))) (hi : i = nI k) (hk : k < n) (hn : n < 2 ^ 31) (d : decode cc pc = .ok (.baload, 1)) (kk : AW l g p e R s m args below meth c A nL Q ad τ cells slots (pc + 1) lv (.int (f k) :: st)) : AW l g p e R s m args below meth c A nL Q ad τ cells slots pc lv (.int i :: .ref (ad r) :: st) := fun H locs ls i1 i2 i3 i4 =>
  va_zald (D := g.1) (cl := vwCl) (ws := [(ad r, .inl (g.2.1 2, n, .inl f))]) cx.1 cx.2.1 (cx_K cx) (aW1 (i1.1 r _ hτ)) 0 2 rfl rfl (by rw [hi]; exact vp_in_nI hk hn) d (by rw [hi, nI_clamp (Nat.lt_trans hk hn)]; exact kk H locs ls i1 i2 i3 i4)
theorem a_cld (cx : Cx l g p s m args meth c A cc nL own) {r n : Nat} {f : Nat → Int32} {i : Int32} (k : Nat) (hτ : τ r = some (.inl (g.2.1 0, n, .inl f))) (hi : i = nI k) (hk : k < n) (hn : n < 2 ^ 31) (d : decode cc pc = .ok (.caload, 1)) (kk : AW l g p e R s m args below meth c A nL Q ad τ cells slots (pc + 1) lv (.int (f k) :: st)) : AW l g p e R s m args below meth c A nL Q ad τ cells slots pc lv (.int i :: .ref (ad r) :: st) := fun H locs ls i1 i2 i3 i4 =>
  va_cald (D := g.1) (cl := vwCl) (ws := [(ad r, .inl (g.2.1 0, n, .inl f))]) cx.1 cx.2.1 (cx_K cx) (aW1 (i1.1 r _ hτ)) 0 0 rfl rfl (by rw [hi]; exact vp_in_nI hk hn) d (by rw [hi, nI_clamp (Nat.lt_trans hk hn)]; exact kk H locs ls i1 i2 i3 i4)
theorem a_qld (cx : Cx l g p s m args meth c A cc nL own) {r n : Nat} {f : Nat → Option Nat} {i : Int32} (k : Nat) (hτ : τ r = some (.inl (g.2.1 3, n, .inr (.inr (.inr (.inr f)))))) (hi : i = nI k) (hk : k < n) (hn : n < 2 ^ 31) (d : decode cc pc = .ok (.aaload, 1)) (kk : AW l g p e R s m args below meth c A nL Q ad τ cells slots (pc + 1) lv (va_rf (f k) :: st)) : AW l g p e R s m args below meth c A nL Q ad τ cells slots pc lv (.int i :: .ref (ad r) :: st) := fun H locs ls i1 i2 i3 i4 =>
  va_aldq (D := g.1) (cl := vwCl) (ws := [(ad r, .inl (g.2.1 3, n, .inr (.inr (.inr (.inr f)))))]) cx.1 cx.2.1 (cx_K cx) (aW1 (i1.1 r _ hτ)) 0 3 rfl rfl (by rw [hi]; exact vp_in_nI hk hn) d (by rw [hi, nI_clamp (Nat.lt_trans hk hn)]; exact kk H locs ls i1 i2 i3 i4)
theorem a_ist (cx : Cx l g p s m args meth c A cc nL own) {r n : Nat} {f : Nat → Int32} {i : Int32} {x : Int32} (k : Nat) (hτ : τ r = some (.inl (g.2.1 1, n, .inl f))) (hi : i = nI k) (hk : k < n) (hn : n < 2 ^ 31) (d : decode cc pc = .ok (.iastore, 1)) (kk : AW l g p e R s m args below meth c A nL Q ad (va_up τ r (some (.inl (g.2.1 1, n, .inl (va_up f k x))))) cells slots (pc + 1) lv st) : AW l g p e R s m args below meth c A nL Q ad τ cells slots pc lv (.int x :: .int i :: .ref (ad r) :: st) := by
  intro H locs ls i1 i2 i3 i4
  have hin : vp_in i n := by rw [hi]; exact vp_in_nI hk hn
  have hcl : i.toNatClampNeg = k := by rw [hi]; exact nI_clamp (Nat.lt_trans hk hn)
  refine W.iast cx.1 cx.2.1 (i1.1 r _ hτ) (((cx_K cx).2 1 _ rfl).1 n (fun j => .int (f j))) (fun q => by cases q) (by show ¬ (i < 0 ∨ (arrV _ _ _).slots.size ≤ _); rw [arrV_size]; exact hin) rfl rfl d fun H1 e z oq => ?_
  refine kk H1 _ ls (aH_set i1 hτ ?_ oq) (aIn_set i2 hτ) (i3.put z oq (i2 r _ hτ)) i4
  show H1[ad r]? = some (vp_cell _ _)
  rw [e]
  rw [vp_cell_i, vp_cell_i, arrV_store]
  congr 2
  funext q
  rw [hcl]
  by_cases hq : q = k
  · subst hq
    simp [updV, va_up]
  · simp [updV, va_up, hq]
theorem a_zst (cx : Cx l g p s m args meth c A cc nL own) {r n : Nat} {f : Nat → Int32} {i : Int32} {x : Int32} (k : Nat) (hτ : τ r = some (.inl (g.2.1 2, n, .inl f))) (hi : i = nI k) (hk : k < n) (hn : n < 2 ^ 31) (hx : vp_nar .boolean x = x) (d : decode cc pc = .ok (.bastore, 1)) (kk : AW l g p e R s m args below meth c A nL Q ad (va_up τ r (some (.inl (g.2.1 2, n, .inl (va_up f k x))))) cells slots (pc + 1) lv st) : AW l g p e R s m args below meth c A nL Q ad τ cells slots pc lv (.int x :: .int i :: .ref (ad r) :: st) := by
  intro H locs ls i1 i2 i3 i4
  have hin : vp_in i n := by rw [hi]; exact vp_in_nI hk hn
  have hcl : i.toNatClampNeg = k := by rw [hi]; exact nI_clamp (Nat.lt_trans hk hn)
  refine W.zast cx.1 cx.2.1 (i1.1 r _ hτ) (((cx_K cx).2 2 _ rfl).1 n (fun j => .int (f j))) (fun q => by cases q) (by show ¬ (i < 0 ∨ (arrV _ _ _).slots.size ≤ _); rw [arrV_size]; exact hin) rfl rfl d fun H1 e z oq => ?_
  refine kk H1 _ ls (aH_set i1 hτ ?_ oq) (aIn_set i2 hτ) (i3.put z oq (i2 r _ hτ)) i4
  show H1[ad r]? = some (vp_cell _ _)
  rw [e]
  rw [vp_cell_i, vp_cell_i, arrV_store]
  congr 2
  funext q
  rw [hcl]
  by_cases hq : q = k
  · subst hq
    have hx' := hx
    simp only [vp_nar] at hx'
    simp [updV, va_up, narrow] at hx' ⊢
    exact hx'
  · simp [updV, va_up, hq]
theorem a_cst (cx : Cx l g p s m args meth c A cc nL own) {r n : Nat} {f : Nat → Int32} {i : Int32} {x : Int32} (k : Nat) (hτ : τ r = some (.inl (g.2.1 0, n, .inl f))) (hi : i = nI k) (hk : k < n) (hn : n < 2 ^ 31) (hx : vp_nar .char x = x) (d : decode cc pc = .ok (.castore, 1)) (kk : AW l g p e R s m args below meth c A nL Q ad (va_up τ r (some (.inl (g.2.1 0, n, .inl (va_up f k x))))) cells slots (pc + 1) lv st) : AW l g p e R s m args below meth c A nL Q ad τ cells slots pc lv (.int x :: .int i :: .ref (ad r) :: st) := by
  intro H locs ls i1 i2 i3 i4
  have hin : vp_in i n := by rw [hi]; exact vp_in_nI hk hn
  have hcl : i.toNatClampNeg = k := by rw [hi]; exact nI_clamp (Nat.lt_trans hk hn)
  refine W.cast cx.1 cx.2.1 (i1.1 r _ hτ) (((cx_K cx).2 0 _ rfl).1 n (fun j => .int (f j))) (fun q => by cases q) (by show ¬ (i < 0 ∨ (arrV _ _ _).slots.size ≤ _); rw [arrV_size]; exact hin) rfl rfl d fun H1 e z oq => ?_
  refine kk H1 _ ls (aH_set i1 hτ ?_ oq) (aIn_set i2 hτ) (i3.put z oq (i2 r _ hτ)) i4
  show H1[ad r]? = some (vp_cell _ _)
  rw [e]
  rw [vp_cell_i, vp_cell_i, arrV_store]
  congr 2
  funext q
  rw [hcl]
  by_cases hq : q = k
  · subst hq
    have hx' := hx
    simp only [vp_nar] at hx'
    simp [updV, va_up, narrow] at hx' ⊢
    exact hx'
  · simp [updV, va_up, hq]
theorem a_qst (cx : Cx l g p s m args meth c A cc nL own) {r n v ci : Nat} {vs : List Value} {f : Nat → Option Nat} {i : Int32} (k : Nat) {w : vw_C} (hτ : τ r = some (.inl (g.2.1 3, n, .inr (.inr (.inr (.inr f)))))) (hv : τ v = some (.inr (ci, vs))) (hw : vwCl[ci]? = some w) (hsub : s.vm.findClass "java/lang/Object" = some (g.1.1 ci) ∨ ∀ comp : ClassId, s.vm.findClass "java/lang/Object" = some comp → s.vm.assignable (g.1.1 ci) comp = true) (hi : i = nI k) (hk : k < n) (hn : n < 2 ^ 31) (d : decode cc pc = .ok (.aastore, 1)) (kk : AW l g p e R s m args below meth c A nL Q ad (va_up τ r (some (.inl (g.2.1 3, n, .inr (.inr (.inr (.inr (va_up f k (some (ad v)))))))))) cells slots (pc + 1) lv st) : AW l g p e R s m args below meth c A nL Q ad τ cells slots pc lv (.ref (ad v) :: .int i :: .ref (ad r) :: st) := by
  intro H locs ls i1 i2 i3 i4
  have hin : vp_in i n := by rw [hi]; exact vp_in_nI hk hn
  have hlt : i.toNatClampNeg < n := Nat.not_le.mp fun q => hin (Or.inr q)
  have h0 : ¬ i < 0 := fun q => hin (Or.inl q)
  have hcl : i.toNatClampNeg = k := by rw [hi]; exact nI_clamp (Nat.lt_trans hk hn)
  obtain ⟨r', hr', cellV, g1, g2, g3, -⟩ := i1.1 v _ hv
  have hcls := ((cx_K cx).1 ci w hw).2
  obtain ⟨kA, comp, k1, k2, k3, -⟩ := ((cx_K cx).2 3 _ rfl).2
  obtain ⟨kC, hkC, -⟩ := hcls.2
  have hass : s.vm.assignable (g.1.1 ci) comp = true := by
    rcases hsub with h | h
    · have : comp = g.1.1 ci := Option.some.inj (k3.symm.trans h)
      subst this
      exact va_assign hcls
    · exact h comp k3
  obtain ⟨kO, hkO, -⟩ := Vm.findClass_spec k3
  refine W.aast cx.1 cx.2.1 (i1.1 r _ hτ) (fun q h => by cases h) (fun h => by cases h) k1 k2 rfl hkO ⟨h0, by show _ < (arrV _ _ _).slots.size; rw [arrV_size]; exact hlt⟩ g1 (fun q h => by rw [g3] at h; cases h) (by rw [g2]; exact hkC) (by rw [g2]; exact hass) rfl rfl d fun H1 e z oq => ?_
  refine kk H1 _ ls (aH_set i1 hτ ?_ oq) (aIn_set i2 hτ) (i3.put z oq (i2 r _ hτ)) i4
  show H1[ad r]? = some (vp_cell _ _)
  rw [e]
  rw [vp_cell_q, vp_cell_q, arrV_store]
  congr 2
  funext q
  rw [hcl]
  by_cases hq : q = k
  · subst hq
    simp [updV, va_up, va_rf]
  · simp [updV, va_up, hq]
theorem a_alen (cx : Cx l g p s m args meth c A cc nL own) {r n : Nat} {cA : ClassId} {pl : (Nat → Int32) ⊕ (Nat → Int64) ⊕ (Nat → UInt32) ⊕ (Nat → UInt64) ⊕ (Nat → Option Nat)} {ty : FieldType} (t0 : Nat) {v : Int32} (hτ : τ r = some (.inl (cA, n, pl))) (ht : (aTys g)[t0]? = some (cA, ty)) (hv : Int32.ofNat n = v) (d : decode cc pc = .ok (.arraylength, 1)) (kk : AW l g p e R s m args below meth c A nL Q ad τ cells slots (pc + 1) lv (.int v :: st)) : AW l g p e R s m args below meth c A nL Q ad τ cells slots pc lv (.ref (ad r) :: st) := fun H locs ls i1 i2 i3 i4 =>
  va_alen (D := g.1) (cl := vwCl) (ws := [(ad r, .inl (cA, n, pl))]) cx.1 cx.2.1 (cx_K cx) (aW1 (i1.1 r _ hτ)) 0 t0 rfl ht hv d (kk H locs ls i1 i2 i3 i4)
theorem a_elen (cx : Cx l g p s m args meth c A cc nL own) (d : decode cc pc = .ok (.arraylength, 1)) (kk : AW l g p e R s m args below meth c A nL Q ad τ cells slots (pc + 1) lv (.int 0 :: st)) : AW l g p e R s m args below meth c A nL Q ad τ cells slots pc lv (.ref g.2.2.1 :: st) := fun H locs ls i1 i2 i3 i4 =>
  va_tlen cx.1 cx.2.1 cx.2.2.2.2.2.1.2.2.2.2.1 i3 rfl d (kk H locs ls i1 i2 i3 i4)
theorem a_gets (cx : Cx l g p s m args meth c A cc nL own) {index : Nat} (hlink : Cond.fieldLink own index "java/util/ArrayList" "DEFAULTCAPACITY_EMPTY_ELEMENTDATA" "[Ljava/lang/Object;" ∈ TW) (d : decode cc pc = .ok (.getstatic index, 3)) (kk : AW l g p e R s m args below meth c A nL Q ad τ cells slots (pc + 3) lv (.ref g.2.2.1 :: st)) : AW l g p e R s m args below meth c A nL Q ad τ cells slots pc lv st := fun H locs ls i1 i2 i3 i4 =>
  va_gets cx.1 cx.2.1 cx.2.2.2.2.2.1.2.2.2.1 i3 cx.2.2.2.1 (cx.2.2.2.2.1 _ hlink) (fun _ h => h) d (kk H locs ls i1 i2 i3 i4)
theorem a_cast (cx : Cx l g p s m args meth c A cc nL own) {r ci index N : Nat} {fs : List Value} {C nm : String} {T : u_T} (hτ : τ r = some (.inr (ci, fs))) (hc : vwCl[ci]? = some (C, T, N)) (hlink : Cond.classLink own index nm ∈ TW) (hca : Cond.castable C nm ∈ BW) (d : decode cc pc = .ok (.checkcast index, 3)) (kk : AW l g p e R s m args below meth c A nL Q ad τ cells slots (pc + 3) lv (.ref (ad r) :: st)) : AW l g p e R s m args below meth c A nL Q ad τ cells slots pc lv (.ref (ad r) :: st) := fun H locs ls i1 i2 i3 i4 =>
  va_castY cx.1 cx.2.1 cx.2.2.2.1 (cx.2.2.2.2.1 _ hlink) (cx.2.2.2.2.2.1.2.2.2.2.2.1 _ hca) (va_recv (cx_K cx) (aW1 (i1.1 r _ hτ)) (q0 := 0) hc rfl) d (kk H locs ls i1 i2 i3 i4)
theorem a_new (cx : Cx l g p s m args meth c A cc nL own) {C : String} {T : u_T} {N ci index : Nat} {fs : List Value} (r0 : Nat) (h0 : τ r0 = none) (hin : ∀ w ∈ u_ws C T N, w ∈ TW) (ty : Nat → FieldType) (hty : ∀ k, k < N → parseFieldDescriptor (T k).2.2.1 = some (ty k)) (hcl : Cond.classLink own index C ∈ TW) (hinst : Cond.instantiable C N ∈ TW) (hini : Cond.initialized C ∈ TW) (hc : vwCl[ci]? = some (C, T, N)) (hfs : ∀ j, j < N → defaultValue (ty j) = vp_V fs j) (hcells : cells + 1 ≤ R.cells) (hslots : slots + N ≤ R.slots) (d : decode cc pc = .ok (.new index, 3))
    (kk : ∀ q : Nat, AW l g p e R s m args below meth c A nL Q (va_up ad r0 q) (va_up τ r0 (some (.inr (ci, fs)))) (cells + 1) (slots + N) (pc + 3) lv (.ref q :: st)) : AW l g p e R s m args below meth c A nL Q ad τ cells slots pc lv st := by
  intro H locs ls i1 i2 i3 i4
  have hts := cx.2.2.2.2.1
  have hKn := (cx_K cx).1 ci _ hc
  refine W.newcK cx.1 cx.2.1 cx.2.2.2.1 (hts _ hcl) (hts _ hinst) (hts _ hini) rfl d hcells hslots hKn.2.1 rfl fun H1 kC hkC e1 z1 o1 => ?_
  exact kk H.size H1 _ ls (aH_push i1 h0 ⟨_, hc, (u_born ty hts hin hKn hkC e1 hty).to hfs⟩ o1) (aIn_push i2 (cx.2.2.2.2.2.2.1 _ i3.1)) ⟨Nat.le_trans i3.1 (by omega), fun x h1 h2 => (o1 x (Nat.lt_of_lt_of_le h1 i3.1)).trans (i3.2.1 x h1 h2), i3.2.2⟩ i4
theorem a_newa (cx : Cx l g p s m args meth c A cc nL own) {atype : ArrayType} {ty : FieldType} {n : Int32} {N t0 : Nat} {cA : ClassId} (r0 : Nat) (h0 : τ r0 = none) (pl : (Nat → Int32) ⊕ (Nat → Int64) ⊕ (Nat → UInt32) ⊕ (Nat → UInt64) ⊕ (Nat → Option Nat)) (harr : Cond.arrayClass (newarray.typeOf atype) ∈ TW) (hty : newarray.typeOf atype = ty) (ht : (aTys g)[t0]? = some (cA, ty)) (hq : va_RA s cA ty = (s.vm.findClass ("[" ++ ty.toString) = some cA)) (ha : ∀ cA : ClassId, vp_cell cA (N, pl) = arrV cA N (fun _ => defaultValue ty)) (hn : ¬ n < 0) (hN : n.toNatClampNeg = N) (hbytes : N * componentBytes ty ≤ 536870912) (hcells : cells + 1 ≤ R.cells) (hslots : slots + N ≤ R.slots) (d : decode cc pc = .ok (.newarray atype, 2))
    (kk : ∀ q : Nat, AW l g p e R s m args below meth c A nL Q (va_up ad r0 q) (va_up τ r0 (some (.inl (cA, N, pl)))) (cells + 1) (slots + N) (pc + 2) lv (.ref q :: st)) : AW l g p e R s m args below meth c A nL Q ad τ cells slots pc lv (.int n :: st) := by
  intro H locs ls i1 i2 i3 i4
  subst hty
  refine va_newaK cx.1 cx.2.1 (cx.2.2.2.2.1 _ harr) rfl d rfl hn hN hbytes hcells hslots rfl fun H1 cA' e1 z1 o1 hAr hNm => ?_
  have hc9 := ((cx_K cx).2 t0 _ ht).2
  rw [hq] at hc9
  have hcA : cA' = cA := Option.some.inj (hNm.symm.trans hc9)
  subst hcA
  refine kk H.size H1 _ ls (aH_push i1 h0 ?_ o1) (aIn_push i2 (cx.2.2.2.2.2.2.1 _ i3.1)) ⟨Nat.le_trans i3.1 (by omega), fun x h1 h2 => (o1 x (Nat.lt_of_lt_of_le h1 i3.1)).trans (i3.2.1 x h1 h2), i3.2.2⟩ i4
  show H1[H.size]? = some (vp_cell _ _)
  rw [ha]
  exact e1
theorem a_newq (cx : Cx l g p s m args meth c A cc nL own) {index : Nat} {n : Int32} {N : Nat} (r0 : Nat) (h0 : τ r0 = none) (hclink : Cond.classLink own index "java/lang/Object" ∈ TW) (hn : ¬ n < 0) (hN : n.toNatClampNeg = N) (hbytes : N * 4 ≤ 536870912) (hcells : cells + 1 ≤ R.cells) (hslots : slots + N ≤ R.slots) (d : decode cc pc = .ok (.anewarray index, 3))
    (kk : ∀ q : Nat, AW l g p e R s m args below meth c A nL Q (va_up ad r0 q) (va_up τ r0 (some (.inl (g.2.1 3, N, .inr (.inr (.inr (.inr (fun _ => none)))))))) (cells + 1) (slots + N) (pc + 3) lv (.ref q :: st)) : AW l g p e R s m args below meth c A nL Q ad τ cells slots pc lv (.int n :: st) := by
  intro H locs ls i1 i2 i3 i4
  subst hN
  refine W.anew cx.1 cx.2.1 cx.2.2.2.1 (cx.2.2.2.2.1 _ hclink) (va_AO.use cx.2.2.2.2.2.1.2.2.2.2.2.2.2.1) rfl d rfl hn hbytes hcells hslots fun cA kA comp f1 f2 f3 f4 => ?_
  obtain ⟨kA', comp', k1, k2, k3, k4⟩ := ((cx_K cx).2 3 _ rfl).2
  have hcA : cA = g.2.1 3 := Option.some.inj (f1.symm.trans k4)
  subst hcA
  generalize hH1 : H.push ({ cls := g.2.1 3, slots := Array.replicate n.toNatClampNeg .null, vm := .none } : Cell) = H1
  have z1 : H1.size = H.size + 1 := by rw [← hH1, Array.size_push]
  have e1 : H1[H.size]? = some (arrV (g.2.1 3) n.toNatClampNeg (fun _ => .null)) := by rw [← hH1, Array.getElem?_push_size, ← arrV_new]
  have o1 : ∀ q : Nat, q < H.size → H1[q]? = H[q]? := fun q hq => by rw [← hH1, Array.getElem?_push, if_neg (Nat.ne_of_lt hq)]
  refine kk H.size H1 _ ls (aH_push i1 h0 ?_ o1) (aIn_push i2 (cx.2.2.2.2.2.2.1 _ i3.1)) ⟨Nat.le_trans i3.1 (by omega), fun x h1 h2 => (o1 x (Nat.lt_of_lt_of_le h1 i3.1)).trans (i3.2.1 x h1 h2), i3.2.2⟩ i4
  show H1[H.size]? = some (vp_cell _ _)
  rw [vp_cell_q]
  exact e1
theorem a_objInit (cx : Cx l g p s m args meth c A cc nL own) {idx a : Nat} (hl : Cond.methodLink own idx objectInit ∈ TW) (hRf : 1 ≤ R.frames) (hst : (st.map fun v => v.category).sum + 12 ≤ R.locals) (d : decode cc pc = .ok (.invokespecial idx, 3)) (kk : AW l g p e R s m args below meth c A nL Q ad τ cells slots (pc + 3) lv st) : AW l g p e R s m args below meth c A nL Q ad τ cells slots pc lv (.ref a :: st) := fun H locs ls i1 i2 i3 i4 =>
  W.objInit cx.1 cx.2.1 cx.2.2.2.1 (cx.2.2.2.2.1 _ hl) (cx.2.2.2.2.1 _ im_objectInit) (cx.2.2.2.2.1 _ cd_objectInit) rfl (i4.1.trans cx.2.2.1.symm) rfl d hRf (by simp only [F0, JFrame.monitorRoom] at *; simpa using hst) (kk H locs ls i1 i2 i3 i4)
end BROWS
