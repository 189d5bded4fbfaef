section CROWS
variable {l : Launch} {g : GW} {p : Program} {e : Env} {R : Room} {s : State} {m : MethodId} {args : Array Value} {below : List Frame} {meth : Method} {c : Code} {A : Nat → Prop} {cc : ByteArray} {nL : Nat} {own : String} {Q : State → Prop} {ad : AD} {τ : RH} {cells slots pc : Nat} {lv : LV} {st : List Value}
variable {P : Option Value → AD → RH → Prop} {X : String → AD → RH → Prop}
/-- behind a call: its return, or its exception, in abstract frames -/
theorem a_back (cx : Cx l g p s m args meth c A cc nL own) {H : Heap} {locs : List Loc} {ls : Array Slot} {mc ms : Nat} {a : Array Value} {st0 rest : List Value} (i1 : aH g ad τ H) (i2 : aIn ad τ A) (i3 : va_S A s.heap H locs) (i4 : lH ls nL lv)
    (hr : vx_Run p l e R s m args below meth c H locs cells slots mc ms (F0 m pc ls st0) rest (aQ g P (aA ad τ H.size) a) (aX g X (aA ad τ H.size)) (aA ad τ H.size))
    (kx : ∀ E ad' τ', X E ad' τ' → AX l g p e R s m args below meth c A nL Q ad' τ' (cells + mc) (slots + ms) pc lv E)
    (kk : ∀ v ad' τ', P v ad' τ' → AW l g p e R s m args below meth c A nL Q ad' τ' (cells + mc) (slots + ms) (pc + 3) lv (v.toList ++ rest)) : W p l e R s m args below meth c H locs cells slots Q (F0 m pc ls st0) := by
  have hs := aA_sub cx i2 i3
  intro T hT X9
  rcases hr T hT X9 with ⟨v, st₀, t, T', L, h0, X', hL, e1, e2, ⟨⟨v', ad', τ', hv, hp, hh, hin⟩, hF⟩, stp⟩ | ⟨q, st₀, t, T', L, E, ce, h0, X', hL, e1, e2, ⟨⟨ad', τ', hx, hh, hin⟩, hF⟩, hce, hcv, hcl, stp⟩
  · cases hv
    obtain ⟨k1, k2, k3⟩ := vx_keep h0 e1 i3 (fun q _ h => hs q h) hs hL hF
    obtain ⟨t2, a1, b1⟩ := kk v ad' τ' hp T'.heap (locs ++ L) ls (by rw [e1]; exact hh) (fun r e9 h9 => hs _ (hin r e9 h9)) k3 i4 T' rfl X'
    exact ⟨t2, stp t2 a1, b1⟩
  · obtain ⟨k1, k2, k3⟩ := vx_keep h0 e1 i3 (fun q _ h => hs q h) hs hL hF
    obtain ⟨t2, a1, b1⟩ := kx E ad' τ' hx T'.heap (locs ++ L) ls ce q rest (by rw [e1]; exact hh) (fun r e9 h9 => hs _ (hin r e9 h9)) k3 i4 (by rw [e1]; exact hce) hcv hcl T' rfl X'
    exact ⟨t2, stp.trans a1, b1⟩
theorem a_callV (cx : Cx l g p s m args meth c A cc nL own) {C : String} {T : u_T} {N ci index maxL mc ms r : Nat} {y : MethodName} {bytes : ByteArray} {ret : Option FieldType} {rm : Room} {As st0 rest fs : List Value} (n : Nat)
    (sp : Sp l g y (.code y bytes maxL ret) rm (.ref (ad r) :: As) ad τ mc ms P X) (hτ : τ r = some (.inr (ci, fs))) (hc : vwCl[ci]? = some (C, T, N))
    (h1 : Cond.methodLink own index y ∈ TW) (h2 : Cond.instanceMethod y ∈ TW) (h3 : Cond.selects C y y ∈ TW) (h4 : Cond.initialized C ∈ TW) (h5 : Cond.code y bytes maxL ret ∈ TW)
    (hst : st0 = As.reverse ++ .ref (ad r) :: rest) (hn : As.length = n) (hd : y.cls = C ∧ y.cls ≠ "java/lang/invoke/MethodHandle" ∧ y.cls ≠ "java/lang/invoke/VarHandle" ∧ (parseMethodDescriptor y.desc).map (fun d => d.parameters.length) = some n)
    (hrc : rm.cells = mc) (hrs : rm.slots = ms) (hR : rm.frames + 1 ≤ R.frames ∧ 8 + (maxL + 11) + rm.locals ≤ R.locals) (hW : (rest.map fun v => v.category).sum ≤ 8) (d : decode cc pc = .ok (.invokevirtual index, 3)) (hf : cells + mc ≤ R.cells ∧ slots + ms ≤ R.slots)
    (kx : ∀ E ad' τ', X E ad' τ' → AX l g p e R s m args below meth c A nL Q ad' τ' (cells + mc) (slots + ms) pc lv E)
    (kk : ∀ v ad' τ', P v ad' τ' → AW l g p e R s m args below meth c A nL Q ad' τ' (cells + mc) (slots + ms) (pc + 3) lv (v.toList ++ rest)) : AW l g p e R s m args below meth c A nL Q ad τ cells slots pc lv st0 := by
  intro H locs ls i1 i2 i3 i4
  subst hst
  exact a_back cx i1 i2 i3 i4 (vx_runV (As := As) (rest := rest) (g := F0 m pc ls (As.reverse ++ .ref (ad r) :: rest)) ⟨cx.1, cx.2.1, cx.2.2.1, cx.2.2.2.1, cx.2.2.2.2.1⟩ (sp cx.2.2.2.2.2.2.2.2 H.size) (cwV n cx.2.2.2.2.1 (gi_V h1 h2 h3 h4 h5) rfl hrc hrs hd hR) ⟨aPc_blind, va_recv (cx_K cx) (aW1 (i1.1 r _ hτ)) (q0 := 0) hc rfl, aPc_of cx i1 i2 i3 (.ref (ad r) :: As)⟩ rfl hn i4.1 rfl (lv_room hW) d hf) kx kk
theorem a_callS (cx : Cx l g p s m args meth c A cc nL own) {index maxL mc ms : Nat} {y : MethodName} {bytes : ByteArray} {ret : Option FieldType} {rm : Room} {As st0 rest : List Value} (n : Nat)
    (sp : Sp l g y (.code y bytes maxL ret) rm As ad τ mc ms P X)
    (h1 : Cond.methodLink own index y ∈ TW) (h2 : Cond.static y ∈ TW) (h4 : Cond.initialized y.cls ∈ TW) (h5 : Cond.code y bytes maxL ret ∈ TW)
    (hst : st0 = As.reverse ++ rest) (hn : As.length = n) (hd : y.cls ≠ "java/lang/invoke/MethodHandle" ∧ y.cls ≠ "java/lang/invoke/VarHandle" ∧ (parseMethodDescriptor y.desc).map (fun d => d.parameters.length) = some n)
    (hrc : rm.cells = mc) (hrs : rm.slots = ms) (hR : rm.frames + 1 ≤ R.frames ∧ 8 + (maxL + 11) + rm.locals ≤ R.locals) (hW : (rest.map fun v => v.category).sum ≤ 8) (d : decode cc pc = .ok (.invokestatic index, 3)) (hf : cells + mc ≤ R.cells ∧ slots + ms ≤ R.slots)
    (kx : ∀ E ad' τ', X E ad' τ' → AX l g p e R s m args below meth c A nL Q ad' τ' (cells + mc) (slots + ms) pc lv E)
    (kk : ∀ v ad' τ', P v ad' τ' → AW l g p e R s m args below meth c A nL Q ad' τ' (cells + mc) (slots + ms) (pc + 3) lv (v.toList ++ rest)) : AW l g p e R s m args below meth c A nL Q ad τ cells slots pc lv st0 := by
  intro H locs ls i1 i2 i3 i4
  subst hst
  exact a_back cx i1 i2 i3 i4 (vx_runS (As := As) (rest := rest) (g := F0 m pc ls (As.reverse ++ rest)) ⟨cx.1, cx.2.1, cx.2.2.1, cx.2.2.2.1, cx.2.2.2.2.1⟩ (sp cx.2.2.2.2.2.2.2.2 H.size) (va_cwS n cx.2.2.2.2.1 (gi_S h1 h2 h4 h5) rfl hrc hrs hd hR) ⟨aPc_blind, aPc_of cx i1 i2 i3 As⟩ rfl hn i4.1 rfl (lv_room hW) d hf) kx kk
theorem a_callSH (cx : Cx l g p s m args meth c A cc nL own) {index maxL mc ms : Nat} {y : MethodName} {bytes : ByteArray} {ret : Option FieldType} {hh : List (Nat × Nat × Nat × Nat)} {rm : Room} {As st0 rest : List Value} (n : Nat)
    (sp : Sp l g y (.codeWith y bytes maxL ret hh) rm As ad τ mc ms P X)
    (h1 : Cond.methodLink own index y ∈ TW) (h2 : Cond.static y ∈ TW) (h4 : Cond.initialized y.cls ∈ TW) (h5 : Cond.codeWith y bytes maxL ret hh ∈ TW)
    (hst : st0 = As.reverse ++ rest) (hn : As.length = n) (hd : y.cls ≠ "java/lang/invoke/MethodHandle" ∧ y.cls ≠ "java/lang/invoke/VarHandle" ∧ (parseMethodDescriptor y.desc).map (fun d => d.parameters.length) = some n)
    (hrc : rm.cells = mc) (hrs : rm.slots = ms) (hR : rm.frames + 1 ≤ R.frames ∧ 8 + (maxL + 11) + rm.locals ≤ R.locals) (hW : (rest.map fun v => v.category).sum ≤ 8) (d : decode cc pc = .ok (.invokestatic index, 3)) (hf : cells + mc ≤ R.cells ∧ slots + ms ≤ R.slots)
    (kx : ∀ E ad' τ', X E ad' τ' → AX l g p e R s m args below meth c A nL Q ad' τ' (cells + mc) (slots + ms) pc lv E)
    (kk : ∀ v ad' τ', P v ad' τ' → AW l g p e R s m args below meth c A nL Q ad' τ' (cells + mc) (slots + ms) (pc + 3) lv (v.toList ++ rest)) : AW l g p e R s m args below meth c A nL Q ad τ cells slots pc lv st0 := by
  intro H locs ls i1 i2 i3 i4
  subst hst
  exact a_back cx i1 i2 i3 i4 (vx_runSX (hh := hh) (As := As) (rest := rest) (g := F0 m pc ls (As.reverse ++ rest)) ⟨cx.1, cx.2.1, cx.2.2.1, cx.2.2.2.1, cx.2.2.2.2.1⟩ (sp cx.2.2.2.2.2.2.2.2 H.size) (vx_cwSW n cx.2.2.2.2.1 (gi_S h1 h2 h4 h5) rfl hrc hrs hd hR) ⟨aPc_blind, aPc_of cx i1 i2 i3 As⟩ rfl hn i4.1 rfl (lv_room hW) d hf) kx kk
/-- a contract that throws nothing, in the kit's own form -/
theorem Sp.met {y : MethodName} {cw : Cond} {rm : Room} {As : List Value} {mc ms : Nat} (sp : Sp l g y cw rm As ad τ mc ms P (fun _ _ _ => False)) (hl : l.stackTraces = false) (sz : Nat) : Met l y (cw :: TW) rm (aPc g As ad τ sz) (aQ g P (aA ad τ sz)) mc ms (aA ad τ sz) := by
  have h := sp hl sz
  intro p e ha hc hk s m args below hf happ hP hW
  obtain ⟨k, o, h1, h2, h3, h4⟩ := h p e ha hc hk s m args below hf happ hP hW
  rcases h4 with h4 | ⟨q, -, E, ce, L, ⟨⟨_, _, hx, -⟩, -⟩, -⟩
  · exact ⟨k, o, h1, h2, h3, h4⟩
  · exact hx.elim
theorem a_backM (cx : Cx l g p s m args meth c A cc nL own) {H : Heap} {locs : List Loc} {ls : Array Slot} {mc ms : Nat} {a : Array Value} {st0 rest : List Value} (i1 : aH g ad τ H) (i2 : aIn ad τ A) (i3 : va_S A s.heap H locs) (i4 : lH ls nL lv)
    (hr : va_Run p l e R s m args below meth c H locs cells slots mc ms (F0 m pc ls st0) rest (aQ g P (aA ad τ H.size) a) (aA ad τ H.size))
    (kk : ∀ v ad' τ', P v ad' τ' → AW l g p e R s m args below meth c A nL Q ad' τ' (cells + mc) (slots + ms) (pc + 3) lv (v.toList ++ rest)) : W p l e R s m args below meth c H locs cells slots Q (F0 m pc ls st0) := by
  have hs := aA_sub cx i2 i3
  intro T hT X9
  obtain ⟨v, st₀, t, T', L, h0, X', hL, e1, e2, ⟨⟨v', ad', τ', hv, hp, hh, hin⟩, hF⟩, stp⟩ := hr T hT X9
  cases hv
  obtain ⟨k1, k2, k3⟩ := vx_keep h0 e1 i3 (fun q _ h => hs q h) hs hL hF
  obtain ⟨t2, a1, b1⟩ := kk v ad' τ' hp T'.heap (locs ++ L) ls (by rw [e1]; exact hh) (fun r e9 h9 => hs _ (hin r e9 h9)) k3 i4 T' rfl X'
  exact ⟨t2, stp t2 a1, b1⟩
theorem a_callI (cx : Cx l g p s m args meth c A cc nL own) {index maxL mc ms b : Nat} {y : MethodName} {bytes : ByteArray} {rm : Room} {As st0 rest : List Value} (n : Nat)
    (sp : Sp l g y (.code y bytes maxL none) rm (.ref b :: As) ad τ mc ms P (fun _ _ _ => False))
    (h1 : Cond.methodLink own index y ∈ TW) (h2 : Cond.instanceMethod y ∈ TW) (h4 : Cond.initialized y.cls ∈ TW) (h5 : Cond.code y bytes maxL none ∈ TW) (hy1 : y.name = "<init>")
    (hst : st0 = As.reverse ++ .ref b :: rest) (hn : As.length = n) (hd : y.cls ≠ "java/lang/invoke/MethodHandle" ∧ y.cls ≠ "java/lang/invoke/VarHandle" ∧ (parseMethodDescriptor y.desc).map (fun d => d.parameters.length) = some n)
    (hrc : rm.cells = mc) (hrs : rm.slots = ms) (hR : rm.frames + 1 ≤ R.frames ∧ 8 + (maxL + 11) + rm.locals ≤ R.locals) (hW : (rest.map fun v => v.category).sum ≤ 8) (d : decode cc pc = .ok (.invokespecial index, 3)) (hf : cells + mc ≤ R.cells ∧ slots + ms ≤ R.slots)
    (kk : ∀ v ad' τ', P v ad' τ' → AW l g p e R s m args below meth c A nL Q ad' τ' (cells + mc) (slots + ms) (pc + 3) lv (v.toList ++ rest)) : AW l g p e R s m args below meth c A nL Q ad τ cells slots pc lv st0 := by
  intro H locs ls i1 i2 i3 i4
  subst hst
  have hts := cx.2.2.2.2.1
  exact a_backM cx i1 i2 i3 i4 (va_runI (As := As) (rest := rest) (g := F0 m pc ls (As.reverse ++ .ref b :: rest)) ⟨cx.1, cx.2.1, cx.2.2.1, cx.2.2.2.1, cx.2.2.2.2.1⟩ (sp.met cx.2.2.2.2.2.2.2.2 H.size) (cwI n hts (gi_I h5) rfl hrc hrs (hts _ h4) (hts _ h1) (hts _ h2) hy1 hd hR) ⟨aPc_blind, aPc_of cx i1 i2 i3 (.ref b :: As)⟩ rfl hn i4.1 rfl (lv_room hW) d hf) kk
/-- .. of a nest mate's private constructor -/
theorem a_callIN (cx : Cx l g p s m args meth c A cc nL own) {index maxL mc ms b : Nat} {host : String} {y : MethodName} {bytes : ByteArray} {rm : Room} {As st0 rest : List Value} (n : Nat)
    (sp : Sp l g y (.code y bytes maxL none) rm (.ref b :: As) ad τ mc ms P (fun _ _ _ => False))
    (h1 : Cond.methodLinkNest own index y host ∈ BW) (h2 : Cond.instanceMethod y ∈ TW) (h4 : Cond.initialized y.cls ∈ TW) (h5 : Cond.code y bytes maxL none ∈ TW) (hy1 : y.name = "<init>")
    (hst : st0 = As.reverse ++ .ref b :: rest) (hn : As.length = n) (hd : y.cls ≠ "java/lang/invoke/MethodHandle" ∧ y.cls ≠ "java/lang/invoke/VarHandle" ∧ (parseMethodDescriptor y.desc).map (fun d => d.parameters.length) = some n)
    (hrc : rm.cells = mc) (hrs : rm.slots = ms) (hR : rm.frames + 1 ≤ R.frames ∧ 8 + (maxL + 11) + rm.locals ≤ R.locals) (hW : (rest.map fun v => v.category).sum ≤ 8) (d : decode cc pc = .ok (.invokespecial index, 3)) (hf : cells + mc ≤ R.cells ∧ slots + ms ≤ R.slots)
    (kk : ∀ v ad' τ', P v ad' τ' → AW l g p e R s m args below meth c A nL Q ad' τ' (cells + mc) (slots + ms) (pc + 3) lv (v.toList ++ rest)) : AW l g p e R s m args below meth c A nL Q ad τ cells slots pc lv st0 := by
  intro H locs ls i1 i2 i3 i4
  subst hst
  have hts := cx.2.2.2.2.1
  exact a_backM cx i1 i2 i3 i4 (va_runIN (As := As) (rest := rest) (g := F0 m pc ls (As.reverse ++ .ref b :: rest)) ⟨cx.1, cx.2.1, cx.2.2.1, cx.2.2.2.1, cx.2.2.2.2.1⟩ (sp.met cx.2.2.2.2.2.2.2.2 H.size) ⟨va_cnB n hts (gi_I h5) rfl hrc hrs (cx.2.2.2.2.2.1.2.2.2.2.2.1 _ h1) (hts _ h4) hd hR, hy1, hts _ h2⟩ ⟨aPc_blind, aPc_of cx i1 i2 i3 (.ref b :: As)⟩ rfl hn i4.1 rfl (lv_room hW) d hf) kk
section ENDS
variable {mc ms : Nat}
theorem a_iret (cx : Cx l g p s m args meth c A cc nL own) {v : Int32} (hr : meth.sig.returnType = some .int) (d : decode cc pc = .ok (.ireturn, 1)) (hc : cells ≤ mc) (hs : slots ≤ ms) (hP : P (some (.int v)) ad τ) : AW l g p e R s m args below meth c A nL (vx_MQ below (aQ g P A) (aX g X A) args s mc ms A) ad τ cells slots pc lv [.int v] := fun H locs ls i1 i2 i3 i4 =>
  W.widen hc hs (vx_ret (W.iret cx.1 cx.2.1 hr (fun t ht hW => ⟨⟨_, ad, τ, rfl, hP, by rw [ht]; exact i1, i2⟩, i3.F ht⟩) i3.2.2 d cx.2.2.2.2.2.2.2.1))
theorem a_zret (cx : Cx l g p s m args meth c A cc nL own) {v : Int32} {ty : FieldType} (hr : meth.sig.returnType = some ty) (d : decode cc pc = .ok (.ireturn, 1)) (hn : narrow ty (.int v) = .int v) (hc : cells ≤ mc) (hs : slots ≤ ms) (hP : P (some (.int v)) ad τ) : AW l g p e R s m args below meth c A nL (vx_MQ below (aQ g P A) (aX g X A) args s mc ms A) ad τ cells slots pc lv [.int v] := fun H locs ls i1 i2 i3 i4 =>
  W.widen hc hs (vx_ret (W.zret cx.1 cx.2.1 hr hn (fun t ht hW => ⟨⟨_, ad, τ, rfl, hP, by rw [ht]; exact i1, i2⟩, i3.F ht⟩) i3.2.2 d cx.2.2.2.2.2.2.2.1))
theorem a_aret (cx : Cx l g p s m args meth c A cc nL own) {v : Value} {ty : FieldType} (hr : meth.sig.returnType = some ty) (d : decode cc pc = .ok (.areturn, 1)) (hrt : (∃ n, ty = .object n) ∨ ∃ t, ty = .array t) (hv : v = .null ∨ ∃ a, v = .ref a) (hc : cells ≤ mc) (hs : slots ≤ ms) (hP : P (some v) ad τ) : AW l g p e R s m args below meth c A nL (vx_MQ below (aQ g P A) (aX g X A) args s mc ms A) ad τ cells slots pc lv [v] := fun H locs ls i1 i2 i3 i4 =>
  W.widen hc hs (vx_ret (W.aret cx.1 cx.2.1 hr hrt hv (fun t ht hW => ⟨⟨_, ad, τ, rfl, hP, by rw [ht]; exact i1, i2⟩, i3.F ht⟩) i3.2.2 d cx.2.2.2.2.2.2.2.1))
theorem a_vret (cx : Cx l g p s m args meth c A cc nL own) (hr : meth.sig.returnType = none) (d : decode cc pc = .ok (.return_, 1)) (hc : cells ≤ mc) (hs : slots ≤ ms) (hP : P none ad τ) : AW l g p e R s m args below meth c A nL (vx_MQ below (aQ g P A) (aX g X A) args s mc ms A) ad τ cells slots pc lv [] := fun H locs ls i1 i2 i3 i4 =>
  W.widen hc hs (vx_ret (W.vret cx.1 cx.2.1 hr (fun t ht hW => ⟨⟨_, ad, τ, rfl, hP, by rw [ht]; exact i1, i2⟩, i3.F ht⟩) i3.2.2 d cx.2.2.2.2.2.2.2.1))
theorem a_fret (cx : Cx l g p s m args meth c A cc nL own) {v : UInt32} (hr : meth.sig.returnType = some .float) (d : decode cc pc = .ok (.freturn, 1)) (hc : cells ≤ mc) (hs : slots ≤ ms) (hP : P (some (.float v)) ad τ) : AW l g p e R s m args below meth c A nL (vx_MQ below (aQ g P A) (aX g X A) args s mc ms A) ad τ cells slots pc lv [.float v] := fun H locs ls i1 i2 i3 i4 =>
  W.widen hc hs (vx_ret (W.fret cx.1 cx.2.1 hr (fun t ht hW => ⟨⟨_, ad, τ, rfl, hP, by rw [ht]; exact i1, i2⟩, i3.F ht⟩) i3.2.2 d cx.2.2.2.2.2.2.2.1))
theorem a_dret (cx : Cx l g p s m args meth c A cc nL own) {v : UInt64} (hr : meth.sig.returnType = some .double) (d : decode cc pc = .ok (.dreturn, 1)) (hc : cells ≤ mc) (hs : slots ≤ ms) (hP : P (some (.double v)) ad τ) : AW l g p e R s m args below meth c A nL (vx_MQ below (aQ g P A) (aX g X A) args s mc ms A) ad τ cells slots pc lv [.double v] := fun H locs ls i1 i2 i3 i4 =>
  W.widen hc hs (vx_ret (W.dret cx.1 cx.2.1 hr (fun t ht hW => ⟨⟨_, ad, τ, rfl, hP, by rw [ht]; exact i1, i2⟩, i3.F ht⟩) i3.2.2 d cx.2.2.2.2.2.2.2.1))
/-- an exception that this method doesn't catch -/
theorem a_out (cx : Cx l g p s m args meth c A cc nL own) {E : String} (hout : ∀ x ∈ c.exceptionTable.toList, False) (hc : cells ≤ mc) (hs : slots ≤ ms) (hX : X E ad τ) : AX l g p e R s m args below meth c A nL (vx_MQ below (aQ g P A) (aX g X A) args s mc ms A) ad τ cells slots pc lv E := fun H locs ls ce q rest i1 i2 i3 i4 i5 i6 i7 =>
  vx_out (fun x hx => (hout x hx).elim) cx.2.2.2.2.2.2.2.1 i5 i6 i7 (fun t ht hW => ⟨⟨ad, τ, hX, by rw [ht]; exact i1, i2⟩, i3.F ht⟩) i3.2.2 hc hs
/-- 'throw new E("text")' -/
theorem a_throw (cx : Cx l g p s m args meth c A cc nL own) {cls : String} (text : String) (names : List String) {ik is ic : Nat} (hout : ∀ x ∈ c.exceptionTable.toList, False) (hcls : Bundle.fit cls = true) (hnames : ∀ n ∈ names, Bundle.fit n = true)
    (hk : Cond.classLink own ik cls ∈ TW) (hini : Cond.initialized cls ∈ TW) (hat : ∀ w ∈ vx_atS own ic cls names, w ∈ TW ∨ w ∈ BW) (hgood : ∀ w ∈ vx_atS own ic cls names, vx_ot w = true) (htx : (own, is, text) ∈ SL)
    (d0 : decode cc pc = .ok (.new ik, 3)) (d3 : decode cc (pc + 3) = .ok (.dup, 1)) (d4 : decode cc (pc + 4) = .ok (.ldc is, 2)) (d6 : decode cc (pc + 6) = .ok (.invokespecial ic, 3)) (d9 : decode cc (pc + 9) = .ok (.athrow, 1))
    (hRf : names.length + 3 < R.frames) (hRl : (st.map fun v => v.category).sum + (13 * (names.length + 1) + 43) ≤ R.locals) (hRc : cells + 1 ≤ R.cells) (hRs : slots + 6 ≤ R.slots) (hc : cells + 1 ≤ mc) (hs : slots + 6 ≤ ms) (hX : X cls ad τ) : AW l g p e R s m args below meth c A nL (vx_MQ below (aQ g P A) (aX g X A) args s mc ms A) ad τ cells slots pc lv st := by
  intro H locs ls i1 i2 i3 i4
  have hts := cx.2.2.2.2.1
  have hG := cx.2.2.2.2.2.1
  obtain ⟨sa, hsa⟩ := hG.2.2.2.2.2.2.1 _ htx
  have hbw : ∀ w ∈ BW, w.onTables = true := fun w hw => by
    have hb := (List.mem_filter.mp hw).2
    cases w <;> first | rfl | (simp [bw_is] at hb)
  refine vx_throwS (names := names) (sa := sa) (text := text) cx.1 cx.2.1 cx.2.2.2.2.2.2.2.2 cx.2.2.2.1 hcls hnames (hts _ hk) (hts _ hini) hsa (fun w hw => ?_) (fun w hw => ?_) hG.2.1 hG.2.2.1 i3 (i4.1.trans cx.2.2.1.symm) d0 d3 d4 d6 d9 (fun x hx => (hout x hx).elim) hRf hRl hRc hRs cx.2.2.2.2.2.2.2.1 (fun t hv hz hq => ⟨⟨ad, τ, hX, aH_kept i1 hq, i2⟩, Nat.le_trans i3.1 hz, fun q h1 h2 => (hq q (Nat.lt_of_lt_of_le h1 i3.1)).trans (i3.2.1 q h1 h2)⟩) i3.2.2 hc hs
  · rcases hat w hw with h | h
    · exact hts w h
    · exact va_Nw.use (hbw w h) (hG.2.2.2.2.2.1 w h)
  · rcases List.mem_cons.mp hw with rfl | hw
    · rfl
    · rcases List.mem_cons.mp hw with rfl | hw
      · rfl
      · exact hgood w hw
end ENDS
/-- caught here -/
theorem a_catch (cx : Cx l g p s m args meth c A cc nL own) {E name : String} (pre : List ExceptionTableEntry) (x : ExceptionTableEntry) (suf : List ExceptionTableEntry) (hsplit : c.exceptionTable.toList = pre ++ x :: suf)
    (hpass : ∀ z ∈ pre, covers z pc = false ∨ (z.catchType ≠ 0 ∧ ∃ nm : String, Cond.classLink own z.catchType nm ∈ TW ∧ (E, nm) ∈ NC)) (hx : covers x pc = true) (h0 : x.catchType ≠ 0) (hlink : Cond.classLink own x.catchType name ∈ TW) (hcast : Cond.castable E name ∈ BW)
    (kk : ∀ q : Nat, AW l g p e R s m args below meth c A nL Q ad τ cells slots x.handlerPc lv [.ref q]) : AX l g p e R s m args below meth c A nL Q ad τ cells slots pc lv E := fun H locs ls ce q rest i1 i2 i3 i4 i5 i6 i7 =>
  vx_catch cx.2.2.2.1 pre x suf hsplit (fun z hz => (hpass z hz).elim Or.inl (fun ⟨h1, nm, h2, h3⟩ => Or.inr ⟨h1, nm, cx.2.2.2.2.1 _ h2, cx.2.2.2.2.2.1.2.2.2.2.2.2.2.2.1 _ h3⟩)) hx h0 (cx.2.2.2.2.1 _ hlink) (va_Nw.use rfl (cx.2.2.2.2.2.1.2.2.2.2.2.1 _ hcast)) i5 i6 i7 (kk q H locs ls i1 i2 i3 i4)
end CROWS
