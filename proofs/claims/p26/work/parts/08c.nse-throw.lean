section NST
variable {l : Launch} {g : GW} {p : Program} {e : Env} {R : Room} {s : State} {m : MethodId} {args : Array Value} {below : List Frame} {meth : Method} {c : Code} {A : Nat → Prop} {cc : ByteArray} {nL : Nat} {Q : State → Prop} {ad : AD} {τ : RH} {cells slots pc : Nat} {lv : LV} {st : List Value} {mc ms : Nat}
variable {P : Option Value → AD → RH → Prop} {X : String → AD → RH → Prop}
theorem nse_mem : (∀ w ∈ nse_at RX3 139, w ∈ TW ∨ w ∈ BW) ∧ ∀ w ∈ nse_at RX3 139, vx_ot w = true := by decide +kernel
/-- 'throw new NoSuchElementException("text")' -/
theorem a_throwN (cx : Cx l g p s m args meth c A cc nL RX3) (text : String) {is : Nat} (hout : ∀ x ∈ c.exceptionTable.toList, False) (htx : (RX3, is, text) ∈ SL)
    (d0 : decode cc pc = .ok (.new 135, 3)) (d3 : decode cc (pc + 3) = .ok (.dup, 1)) (d4 : decode cc (pc + 4) = .ok (.ldc is, 2)) (d6 : decode cc (pc + 6) = .ok (.invokespecial 139, 3)) (d9 : decode cc (pc + 9) = .ok (.athrow, 1))
    (hRf : 2 + 3 < R.frames) (hRl : (st.map fun v => v.category).sum + (13 * (2 + 1) + 43) ≤ R.locals) (hRc : cells + 1 ≤ R.cells) (hRs : slots + 6 ≤ R.slots) (hc : cells + 1 ≤ mc) (hs : slots + 6 ≤ ms) (hX : X "java/util/NoSuchElementException" ad τ) : AW l g p e R s m args below meth c A nL (vx_MQ below (aQ g P A) (aX g X A) args s mc ms A) ad τ cells slots pc lv st := by
  intro H locs ls i1 i2 i3 i4
  have hts := cx.2.2.2.2.1
  have hG := cx.2.2.2.2.2.1
  have hown := cx.2.2.2.1
  have hexec := cx.1
  obtain ⟨sa, hsa⟩ := hG.2.2.2.2.2.2.1 _ htx
  have hbw : ∀ w ∈ BW, w.onTables = true := fun w hw => by
    have hb := (List.mem_filter.mp hw).2
    cases w <;> first | rfl | (simp [bw_is] at hb)
  have hat : ∀ w ∈ nse_at RX3 139, w.before args s = true := fun w hw => by
    rcases nse_mem.1 w hw with h | h
    · exact hts w h
    · exact va_Nw.use (hbw w h) (hG.2.2.2.2.2.1 w h)
  intro T hT X9
  have htr : e.platform.stackTraces = false := (show e.platform.stackTraces = l.stackTraces by rw [X9.admits.platform]).trans cx.2.2.2.2.2.2.2.2
  have Y := vx_rebase X9 (R' := { frames := R.frames, locals := R.locals, cells := 1, slots := 6 }) (Nat.le_refl _) (Nat.le_refl _) hRc hRs
  obtain ⟨s', hA⟩ : ∃ z, z = (T.setVm s.vm).setFrames (.invoking m args :: below) := ⟨_, rfl⟩
  rw [← hA] at Y
  have hvm : s'.vm = s.vm := by rw [hA]; rfl
  have hhp : s'.heap = H := by rw [hA]; exact hT
  have hW0 : s.WarmedH s'.vm := by rw [hvm]; exact State.WarmedH.refl s
  have hat' : ∀ w ∈ nse_at RX3 139, w.before args s' = true := fun w hw => vx_ot_at hW0 hvm.symm (nse_mem.2 w hw) (hat w hw)
  have hk' : (Cond.classLink RX3 135 nse_X).before args s' = true := vx_ot_at hW0 hvm.symm rfl (hts _ cl_X3_135)
  have hini' : (Cond.initialized nse_X).before args s' = true := vx_ot_at hW0 hvm.symm rfl (hts _ ini_NoSuchElementException)
  have hU' : vx_Zq Bundle.tN "UNASSIGNED_STACK" Bundle.steD A s' s'.heap := by rw [hhp]; exact vx_Zq.moved hW0.alike (hG.2.1.kept i3.2.1)
  have hN' : vx_Zq Bundle.tN "SUPPRESSED_SENTINEL" Bundle.listD A s' s'.heap := by rw [hhp]; exact vx_Zq.moved hW0.alike (hG.2.2.1.kept i3.2.1)
  have h : ∀ w ∈ nse_atoms RX3 139, w.before args s' = true := vx_own hat' (vx_isRefq hU'.1) (vx_isRefq hN'.1) hU'.2.word hN'.2.word
  have hown' : s'.vm.findClass RX3 = some m.cls := by rw [hvm]; exact hown
  have hins : (Cond.instantiable nse_X 6).before args s' = true := h _ (by simp [nse_atoms])
  obtain ⟨vm₁, cX, kX, hfX, hkX, -, -, X₁, st1⟩ := Y.newCold hexec (own := RX3) (C := nse_X) (index := 135) (n := 6) hown' hk' hins hini'
    (g := F0 m pc ls st) rfl (by rw [cx.2.1]; exact d0) (Nat.le_refl _) (Nat.le_refl _)
  generalize hT1 : (T.setVm vm₁).pushCell { cls := cX, slots := kX.instanceTypes.map defaultValue, vm := .none } = T1 at X₁ st1
  have hcat : (Value.ref T.heap.size).category = 1 := rfl
  have hcellA : T1.heap[T.heap.size]? = some (freshCell cX kX) := by rw [← hT1]; exact State.heap_pushCell_size _ _
  have d3' : decode c.code (pc + 3) = .ok (.dup, 1) := by rw [cx.2.1]; exact d3
  have d4' : decode c.code (pc + 4) = .ok (.ldc is, 2) := by rw [cx.2.1]; exact d4
  have hstr' : vk_R RX3 is text sa s' := vk_R.warm hW0 hsa
  obtain ⟨U, hsteps, hrun, hend, hW, hsame, ce, hce, hcv, hcl0⟩ := nse_ctor X₁ hexec htr (own := RX3) (ic := 139) hown' h (fun x hx => nomatch hx) hfX hkX hcellA (by rw [hhp, hT]; exact Nat.le_refl _) (msg := .ref sa) rfl
    (g := { method := m, pc := pc + 6, locals := ls, stack := .ref sa :: .ref T.heap.size :: .ref T.heap.size :: st, locked := none }) rfl (i4.1.trans cx.2.2.1.symm) rfl rfl (rest := st) rfl
    (by rw [cx.2.1]; exact d6) (by rw [cx.2.1]; exact d9) (fun x hx => (hout x hx).elim) hRf (by simp only [List.map_cons, List.sum_cons, hcat]; omega) cx.2.2.2.2.2.2.2.1
  obtain ⟨f1, f2⟩ := vx_frame hsame
  rw [hhp] at f1 f2
  have hWs : s.WarmedH U.vm := State.WarmedH.trans hW0 hW
  have hcl : s.vm.findClass nse_X = some ce.cls := by rw [hvm] at hcl0; exact hcl0
  have hall : s.sameButNew ({ U with vm := s.vm } : State) locs mc ms := by
    subst hA
    obtain ⟨e1, e2⟩ := hsame
    rw [State.setFrames_setFrames] at e1
    have h2 : (T.setVm s.vm).sameButNew ({ U with vm := s.vm } : State) [] (0 + 1) (0 + 6) := ⟨e1, e2⟩
    have h3 := X9.same.trans h2
    rw [List.append_nil] at h3
    exact h3.mono hc hs
  have hq : ∀ q : Nat, q < H.size → U.heap[q]? = H[q]? := fun q hq => f2 q hq (fun z hz => nomatch hz)
  refine ⟨U, ?_, .threw T.heap.size, hrun, hend, Or.inr ⟨T.heap.size, rfl, nse_X, ce, locs, ⟨⟨ad, τ, hX, aH_kept i1 hq, i2⟩, Nat.le_trans i3.1 f1, fun q h1 h2 => (hq q (Nat.lt_of_lt_of_le h1 i3.1)).trans (i3.2.1 q h1 h2)⟩, hce, hcv, hcl, hWs, hall, i3.2.2⟩⟩
  refine st1 _ ?_
  show Steps p.tables e below (T1.setTop { method := m, pc := pc + 3, locals := ls, stack := .ref T.heap.size :: st, locked := none }) _
  jvm_step X₁.here [X₁.here.top, hexec, d3', Value.category]
  exact X₁.ldcString hexec (own := RX3) (text := text) (index := is) (a := sa) hown' hstr'.1 hstr'.2
    (g := { method := m, pc := pc + 4, locals := ls, stack := .ref T.heap.size :: .ref T.heap.size :: st, locked := none }) rfl d4' _ hsteps
end NST
