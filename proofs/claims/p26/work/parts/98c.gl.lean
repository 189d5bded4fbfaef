section GLOB
theorem uw_J0 : ∀ w ∈ u_ws RJ0 TJ0 2, w ∈ TW := by decide +kernel
theorem uw_Jx00060 : ∀ w ∈ u_ws RJx00060 TJx00060 6, w ∈ TW := by decide +kernel
theorem sl_tbl : ∀ q ∈ SL, Cond.stringRef q.1 q.2.1 q.2.2 ∈ lw_tbl := by decide +kernel
theorem sl_own : ∀ q ∈ SL, q.1 = RX3 := by decide +kernel
theorem nc_nar : ∀ q ∈ NC, Cond.not (.castable q.1 q.2) ∈ flatC (Jvm.Cond.and given_1 narrow_1) := by decide +kernel
theorem arr_of {s : State} {args : Array Value} {ty : FieldType} (h : (Cond.arrayClass ty).before args s = true) : ∃ cA, ArrOfT s cA ty ∧ s.vm.findClass ("[" ++ ty.toString) = some cA := by
  obtain ⟨c, k, comp, h1, h2, h3⟩ := Cond.arrayClass_spec h
  exact ⟨c, fun n z => ⟨fun k h => (by cases h), k, h2, comp, h3⟩, h1⟩
/-- what the start gives of the tables, the statics, the texts -/
theorem lw_Gl {s : State} {b : Nat} (hts : ∀ w ∈ lw_tbl, w.before #[Value.ref b] s = true) (hgv : (Jvm.Cond.and given_1 narrow_1).before #[Value.ref b] s = true) {L : Nat} {xs : Nat → Int32} (hX : va_X b L xs s s.heap) (hbl : b < s.heap.size) (hL : L ≤ 260) : ∃ g : GW, g.2.2.2.1 = b ∧ Gl g (fun q => s.heap.size ≤ q) s s.heap := by
  have hA : ∀ a : Nat, a < s.heap.size → ¬ (fun q : Nat => s.heap.size ≤ q) a := fun a h => Nat.not_le.mpr h
  have hfl := flat_of_before _ hgv
  have hw : ∀ w ∈ TW, w.before #[Value.ref b] s = true := fun w h => hts w (tw_tbl h)
  obtain ⟨c0, i0, k0⟩ := u_known hw uw_J0 (hw _ ins_J0)
  obtain ⟨c1, i1, k1⟩ := u_known hw uw_Jx00060 (hw _ ins_Jx00060)
  obtain ⟨c2, i2, k2⟩ := u_known hw uw_Jx4a65c (hw _ ins_Jx4a65c)
  obtain ⟨c3, i3, k3⟩ := u_known hw uw_X0 (hw _ ins_X0)
  obtain ⟨c4, i4, k4⟩ := u_known hw uw_X1 (hw _ ins_X1)
  obtain ⟨c5, i5, k5⟩ := u_known hw uw_X2 (hw _ ins_X2)
  obtain ⟨c6, i6, k6⟩ := u_known hw uw_X3 (hw _ ins_X3)
  obtain ⟨dC, dI, hKc⟩ : ∃ (dC : Nat → ClassId) (dI : Nat → Nat → Nat), ∀ (k : Nat) (q : vw_C), vwCl[k]? = some q → u_Kn s q.1 q.2.1 q.2.2 (dC k) (dI k) := by
    refine ⟨fun k => if k = 0 then c0 else if k = 1 then c1 else if k = 2 then c2 else if k = 3 then c3 else if k = 4 then c4 else if k = 5 then c5 else c6, fun k => if k = 0 then i0 else if k = 1 then i1 else if k = 2 then i2 else if k = 3 then i3 else if k = 4 then i4 else if k = 5 then i5 else i6, ?_⟩
    intro k q hq
    match k, hq with
    | 0, hq => cases hq; exact k0
    | 1, hq => cases hq; exact k1
    | 2, hq => cases hq; exact k2
    | 3, hq => cases hq; exact k3
    | 4, hq => cases hq; exact k4
    | 5, hq => cases hq; exact k5
    | 6, hq => cases hq; exact k6
    | k + 7, hq => simp at hq
  obtain ⟨a0, u0, v0⟩ := arr_of (hw _ ac_char)
  obtain ⟨a1, u1, v1⟩ := arr_of (hw _ ac_int)
  obtain ⟨a2, u2, v2⟩ := arr_of (hw _ ac_boolean)
  have hao : (Cond.arrayOver (.object "java/lang/Object")).before #[Value.ref b] s = true := hts _ (by decide +kernel)
  obtain ⟨comp, a3, kA, w1, -, w3, w4, w5⟩ := Cond.arrayOver_spec hao
  have u3 : ArrOfT s a3 (.object "java/lang/Object") := fun n z => ⟨fun k h => (by cases h), kA, w3, comp, w4⟩
  have harr : (Cond.arrayOf (.static "java/util/ArrayList" "DEFAULTCAPACITY_EMPTY_ELEMENTDATA" "[Ljava/lang/Object;") (.object "java/lang/Object")).before #[Value.ref b] s = true := hfl _ (by decide +kernel)
  have heq : (Cond.eq (.length (.static "java/util/ArrayList" "DEFAULTCAPACITY_EMPTY_ELEMENTDATA" "[Ljava/lang/Object;")) (.int 0)).before #[Value.ref b] s = true := hfl _ (by decide +kernel)
  obtain ⟨y, y1, y2⟩ := Cond.eq_one heq
  have y3 : y = .int (Int32.ofNat 0) := by
    have e : (Term.int 0).eval #[Value.ref b] s none [] s = some (.int 0) := rfl
    exact Option.some.inj (y2.symm.trans e)
  obtain ⟨t, t1, t2⟩ := va_Tof (N := 0) (f := fun _ => .null) (by decide) harr (by rw [y1, y3]) (fun j h => absurd h (Nat.not_lt_zero j)) hA
  have hz := va_Zof (hts (.laysStatic "java/util/ArrayList" "DEFAULTCAPACITY_EMPTY_ELEMENTDATA" "[Ljava/lang/Object;") (by decide +kernel)) (hts (.initialized "java/util/ArrayList") (by decide +kernel)) t1 hA
  have hz1 := vx_Zqof (hts (.laysStatic Bundle.tN "UNASSIGNED_STACK" Bundle.steD) (by decide +kernel)) (hts (.initialized Bundle.tN) (by decide +kernel)) (hfl (.isRef (.static Bundle.tN "UNASSIGNED_STACK" Bundle.steD)) (by decide +kernel)) hA
  have hz2 := vx_Zqof (hts (.laysStatic Bundle.tN "SUPPRESSED_SENTINEL" Bundle.listD) (by decide +kernel)) (hts (.initialized Bundle.tN) (by decide +kernel)) (hfl (.isRef (.static Bundle.tN "SUPPRESSED_SENTINEL" Bundle.listD)) (by decide +kernel)) hA
  have hscr : va_T .int b L (fun j => .int (xs j)) (fun q => s.heap.size ≤ q) s s.heap := by
    obtain ⟨scr, x1, x2, x3, x4, x5⟩ := hX
    exact ⟨scr, x1, x2, x3, by omega, by rw [x4], x5, hA b hbl⟩
  have i0 : ∀ i : Nat, i < 1 → i = 0 := fun i h => by omega
  obtain ⟨adK, adV, hS1, hS2⟩ := vk_Sof (args := #[Value.ref b]) (s := s) (N := 1) (tm := fun _ => Term.string RL 145) (len := [5]) (byt := [[114, 99, 98, 98, 98]]) (A := fun q => s.heap.size ≤ q) (fun i h => by rw [i0 i h]; decide) (fun i h => hfl _ (by decide +kernel)) (fun i h => hfl _ (by decide +kernel)) (fun i h => hfl _ (by decide +kernel)) (fun i h => by rw [i0 i h]; exact hfl _ (by decide +kernel))
    (fun i h j hj => by
      rw [i0 i h] at hj ⊢
      replace hj : j < 5 := hj
      rcases (show j = 0 ∨ j = 1 ∨ j = 2 ∨ j = 3 ∨ j = 4 by omega) with q | q | q | q | q <;> subst q <;> exact hfl _ (by decide +kernel))
    (fun i j h h' hn => absurd ((i0 i h).trans (i0 j h').symm) hn) hA
  have hS3 : vk_S 1 [5] [[114, 99, 98, 98, 98]] (fun _ => adK 0) (fun _ => adV 0) (fun q => s.heap.size ≤ q) s s.heap := ⟨fun i h => by rw [i0 i h]; exact hS1.1 0 (by decide), fun i j h h' _ => (i0 i h).trans (i0 j h').symm⟩
  have hS4 : vk_R RL 145 "rcbbb" (adK 0) s := vk_R.of (hts (.stringRef RL 145 "rcbbb") (by decide +kernel)) (hS2 0 (by decide))
  have hcs := va_Zof (hts (.laysStatic "java/lang/String" "COMPACT_STRINGS" "Z") (by decide +kernel)) (hts (.initialized "java/lang/String") (by decide +kernel)) (va_eqt (hfl (.eq (.static "java/lang/String" "COMPACT_STRINGS" "Z") (.int 1)) (by decide +kernel))) hA
  have hsf := va_Zqof (hts (.laysStatic "jdk/internal/util/Preconditions" "SIOOBE_FORMATTER" "Ljava/util/function/BiFunction;") (by decide +kernel)) (hts (.initialized "jdk/internal/util/Preconditions") (by decide +kernel)) (hfl (.isRef (.static "jdk/internal/util/Preconditions" "SIOOBE_FORMATTER" "Ljava/util/function/BiFunction;")) (by decide +kernel)) hA
  refine ⟨((dC, dI), (fun k => if k = 0 then a0 else if k = 1 then a1 else if k = 2 then a2 else a3), t, b, L, xs, fun k => if k = 0 then adK 0 else adV 0), rfl, ⟨hKc, ?_⟩, hz1, hz2, hz, t2, fun w hbw => ?_, fun q hq => ?_, va_AO.of hao, fun q hq => va_Nc.of (hfl _ (nc_nar q hq)), ⟨hL, hscr⟩, ⟨hS3, hS4⟩, hcs, hsf⟩
  · intro k q hq
    match k, hq with
    | 0, hq => cases hq; exact ⟨u0, v0⟩
    | 1, hq => cases hq; exact ⟨u1, v1⟩
    | 2, hq => cases hq; exact ⟨u2, v2⟩
    | 3, hq => cases hq; exact ⟨u3, kA, comp, w3, w4, w1, w5⟩
    | k + 4, hq => simp [aTys] at hq
  · have hm := List.mem_filter.mp hbw
    have hb := hm.2
    refine va_Nw.of ?_ (hts w hm.1)
    cases w <;> first | rfl | (simp [bw_is] at hb)
  · have h1 := hts _ (sl_tbl q hq)
    have ho : s.vm.findClass q.1 = some c6 := by rw [sl_own q hq]; exact k6.2.1
    obtain ⟨-, -, -, sa, -, -, -, -, -, hev⟩ := Cond.stringRef_spec ho h1
    exact ⟨sa, vk_R.of h1 hev⟩
end GLOB
