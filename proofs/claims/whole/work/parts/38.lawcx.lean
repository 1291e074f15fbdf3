/-! what the law's start gives -/
theorem k_arrI {s : State} {args : Array Value} (h : (Cond.arrayClass .int).before args s = true) : ∃ cA : ClassId, ArrOfT s cA .int ∧ va_RA s cA .int := by
  obtain ⟨cA, kA, comp, h1, h2, h3⟩ := Cond.arrayClass_spec h
  exact ⟨cA, fun n z => ⟨fun k h => (by cases h), kA, h2, comp, h3⟩, h1⟩
theorem k_arrZ {s : State} {args : Array Value} (h : (Cond.arrayClass .boolean).before args s = true) : ∃ cA : ClassId, ArrOfT s cA .boolean ∧ va_RA s cA .boolean := by
  obtain ⟨cA, kA, comp, h1, h2, h3⟩ := Cond.arrayClass_spec h
  exact ⟨cA, fun n z => ⟨fun k h => (by cases h), kA, h2, comp, h3⟩, h1⟩
theorem k_arrJ {s : State} {args : Array Value} (h : (Cond.arrayClass .long).before args s = true) : ∃ cA : ClassId, ArrOfT s cA .long ∧ va_RA s cA .long := by
  obtain ⟨cA, kA, comp, h1, h2, h3⟩ := Cond.arrayClass_spec h
  exact ⟨cA, fun n z => ⟨fun k h => (by cases h), kA, h2, comp, h3⟩, h1⟩
theorem k_text {own tx : String} {k : Nat} {s : State} {args : Array Value} {cur : ClassId} (hcur : s.vm.findClass own = some cur) (h : (Cond.stringRef own k tx).before args s = true) : ∃ a, vk_R own k tx a s := by
  obtain ⟨kc, cf, i, a, -, -, -, -, -, hev⟩ := Cond.stringRef_spec hcur h
  exact ⟨a, vk_R.of h hev⟩
set_option maxHeartbeats 4000000 in
set_option maxRecDepth 100000 in
theorem law_nx {s : State} {args : Array Value} {cur : ClassId} (hcur : s.vm.findClass RX3 = some cur) (hts : ∀ w ∈ lw_tbl, w.before args s = true) : NX s := by
  refine ⟨⟨?_, ?_, ?_, ?_⟩, ⟨?_, ?_, ?_, ?_, ?_, ?_, ?_⟩, ⟨?_, ?_, ?_, ?_⟩, ⟨?_, ?_⟩, ⟨?_, ?_, ?_, ?_, ?_, ?_, ?_, ?_⟩⟩
  all_goals first
    | exact va_Nw.of (A := args) rfl (hts _ (by decide +kernel))
    | exact k_text (args := args) hcur (hts _ (by decide +kernel))
set_option maxHeartbeats 4000000 in
set_option maxRecDepth 100000 in
theorem law_nc {s : State} {args : Array Value} (hts : ∀ w ∈ lw_tbl, w.before args s = true) (hgv : (Jvm.Cond.and given_1 narrow_1).before args s = true) : NC s := by
  have hgs := flat_of_before _ hgv
  refine ⟨⟨?_, ?_, ?_, ?_, ?_⟩, ?_, ?_, ?_⟩
  · exact va_Nw.of (A := args) rfl (hts _ (by decide +kernel))
  · exact va_Nw.of (A := args) rfl (hts _ (by decide +kernel))
  · exact va_Nw.of (A := args) rfl (hts _ (by decide +kernel))
  · exact va_Nc.of (args := args) (hgs _ (by decide +kernel))
  · exact va_Nc.of (args := args) (hgs _ (by decide +kernel))
  · exact va_Nw.of (A := args) rfl (hts _ (by decide +kernel))
  · exact va_Nw.of (A := args) rfl (hts _ (by decide +kernel))
  · exact va_Nw.of (A := args) rfl (hts _ (by decide +kernel))
set_option maxHeartbeats 4000000 in
set_option maxRecDepth 100000 in
theorem law_zq {s : State} {args : Array Value} (hts : ∀ w ∈ lw_tbl, w.before args s = true) (hgv : (Jvm.Cond.and given_1 narrow_1).before args s = true) : ZQ (LA s) s s.heap := by
  have hgs := flat_of_before _ hgv
  have hi : (Cond.initialized Bundle.tN).before args s = true := hts _ (by decide +kernel)
  exact ⟨vx_Zqof (args := args) (hts _ (by decide +kernel)) hi (hgs _ (by decide +kernel)) (fun a h => Nat.not_le.mpr h), vx_Zqof (args := args) (hts _ (by decide +kernel)) hi (hgs _ (by decide +kernel)) (fun a h => Nat.not_le.mpr h)⟩
set_option maxHeartbeats 4000000 in
set_option maxRecDepth 100000 in
theorem law_cx {p : Program} {s : State} {m : MethodId} {meth : Method} {c : Code} (l : Launch) (hflags : l.flags = flags0) {b L : Nat} {xs : Nat → Int32} (hL : L ≤ 2560) (C0 : lw_At p s m meth c b L xs) : ∃ (D : va_G) (cI cZ cJ : ClassId), LCx p l s m meth c b L xs D cI cZ cJ := by
  obtain ⟨hx, hb, hr, hml, hown, hts, hX, hbl, hlocks, hgv⟩ := id C0
  obtain ⟨c0, i0, hK0⟩ := u_known (C := RX0) (T := TX0) (N := 6) (n := 6) hts inX0 (hts (.instantiable RX0 6) (by decide +kernel))
  obtain ⟨c1, i1, hK1⟩ := u_known (C := RX1) (T := TX1) (N := 9) (n := 9) hts inX1 (hts (.instantiable RX1 9) (by decide +kernel))
  obtain ⟨c2, i2, hK2⟩ := u_known (C := RX2) (T := TX2) (N := 5) (n := 5) hts inX2 (hts (.instantiable RX2 5) (by decide +kernel))
  obtain ⟨c3, i3, hK3⟩ := u_known (C := RX3) (T := TX3) (N := 4) (n := 4) hts inX3 (hts (.instantiable RX3 4) (by decide +kernel))
  obtain ⟨c4, i4, hK4⟩ := u_known (C := RX4) (T := TX4) (N := 22) (n := 22) hts inX4 (hts (.instantiable RX4 22) (by decide +kernel))
  obtain ⟨dC, dI, hKc⟩ : ∃ (dC : Nat → ClassId) (dI : Nat → Nat → Nat), ∀ (k : Nat) (q : vw_C), vwCl[k]? = some q → u_Kn s q.1 q.2.1 q.2.2 (dC k) (dI k) := by
    refine ⟨fun k => if k = 0 then c0 else if k = 1 then c1 else if k = 2 then c2 else if k = 3 then c3 else c4, fun k => if k = 0 then i0 else if k = 1 then i1 else if k = 2 then i2 else if k = 3 then i3 else i4, ?_⟩
    intro k q hq
    match k, hq with
    | 0, hq => cases hq; exact hK0
    | 1, hq => cases hq; exact hK1
    | 2, hq => cases hq; exact hK2
    | 3, hq => cases hq; exact hK3
    | 4, hq => cases hq; exact hK4
    | k + 5, hq => simp [vwCl] at hq
  obtain ⟨cI, hI⟩ := k_arrI (hts (.arrayClass .int) (by decide +kernel))
  obtain ⟨cZ, hZ⟩ := k_arrZ (hts (.arrayClass .boolean) (by decide +kernel))
  obtain ⟨cJ, hJ⟩ := k_arrJ (hts (.arrayClass .long) (by decide +kernel))
  refine ⟨(dC, dI), cI, cZ, cJ, ⟨hx, hb, hml, hown, fun w h => hts w (wsL_law_in w h)⟩, hr, hlocks, law_nx hK3.2.1 hts, law_nc hts hgv, law_zq hts hgv, ⟨hKc, ?_⟩, hX, hbl, hL, ?_⟩
  · intro k q hq
    match k, hq with
    | 0, hq => cases hq; exact hI
    | 1, hq => cases hq; exact hZ
    | 2, hq => cases hq; exact hJ
    | k + 3, hq => simp [TY3] at hq
  · show (!l.flags.contains noTraceFlag) = false
    rw [hflags]
    decide +kernel
