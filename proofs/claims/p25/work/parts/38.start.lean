/-! what a start gives -/
abbrev LA (s : State) : Nat → Prop := fun q => s.heap.size ≤ q
theorem k_arrI {s : State} {args : Array Value} (h : (Cond.arrayClass .int).before args s = true) : ∃ cA : ClassId, ArrOfT s cA .int ∧ va_RA s cA .int := by
  obtain ⟨cA, kA, comp, h1, h2, h3⟩ := Cond.arrayClass_spec h
  exact ⟨cA, fun n z => ⟨fun k h => (by cases h), kA, h2, comp, h3⟩, h1⟩
theorem k_arrZ {s : State} {args : Array Value} (h : (Cond.arrayClass .boolean).before args s = true) : ∃ cA : ClassId, ArrOfT s cA .boolean ∧ va_RA s cA .boolean := by
  obtain ⟨cA, kA, comp, h1, h2, h3⟩ := Cond.arrayClass_spec h
  exact ⟨cA, fun n z => ⟨fun k h => (by cases h), kA, h2, comp, h3⟩, h1⟩
theorem k_text {own tx : String} {k : Nat} {s : State} {args : Array Value} {cur : ClassId} (hcur : s.vm.findClass own = some cur) (h : (Cond.stringRef own k tx).before args s = true) : ∃ a, vk_R own k tx a s := by
  obtain ⟨kc, cf, i, a, -, -, -, -, -, hev⟩ := Cond.stringRef_spec hcur h
  exact ⟨a, vk_R.of h hev⟩
set_option maxHeartbeats 4000000 in
set_option maxRecDepth 100000 in
theorem law_nx {s : State} {args : Array Value} {cur : ClassId} (hcur : s.vm.findClass RX3 = some cur) (hts : ∀ w ∈ lw_tbl, w.before args s = true) : NX s := by
  refine ⟨⟨?_, ?_, ?_, ?_⟩, ⟨?_, ?_, ?_, ?_, ?_, ?_, ?_⟩, ⟨?_, ?_, ?_, ?_⟩, ⟨?_, ?_⟩, ⟨?_, ?_, ?_, ?_, ?_, ?_, ?_, ?_⟩⟩
  all_goals first
    | exact va_Nw.of (A := args) rfl (hts _ (by decide +kernel))
    | exact k_text (args := args) hcur (hts _ (by decide +kernel))
set_option maxHeartbeats 4000000 in
set_option maxRecDepth 100000 in
theorem law_nc {s : State} {args : Array Value} (hts : ∀ w ∈ lw_tbl, w.before args s = true) (hgv : (Jvm.Cond.and given_1 narrow_1).before args s = true) : NC s := by
  have hgs := flat_of_before _ hgv
  refine ⟨⟨?_, ?_, ?_, ?_, ?_⟩, ?_, ?_, ?_⟩
  · exact va_Nw.of (A := args) rfl (hts _ (by decide +kernel))
  · exact va_Nw.of (A := args) rfl (hts _ (by decide +kernel))
  · exact va_Nw.of (A := args) rfl (hts _ (by decide +kernel))
  · exact va_Nc.of (args := args) (hgs _ (by decide +kernel))
  · exact va_Nc.of (args := args) (hgs _ (by decide +kernel))
  · exact va_Nw.of (A := args) rfl (hts _ (by decide +kernel))
  · exact va_Nw.of (A := args) rfl (hts _ (by decide +kernel))
  · exact va_Nw.of (A := args) rfl (hts _ (by decide +kernel))
set_option maxHeartbeats 4000000 in
set_option maxRecDepth 100000 in
theorem law_zq {s : State} {args : Array Value} (hts : ∀ w ∈ lw_tbl, w.before args s = true) (hgv : (Jvm.Cond.and given_1 narrow_1).before args s = true) : ZQ (LA s) s s.heap := by
  have hgs := flat_of_before _ hgv
  have hi : (Cond.initialized Bundle.tN).before args s = true := hts _ (by decide +kernel)
  exact ⟨vx_Zqof (args := args) (hts _ (by decide +kernel)) hi (hgs _ (by decide +kernel)) (fun a h => Nat.not_le.mpr h), vx_Zqof (args := args) (hts _ (by decide +kernel)) hi (hgs _ (by decide +kernel)) (fun a h => Nat.not_le.mpr h)⟩
theorem zplus {C n d : String} {v : Value} {A : Nat → Prop} {U : State} {H : Heap} {b : Nat} {cb : Cell} (hb : H[b]? = some cb) (hs : cb.vm.isStatics = false) (h : va_Z C n d v A U H) : va_Z C n d v (fun q => A q ∨ q = b) U H := by
  obtain ⟨cf, kf, fi, f, a, cell, h1, h2, h3, h4, h5, h6, h7, h8⟩ := h
  refine ⟨cf, kf, fi, f, a, cell, h1, h2, h3, h4, h5, h6, h7, fun q => q.elim h8 (fun e => ?_)⟩
  rw [e, hb] at h5
  cases h5
  rw [hs] at h6
  cases h6
theorem lplus {C n d : String} {A : Nat → Prop} {U : State} {H : Heap} {b : Nat} {cb : Cell} (hb : H[b]? = some cb) (hs : cb.vm.isStatics = false) (h : vx_L C n d A U H) : vx_L C n d (fun q => A q ∨ q = b) U H := by
  obtain ⟨c, k, i, f, a, cell, h1, h2, h3, h4, h5, h6, h7, h8, h9, h10⟩ := h
  refine ⟨c, k, i, f, a, cell, h1, h2, h3, h4, h5, h6, h7, h8, h9, fun q => q.elim h10 (fun e => ?_)⟩
  rw [e, hb] at h5
  cases h5
  rw [hs] at h6
  cases h6
theorem zqplus {A : Nat → Prop} {U : State} {H : Heap} {b : Nat} {cb : Cell} (hb : H[b]? = some cb) (hs : cb.vm.isStatics = false) (h : ZQ A U H) : ZQ (fun q => A q ∨ q = b) U H :=
  ⟨⟨h.1.1.elim (fun z => Or.inl (zplus hb hs z)) (fun z => Or.inr (z.elim fun t z => ⟨t, zplus hb hs z⟩)), lplus hb hs h.1.2⟩, ⟨h.2.1.elim (fun z => Or.inl (zplus hb hs z)) (fun z => Or.inr (z.elim fun t z => ⟨t, zplus hb hs z⟩)), lplus hb hs h.2.2⟩⟩
set_option maxHeartbeats 4000000 in
set_option maxRecDepth 100000 in
theorem law_cx9 {s : State} {args : Array Value} (hts : ∀ w ∈ lw_tbl, w.before args s = true) (hgv : (Jvm.Cond.and given_1 narrow_1).before args s = true) : ∃ (D : va_G) (cI cZ : ClassId), NX s ∧ NC s ∧ ZQ (LA s) s s.heap ∧ va_K D vwCl (TY cI cZ) s := by
  obtain ⟨c0, i0, hK0⟩ := u_known (C := RX0) (T := TX0) (N := 6) (n := 6) hts inX0 (hts (.instantiable RX0 6) (by decide +kernel))
  obtain ⟨c1, i1, hK1⟩ := u_known (C := RX1) (T := TX1) (N := 9) (n := 9) hts inX1 (hts (.instantiable RX1 9) (by decide +kernel))
  obtain ⟨c2, i2, hK2⟩ := u_known (C := RX2) (T := TX2) (N := 5) (n := 5) hts inX2 (hts (.instantiable RX2 5) (by decide +kernel))
  obtain ⟨c3, i3, hK3⟩ := u_known (C := RX3) (T := TX3) (N := 4) (n := 4) hts inX3 (hts (.instantiable RX3 4) (by decide +kernel))
  obtain ⟨dC, dI, hKc⟩ : ∃ (dC : Nat → ClassId) (dI : Nat → Nat → Nat), ∀ (k : Nat) (q : vw_C), vwCl[k]? = some q → u_Kn s q.1 q.2.1 q.2.2 (dC k) (dI k) := by
    refine ⟨fun k => if k = 0 then c0 else if k = 1 then c1 else if k = 2 then c2 else c3, fun k => if k = 0 then i0 else if k = 1 then i1 else if k = 2 then i2 else i3, ?_⟩
    intro k q hq
    match k, hq with
    | 0, hq => cases hq; exact hK0
    | 1, hq => cases hq; exact hK1
    | 2, hq => cases hq; exact hK2
    | 3, hq => cases hq; exact hK3
    | k + 4, hq => simp [vwCl] at hq
  obtain ⟨cI, hI⟩ := k_arrI (hts (.arrayClass .int) (by decide +kernel))
  obtain ⟨cZ, hZ⟩ := k_arrZ (hts (.arrayClass .boolean) (by decide +kernel))
  refine ⟨(dC, dI), cI, cZ, law_nx hK3.2.1 hts, law_nc hts hgv, law_zq hts hgv, ⟨hKc, ?_⟩⟩
  intro k q hq
  match k, hq with
  | 0, hq => cases hq; exact hI
  | 1, hq => cases hq; exact hZ
  | k + 2, hq => simp [TY] at hq
