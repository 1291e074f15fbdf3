/-! methods that throw, and their callers -/
abbrev IAE : String := "java/lang/IllegalArgumentException"
abbrev ISE : String := "java/lang/IllegalStateException"
abbrev IOE : String := "java/lang/IndexOutOfBoundsException"
abbrev EXN : List String := ["java/lang/RuntimeException", "java/lang/Exception"]
def NCd (U : State) : Prop := va_Nw (.declares (Bundle.initS "java/lang/RuntimeException")) U ∧ va_Nw (.declares (Bundle.initS "java/lang/Exception")) U ∧ va_Nw (.declares (Bundle.initS Bundle.tN)) U
def NC (U : State) : Prop := (va_Nw (.castable IAE IAE) U ∧ va_Nw (.castable ISE ISE) U ∧ va_Nw (.castable IOE IOE) U ∧ va_Nc IAE IOE U ∧ va_Nc ISE IAE U) ∧ NCd U
theorem NC.warm {s U : State} (hW : s.WarmedH U.vm) (h : NC s) : NC U := ⟨⟨va_Nw.warmC hW h.1.1, va_Nw.warmC hW h.1.2.1, va_Nw.warmC hW h.1.2.2.1, va_Nc.moved hW.alike h.1.2.2.2.1, va_Nc.moved hW.alike h.1.2.2.2.2⟩, va_Nw.warmD hW h.2.1, va_Nw.warmD hW h.2.2.1, va_Nw.warmD hW h.2.2.2⟩
theorem NC.same {s U : State} (hv : U.vm = s.vm) (h : NC s) : NC U := ⟨⟨va_Nw.same rfl hv.symm h.1.1, va_Nw.same rfl hv.symm h.1.2.1, va_Nw.same rfl hv.symm h.1.2.2.1, va_Nc.moved (by rw [hv]; exact Vm.Alike.refl _) h.1.2.2.2.1, va_Nc.moved (by rw [hv]; exact Vm.Alike.refl _) h.1.2.2.2.2⟩, va_Nw.same rfl hv.symm h.2.1, va_Nw.same rfl hv.symm h.2.2.1, va_Nw.same rfl hv.symm h.2.2.2⟩
def ZQ (A : Nat → Prop) (U : State) (H : Heap) : Prop := vx_Zq Bundle.tN "UNASSIGNED_STACK" Bundle.steD A U H ∧ vx_Zq Bundle.tN "SUPPRESSED_SENTINEL" Bundle.listD A U H
theorem ZQ.moved {A : Nat → Prop} {u U : State} {H : Heap} (hvm : u.vm.Alike U.vm) (h : ZQ A u H) : ZQ A U H := ⟨h.1.moved hvm, h.2.moved hvm⟩
theorem ZQ.kept {A : Nat → Prop} {U : State} {H H1 : Heap} (h : ZQ A U H) (hq : ∀ a : Nat, a < H.size → ¬ A a → H1[a]? = H[a]?) : ZQ A U H1 := ⟨h.1.kept hq, h.2.kept hq⟩
theorem ZQ.narrow {A B : Nat → Prop} {U : State} {H : Heap} (h : ZQ A U H) (hAB : ∀ q, B q → A q) : ZQ B U H := ⟨h.1.narrow hAB, h.2.narrow hAB⟩
def xPre (D : va_G) (tys : List (ClassId × FieldType)) (ws : va_W) (sz : Nat) (U : State) : Prop := kPre D tys ws sz U ∧ NC U ∧ ZQ (va_A ws sz) U U.heap
theorem xblind {av : List Value} {D : va_G} {tys : List (ClassId × FieldType)} {ws : va_W} {sz : Nat} : FrameBlind (va_Pc av (xPre D tys ws sz)) := by
  intro a U g mk q
  obtain ⟨q0, qk, qc, qz⟩ := q
  exact ⟨q0, (kblind (av := av) a U g mk ⟨q0, qk⟩).2, NC.same (s := U) (U := U.calling g mk a) rfl qc, ZQ.moved (u := U) (U := U.calling g mk a) (Vm.Alike.refl U.vm) qz⟩
def xB (D : va_G) (A : Nat → Prop) (xe : String → Prop) (ws : va_W) : String → Unit → State → Prop := fun E _ t => xe E ∧ va_P D vwCl ws t.heap ∧ va_D A ws
def kXi (l : Launch) (y : MethodName) (w : List Cond) (fr lo : Nat) (D : va_G) (tys : List (ClassId × FieldType)) (av : List Value) (ws : va_W) {S : Type} (post : Int32 → S → Prop) (wf : S → va_W) (xe : String → Prop) : Prop :=
  ∀ sz : Nat, vx_Met l y w ({ frames := fr, cells := 1, slots := 6, locals := lo } : Room) (va_Pc av (xPre D tys ws sz)) (va_Qi post (kB D (va_A ws sz) wf) (va_A ws sz)) (vx_X (fun _ : Unit => True) (xB D (va_A ws sz) xe ws) (va_A ws sz)) 1 6 (va_A ws sz)
def kXv (l : Launch) (y : MethodName) (w : List Cond) (fr lo : Nat) (D : va_G) (tys : List (ClassId × FieldType)) (av : List Value) (ws : va_W) {S : Type} (post : S → Prop) (wf : S → va_W) (xe : String → Prop) : Prop :=
  ∀ sz : Nat, vx_Met l y w ({ frames := fr, cells := 1, slots := 6, locals := lo } : Room) (va_Pc av (xPre D tys ws sz)) (va_Qv post (kB D (va_A ws sz) wf) (va_A ws sz)) (vx_X (fun _ : Unit => True) (xB D (va_A ws sz) xe ws) (va_A ws sz)) 1 6 (va_A ws sz)
theorem k_inx {l : Launch} {y : MethodName} {w w' : List Cond} {cc : ByteArray} {maxL : Nat} {ret : Option FieldType} {rm : Room} {D : va_G} {tys : List (ClassId × FieldType)} {av : List Value} {ws : va_W} {sz mc ms : Nat} {Qc : (Nat → Prop) → Array Value → State → Outcome → State → Prop} {XC : (Nat → Prop) → String → State → State → Prop}
    (hy : plainName y.cls = true) (hw : w = Cond.code y cc maxL ret :: w') (hn : (lg_sl av).length ≤ maxL)
    (body : ∀ (p : Program) (e : Env) (s : State) (m : MethodId) (below : List Frame) (meth : Method) (c : Code) (A : Nat → Prop) (ls : Array Slot),
      CallFix p m c cc maxL s av.toArray w y.cls → meth.sig.returnType = ret → meth.locks = false → NX s → (∀ x ∈ c.exceptionTable.toList, False) → NC s → ZQ A s s.heap → va_P D vwCl ws s.heap → va_K D vwCl tys s → va_D A ws → (∀ q, s.heap.size ≤ q → A q) → va_S A s.heap s.heap [] → lv_has ls maxL (lv_args 0 av) →
      W p l e rm s m av.toArray below meth c s.heap [] 0 0 (vx_MQ below (Qc A) (XC A) av.toArray s mc ms A) (F0 m 0 ls [])) :
    vx_Met l y w rm (va_Pc av (xPre D tys ws sz)) (Qc (va_A ws sz)) (XC (va_A ws sz)) mc ms (va_A ws sz) := by
  refine vx_ofW (cc := cc) (maxL := maxL) (ret := ret) hy hw ?_
  intro p e s m args below meth c s₁ B hml ht hv
  obtain ⟨rfl, ⟨hsz, hP, hK, hD0, hN⟩, hC, hZ⟩ := hv
  subst hsz
  rw [lg_entry_eq]
  exact body p e s m below meth c (va_A ws s.heap.size) _ ⟨B.exec, B.bytes, hml, findClass_of_methodNamed B.named, atoms_spec (ws := w) B.pre⟩ B.returns B.notSynchronized hN ht hC hZ hP hK hD0.self (fun q h => Or.inr h) va_S.rf (lv_entry av hn)
theorem k_xc {D : va_G} {A : Nat → Prop} {xe : String → Prop} {ws : va_W} {s : State} {H : Heap} {locs : List Loc} {E : String} (hP : va_P D vwCl ws H) (hD : va_D A ws) (hS : va_S A s.heap H locs) (hxe : xe E) : ∀ t : State, s.vm.Alike t.vm → H.size + 1 ≤ t.heap.size → (∀ q : Nat, q < H.size → t.heap[q]? = H[q]?) → vx_X (fun _ : Unit => True) (xB D A xe ws) A E s t :=
  fun t _ h1 h2 => ⟨(), trivial, ⟨hxe, hP.kept (fun k q hk => h2 q.1 (hP k q hk).lt), hD⟩, Nat.le_trans (Nat.succ_le_succ hS.1) h1, fun q h3 h4 => (h2 q (Nat.lt_of_lt_of_le h3 hS.1)).trans (hS.2.1 q h3 h4)⟩
theorem EXN_ok : ∀ n ∈ EXN, Bundle.fit n = true := by decide +kernel
theorem NCat1 {args : Array Value} {s : State} (h : NC s) (h1 : ∀ w ∈ (vx_atS RX3 40 IAE EXN).filter goodWord, w.before args s = true) : ∀ w ∈ vx_atS RX3 40 IAE EXN, w.before args s = true := vx_hat h1 (B := [.castable IAE IAE, .declares (Bundle.initS "java/lang/RuntimeException"), .declares (Bundle.initS "java/lang/Exception"), .declares (Bundle.initS Bundle.tN)]) (by decide +kernel) (vx_c (va_Nw.use rfl h.1.1) (vx_c (va_Nw.use rfl h.2.1) (vx_c (va_Nw.use rfl h.2.2.1) (vx_c (va_Nw.use rfl h.2.2.2) vx_n))))
theorem NCat2 {args : Array Value} {s : State} (h : NC s) (h1 : ∀ w ∈ (vx_atS RX3 84 ISE EXN).filter goodWord, w.before args s = true) : ∀ w ∈ vx_atS RX3 84 ISE EXN, w.before args s = true := vx_hat h1 (B := [.castable ISE ISE, .declares (Bundle.initS "java/lang/RuntimeException"), .declares (Bundle.initS "java/lang/Exception"), .declares (Bundle.initS Bundle.tN)]) (by decide +kernel) (vx_c (va_Nw.use rfl h.1.2.1) (vx_c (va_Nw.use rfl h.2.1) (vx_c (va_Nw.use rfl h.2.2.1) (vx_c (va_Nw.use rfl h.2.2.2) vx_n))))
theorem NCat3 {args : Array Value} {s : State} (h : NC s) (h1 : ∀ w ∈ (vx_atS RX3 64 IOE EXN).filter goodWord, w.before args s = true) : ∀ w ∈ vx_atS RX3 64 IOE EXN, w.before args s = true := vx_hat h1 (B := [.castable IOE IOE, .declares (Bundle.initS "java/lang/RuntimeException"), .declares (Bundle.initS "java/lang/Exception"), .declares (Bundle.initS Bundle.tN)]) (by decide +kernel) (vx_c (va_Nw.use rfl h.1.2.2.1) (vx_c (va_Nw.use rfl h.2.1) (vx_c (va_Nw.use rfl h.2.2.1) (vx_c (va_Nw.use rfl h.2.2.2) vx_n))))
theorem NCgood1 : ∀ w ∈ Cond.classLink RX3 36 IAE :: Cond.initialized IAE :: vx_atS RX3 40 IAE EXN, vx_ot w = true := by decide +kernel
theorem NCgood2 : ∀ w ∈ Cond.classLink RX3 80 ISE :: Cond.initialized ISE :: vx_atS RX3 84 ISE EXN, vx_ot w = true := by decide +kernel
theorem NCgood3 : ∀ w ∈ Cond.classLink RX3 60 IOE :: Cond.initialized IOE :: vx_atS RX3 64 IOE EXN, vx_ot w = true := by decide +kernel
abbrev oneTo (x : Int32) (n : Nat) : Prop := ¬ x < nI 1 ∧ ¬ nI n < x
theorem oneTo_nI {x : Int32} {n : Nat} (hn : n < 2 ^ 31) (h : oneTo x n) : x = nI x.toNatClampNeg ∧ 1 ≤ x.toNatClampNeg ∧ x.toNatClampNeg ≤ n := by
  have h1 := h.1
  have h2 := h.2
  rw [Int32.lt_iff_toInt_lt, nI_toInt (by decide)] at h1
  rw [Int32.lt_iff_toInt_lt, nI_toInt hn] at h2
  have h3 : ¬ x < 0 := by
    rw [Int32.lt_iff_toInt_lt]
    have : (0 : Int32).toInt = 0 := by decide
    omega
  obtain ⟨j, hj, rfl⟩ := nI_of h3
  rw [nI_clamp hj]
  rw [nI_toInt hj] at h1 h2
  exact ⟨rfl, by omega, by omega⟩
theorem inR_eq {x : Int32} {n : Nat} (hn : n < 2 ^ 31) (h : inR x n) : x = nI x.toNatClampNeg := by
  obtain ⟨k, hk, rfl⟩ := inR_nI hn h
  rw [nI_clamp (by omega)]
theorem inR_lt {x : Int32} {n : Nat} (hn : n < 2 ^ 31) (h : inR x n) : x.toNatClampNeg < n := by
  obtain ⟨k, hk, rfl⟩ := inR_nI hn h
  rw [nI_clamp (by omega)]
  exact hk
theorem pos_nI {x : Int32} {n : Nat} (hn : n < 2 ^ 31) (h0 : ¬ x < 0) (h : x < nI n) : x = nI x.toNatClampNeg ∧ x.toNatClampNeg < n := by
  have h1 : inR x n := ⟨h0, Int32.not_le.mpr h⟩
  exact ⟨inR_eq hn h1, inR_lt hn h1⟩
