/-! the law's own methods: they call what may throw, and catch it -/
abbrev TY3 (cI cZ cJ : ClassId) : List (ClassId × FieldType) := [(cI, .int), (cZ, .boolean), (cJ, .long)]
abbrev OW (cJ : ClassId) (q : Nat → Nat) (f : Nat → Int64) : va_W := [(q 90, .inl (cJ, 1, .inr (.inl f)))]
def kMl (l : Launch) (y : MethodName) (w : List Cond) (fr lo : Nat) (D : va_G) (tys : List (ClassId × FieldType)) (av : List Value) (ws : va_W) {S : Type} (post : Int32 → S → Prop) (wf : S → va_W) : Prop :=
  ∀ sz : Nat, Met l y w ({ frames := fr, cells := 1, slots := 6, locals := lo } : Room) (va_Pc av (xPre D tys ws sz)) (va_Qi post (kB D (va_A ws sz) wf) (va_A ws sz)) 1 6 (va_A ws sz)
theorem k_inl {l : Launch} {y : MethodName} {w w' : List Cond} {cc : ByteArray} {maxL : Nat} {ret : Option FieldType} {hh : List (Nat × Nat × Nat × Nat)} {rm : Room} {D : va_G} {tys : List (ClassId × FieldType)} {av : List Value} {ws : va_W} {sz mc ms : Nat} {Qc : (Nat → Prop) → Array Value → State → Outcome → State → Prop}
    (hy : plainName y.cls = true) (hw : w = Cond.codeWith y cc maxL ret hh :: w') (hn : (lg_sl av).length ≤ maxL)
    (body : ∀ (p : Program) (e : Env) (s : State) (m : MethodId) (below : List Frame) (meth : Method) (c : Code) (A : Nat → Prop) (ls : Array Slot),
      CallFix p m c cc maxL s av.toArray w y.cls → meth.sig.returnType = ret → meth.locks = false → NX s → NC s → ZQ A s s.heap → c.exceptionTable.toList = tableOf hh → va_P D vwCl ws s.heap → va_K D vwCl tys s → va_D A ws → (∀ q, s.heap.size ≤ q → A q) → va_S A s.heap s.heap [] → lv_has ls maxL (lv_args 0 av) →
      W p l e rm s m av.toArray below meth c s.heap [] 0 0 (MQ below (Qc A) av.toArray s mc ms A) (F0 m 0 ls [])) :
    Met l y w rm (va_Pc av (xPre D tys ws sz)) (Qc (va_A ws sz)) mc ms (va_A ws sz) := by
  refine va_MetW (hh := hh) (cc := cc) (maxL := maxL) (ret := ret) hy hw ?_
  intro p e s m args below meth c s₁ B hml hv
  obtain ⟨rfl, ⟨hsz, hP, hK, hD0, hN⟩, hC, hZ⟩ := hv
  subst hsz
  rw [lg_entry_eq]
  exact body p e s m below meth c (va_A ws s.heap.size) _ ⟨B.exec, B.bytes, hml, findClass_of_methodNamed B.named, atoms_spec (ws := w) B.pre⟩ B.returns B.notSynchronized hN hC hZ (vx_table (x := y) B (atoms_spec (ws := w) B.pre _ (by rw [hw]; exact List.mem_cons_self))) hP hK hD0.self (fun q h => Or.inr h) va_S.rf (lv_entry av hn)
section KL
variable {p : Program} {l : Launch} {e : Env} {R : Room} {s : State} {m : MethodId} {args : Array Value} {below : List Frame} {meth : Method} {c : Code} {H H0 : Heap} {locs : List Loc} {cells slots : Nat} {Q : State → Prop} {cc : ByteArray} {pc : Nat} {ls : Array Slot} {rest : List Value} {A A0 : Nat → Prop} {D : va_G} {tys tys9 : List (ClassId × FieldType)} {ws wc wr : va_W}
theorem k_xpre {As : List Value} (hN : NX s) (hC9 : NC s) (hZ : ZQ A0 s s.heap) (hK : va_K D vwCl tys s) (hP : va_P D vwCl ws H) (hD : va_D A0 ws) (hS : va_S A0 s.heap H locs) (hA : ∀ q, s.heap.size ≤ q → A0 q) (isC : List Nat) (hC : isC.map (fun i => ws[i]?) = wc.map some) (hnC : va_nd isC = true) : ∀ U : State, U.heap = H → s.WarmedH U.vm → va_Pc As (xPre D tys wc H.size) As.toArray U := fun U hU hW =>
  ⟨rfl, (k_pre (As := As) hN hK hP hD isC hC hnC U hU hW).2, hC9.warm hW, by rw [hU]; exact ((hZ.kept hS.2.1).narrow (va_free hD hS hA isC hC)).moved hW.alike⟩
variable {S : Type} {y : MethodName} {w w' Ts : List Cond} {fr lo maxL idx n ci nL : Nat} {bytes : ByteArray} {ret : Option FieldType} {own : String} {As st0 : List Value} {b q0 : Nat} {qc : vw_C} {fs : List Value} {xe : String → Prop}
theorem k_callXi {post : Int32 → S → Prop} {wf : S → va_W} (F : CallFix p m c cc nL s args Ts own) (hN : NX s) (hC9 : NC s) (hZ : ZQ A0 s s.heap) (hK : va_K D vwCl tys s) (hP : va_P D vwCl ws H) (hD : va_D A0 ws) (hS : va_S A0 s.heap H locs) (hA : ∀ q, s.heap.size ≤ q → A0 q) (hsize : ls.size = nL)
    (hM : kXi l y w fr lo D tys (.ref b :: As) wc post wf xe) (hG : GoodIn Ts (wsV own idx qc.1 y w)) (hw : w = Cond.code y bytes maxL ret :: w')
    (hd : y.cls = qc.1 ∧ y.cls ≠ "java/lang/invoke/MethodHandle" ∧ y.cls ≠ "java/lang/invoke/VarHandle" ∧ (parseMethodDescriptor y.desc).map (fun d => d.parameters.length) = some n) (hn0 : As.length = n)
    (hrm : fr + 1 ≤ R.frames ∧ 8 + (maxL + 11) + lo ≤ R.locals) (isC isR : List Nat) (hC : isC.map (fun i => ws[i]?) = wc.map some) (hR : isR.map (fun i => ws[i]?) = wr.map some) (hnC : va_nd isC = true) (hn : va_nd isR = true) (hdis : ∀ i ∈ isR, i ∉ isC)
    (q0 : Nat) (hc : vwCl[ci]? = some qc) (he : ws[q0]? = some (b, .inr (ci, fs))) (hstack : st0 = As.reverse ++ .ref b :: rest) (hW : (rest.map fun v => v.category).sum ≤ 8) (hcr : cells + 1 ≤ R.cells ∧ slots + 6 ≤ R.slots) (hdg : decode cc pc = .ok (.invokevirtual idx, 3))
    (kx : ∀ (E : String) (ce : Cell) (q9 : Addr) (H1 : Heap) (locs1 : List Loc), xe E → va_P D vwCl (wr ++ wc) H1 → va_D A0 (wr ++ wc) → va_S A0 s.heap H1 locs1 → H1[q9]? = some ce → ce.vm = .none → s.vm.findClass E = some ce.cls → vx_W p l e R s m args below meth c H1 locs1 (cells + 1) (slots + 6) Q (F0 m pc ls rest) q9)
    (kk : ∀ (r : Int32) (u : S) (H1 : Heap) (locs1 : List Loc), post r u → va_P D vwCl (wr ++ wf u) H1 → va_D A0 (wr ++ wf u) → va_S A0 s.heap H1 locs1 → W p l e R s m args below meth c H1 locs1 (cells + 1) (slots + 6) Q (F0 m (pc + 3) ls (.int r :: rest))) : W p l e R s m args below meth c H locs cells slots Q (F0 m pc ls st0) := by
  have hF := va_free hD hS hA isC hC
  refine vx_calli (vx_runV (As := As) (rest := rest) F (hM H.size) (cwV n F.2.2.2.2 hG hw rfl rfl hd hrm) ⟨xblind, va_recv hK hP hc he, k_xpre hN hC9 hZ hK hP hD hS hA isC hC hnC⟩ rfl hn0 hsize hstack (lv_room hW) hdg hcr) hS (fun q _ h => hF q h) hF (fun q _ h => hF q h) (fun E ce q9 u t H1 locs1 ht hvm hu hB hz1 hk1 hS1 hce hcv hcl => ?_) (fun r u t H1 locs1 ht hvm hw hB hz1 hk1 hS1 => ?_)
  · obtain ⟨hxe, hP1, hD1⟩ := hB
    rw [ht] at hP1
    obtain ⟨hP2, hD2⟩ := va_join hP hD isC isR hC hR hn hdis hk1 hF hP1 hD1
    exact kx E ce q9 H1 locs1 hxe hP2 hD2 hS1 hce hcv hcl
  · obtain ⟨hP1, hD1⟩ := hB
    rw [ht] at hP1
    obtain ⟨hP2, hD2⟩ := va_join hP hD isC isR hC hR hn hdis hk1 hF hP1 hD1
    exact kk r u H1 locs1 hw hP2 hD2 hS1
theorem k_callXv {post : S → Prop} {wf : S → va_W} (F : CallFix p m c cc nL s args Ts own) (hN : NX s) (hC9 : NC s) (hZ : ZQ A0 s s.heap) (hK : va_K D vwCl tys s) (hP : va_P D vwCl ws H) (hD : va_D A0 ws) (hS : va_S A0 s.heap H locs) (hA : ∀ q, s.heap.size ≤ q → A0 q) (hsize : ls.size = nL)
    (hM : kXv l y w fr lo D tys (.ref b :: As) wc post wf xe) (hG : GoodIn Ts (wsV own idx qc.1 y w)) (hw : w = Cond.code y bytes maxL ret :: w')
    (hd : y.cls = qc.1 ∧ y.cls ≠ "java/lang/invoke/MethodHandle" ∧ y.cls ≠ "java/lang/invoke/VarHandle" ∧ (parseMethodDescriptor y.desc).map (fun d => d.parameters.length) = some n) (hn0 : As.length = n)
    (hrm : fr + 1 ≤ R.frames ∧ 8 + (maxL + 11) + lo ≤ R.locals) (isC isR : List Nat) (hC : isC.map (fun i => ws[i]?) = wc.map some) (hR : isR.map (fun i => ws[i]?) = wr.map some) (hnC : va_nd isC = true) (hn : va_nd isR = true) (hdis : ∀ i ∈ isR, i ∉ isC)
    (q0 : Nat) (hc : vwCl[ci]? = some qc) (he : ws[q0]? = some (b, .inr (ci, fs))) (hstack : st0 = As.reverse ++ .ref b :: rest) (hW : (rest.map fun v => v.category).sum ≤ 8) (hcr : cells + 1 ≤ R.cells ∧ slots + 6 ≤ R.slots) (hdg : decode cc pc = .ok (.invokevirtual idx, 3))
    (kx : ∀ (E : String) (ce : Cell) (q9 : Addr) (H1 : Heap) (locs1 : List Loc), xe E → va_P D vwCl (wr ++ wc) H1 → va_D A0 (wr ++ wc) → va_S A0 s.heap H1 locs1 → H1[q9]? = some ce → ce.vm = .none → s.vm.findClass E = some ce.cls → vx_W p l e R s m args below meth c H1 locs1 (cells + 1) (slots + 6) Q (F0 m pc ls rest) q9)
    (kk : ∀ (u : S) (H1 : Heap) (locs1 : List Loc), post u → va_P D vwCl (wr ++ wf u) H1 → va_D A0 (wr ++ wf u) → va_S A0 s.heap H1 locs1 → W p l e R s m args below meth c H1 locs1 (cells + 1) (slots + 6) Q (F0 m (pc + 3) ls rest)) : W p l e R s m args below meth c H locs cells slots Q (F0 m pc ls st0) := by
  have hF := va_free hD hS hA isC hC
  refine vx_callv (vx_runV (As := As) (rest := rest) F (hM H.size) (cwV n F.2.2.2.2 hG hw rfl rfl hd hrm) ⟨xblind, va_recv hK hP hc he, k_xpre hN hC9 hZ hK hP hD hS hA isC hC hnC⟩ rfl hn0 hsize hstack (lv_room hW) hdg hcr) hS (fun q _ h => hF q h) hF (fun q _ h => hF q h) (fun E ce q9 u t H1 locs1 ht hvm hu hB hz1 hk1 hS1 hce hcv hcl => ?_) (fun u t H1 locs1 ht hvm hw hB hz1 hk1 hS1 => ?_)
  · obtain ⟨hxe, hP1, hD1⟩ := hB
    rw [ht] at hP1
    obtain ⟨hP2, hD2⟩ := va_join hP hD isC isR hC hR hn hdis hk1 hF hP1 hD1
    exact kx E ce q9 H1 locs1 hxe hP2 hD2 hS1 hce hcv hcl
  · obtain ⟨hP1, hD1⟩ := hB
    rw [ht] at hP1
    obtain ⟨hP2, hD2⟩ := va_join hP hD isC isR hC hR hn hdis hk1 hF hP1 hD1
    exact kk u H1 locs1 hw hP2 hD2 hS1
theorem k_last {ad i n : Nat} {cA : ClassId} {f : Nat → Int64} {x : Int64} (hx : p.tables.exec = Jvm.exec) (hb : c.code = cc) (hK : va_K D vwCl tys9 s) (hP : va_P D vwCl ws H) (hD : va_D A ws) (hS : va_S A H0 H locs) (q0 t0 : Nat) (ha : ws[q0]? = some (ad, .inl (cA, n, .inr (.inl f)))) (ht : tys9[t0]? = some (cA, .long)) (hi : i < n) (hn : n < 2 ^ 31) (hdg : decode cc pc = .ok (.lastore, 1))
    (kk : ∀ (H1 : Heap) (locs1 : List Loc), va_P D vwCl (ws.set q0 (ad, .inl (cA, n, .inr (.inl (vp_updL f i x))))) H1 → va_D A (ws.set q0 (ad, .inl (cA, n, .inr (.inl (vp_updL f i x))))) → va_S A H0 H1 locs1 → W p l e R s m args below meth c H1 locs1 cells slots Q (F0 m (pc + 1) ls rest)) : W p l e R s m args below meth c H locs cells slots Q (F0 m pc ls (.long x :: .int (nI i) :: .ref ad :: rest)) := by
  refine va_last hx hb hK hP hD hS q0 t0 ha ht (vp_in_nI hi hn) hdg ?_
  rw [nI_clamp (Nat.lt_trans hi hn)]; exact kk
theorem k_lald {ad i n : Nat} {cA : ClassId} {f : Nat → Int64} (hx : p.tables.exec = Jvm.exec) (hb : c.code = cc) (hK : va_K D vwCl tys9 s) (hP : va_P D vwCl ws H) (q0 t0 : Nat) (ha : ws[q0]? = some (ad, .inl (cA, n, .inr (.inl f)))) (ht : tys9[t0]? = some (cA, .long)) (hi : i < n) (hn : n < 2 ^ 31) (hdg : decode cc pc = .ok (.laload, 1))
    (k : W p l e R s m args below meth c H locs cells slots Q (F0 m (pc + 1) ls (.long (f i) :: rest))) : W p l e R s m args below meth c H locs cells slots Q (F0 m pc ls (.int (nI i) :: .ref ad :: rest)) := by
  refine va_lald hx hb hK hP q0 t0 ha ht (vp_in_nI hi hn) hdg ?_
  rw [nI_clamp (Nat.lt_trans hi hn)]; exact k
end KL
section KM
variable {p : Program} {l : Launch} {e : Env} {R : Room} {s : State} {m : MethodId} {args : Array Value} {below : List Frame} {meth : Method} {c : Code} {H : Heap} {locs : List Loc} {cells slots : Nat} {Q : State → Prop} {cc : ByteArray} {pc : Nat} {ls : Array Slot} {rest : List Value} {A0 : Nat → Prop} {D : va_G} {tys : List (ClassId × FieldType)} {ws wc wr : va_W}
variable {S : Type} {y : MethodName} {w w' Ts : List Cond} {fr lo maxL idx n nL : Nat} {bytes : ByteArray} {ret : Option FieldType} {own : String} {As st0 : List Value} {hh : List (Nat × Nat × Nat × Nat)}
theorem k_callLi {post : Int32 → S → Prop} {wf : S → va_W} (F : CallFix p m c cc nL s args Ts own) (hN : NX s) (hC9 : NC s) (hZ : ZQ A0 s s.heap) (hK : va_K D vwCl tys s) (hP : va_P D vwCl ws H) (hD : va_D A0 ws) (hS : va_S A0 s.heap H locs) (hA : ∀ q, s.heap.size ≤ q → A0 q) (hsize : ls.size = nL)
    (hM : kMl l y w fr lo D tys As wc post wf) (hG : GoodIn Ts (va_wsS own idx y w)) (hw : w = Cond.codeWith y bytes maxL ret hh :: w')
    (hd : y.cls ≠ "java/lang/invoke/MethodHandle" ∧ y.cls ≠ "java/lang/invoke/VarHandle" ∧ (parseMethodDescriptor y.desc).map (fun d => d.parameters.length) = some n) (hn0 : As.length = n)
    (hrm : fr + 1 ≤ R.frames ∧ 8 + (maxL + 11) + lo ≤ R.locals) (isC isR : List Nat) (hC : isC.map (fun i => ws[i]?) = wc.map some) (hR : isR.map (fun i => ws[i]?) = wr.map some) (hnC : va_nd isC = true) (hn : va_nd isR = true) (hdis : ∀ i ∈ isR, i ∉ isC)
    (hstack : st0 = As.reverse ++ rest) (hW : (rest.map fun v => v.category).sum ≤ 8) (hcr : cells + 1 ≤ R.cells ∧ slots + 6 ≤ R.slots) (hdg : decode cc pc = .ok (.invokestatic idx, 3))
    (kk : ∀ (r : Int32) (u : S) (H1 : Heap) (locs1 : List Loc), post r u → va_P D vwCl (wr ++ wf u) H1 → va_D A0 (wr ++ wf u) → va_S A0 s.heap H1 locs1 → W p l e R s m args below meth c H1 locs1 (cells + 1) (slots + 6) Q (F0 m (pc + 3) ls (.int r :: rest))) : W p l e R s m args below meth c H locs cells slots Q (F0 m pc ls st0) := by
  have hF := va_free hD hS hA isC hC
  refine va_calli (vx_runSW (As := As) (rest := rest) F (hM H.size) (vx_cwSW n F.2.2.2.2 hG hw rfl rfl hd hrm) ⟨xblind, k_xpre hN hC9 hZ hK hP hD hS hA isC hC hnC⟩ rfl hn0 hsize hstack (lv_room hW) hdg hcr) hS (fun q _ h => hF q h) hF (fun r u t H1 locs1 ht hvm hw hB hz1 hk1 hS1 => ?_)
  obtain ⟨hP1, hD1⟩ := hB
  rw [ht] at hP1
  obtain ⟨hP2, hD2⟩ := va_join hP hD isC isR hC hR hn hdis hk1 hF hP1 hD1
  exact kk r u H1 locs1 hw hP2 hD2 hS1
theorem k_sld {b L i : Nat} {xs : Nat → Int32} {A : Nat → Prop} {H0 : Heap} (hx : p.tables.exec = Jvm.exec) (hb : c.code = cc) (hX : va_X b L xs s H0) (hbl : b < H0.size) (hbA : ¬ A b) (hS : va_S A H0 H locs) (hi : i < L) (hL : L ≤ 2560) (hdg : decode cc pc = .ok (.iaload, 1))
    (kk : W p l e R s m args below meth c H locs cells slots Q (F0 m (pc + 1) ls (.int (xs i) :: rest))) : W p l e R s m args below meth c H locs cells slots Q (F0 m pc ls (.int (nI i) :: .ref b :: rest)) := by
  refine va_sld hx hb hX hbl hbA hS (vp_in_nI hi (by omega)) hdg ?_
  rw [nI_clamp (by omega)]; exact kk
end KM
/-! what is shown goes on being counted -/
theorem AJ_come {a : AS} {x : Int32} (h : AJ a) : AJ (a_come x a) := by
  by_cases e : a.1 4 < a.1 0
  · rw [a_come_t e]; exact h
  · rw [a_come_f e]; exact h
theorem AJ_row {a : AS} {f : Nat} (h : AJ a) : ∀ k : Nat, AJ (a_row f k a)
  | 0 => h
  | k + 1 => AJ_come (AJ_row h k)
theorem AJ_turn {a : AS} (h : AJ a) (h11 : a.1 11 < 100) : AJ (a_turn a) := by
  refine ⟨?_, fun f hf => ?_⟩
  · show (if a_out a = 1 then a.1 15 + 1 else a.1 15) = cntS (upd (a.2 5) (a.1 11) (nI (a_out a))) 100
    rw [cntS_upd (h.2 _ (Nat.le_refl _)) 100 h11, ← h.1]
    have ho := a_out_le a
    by_cases e : a_out a = 1
    · rw [if_pos e, if_pos (by rw [e])]
    · rw [if_neg e, if_neg (fun z => e ((nI_eq (by omega) (by decide)).mp z))]
  · have hf : a.1 11 + 1 ≤ f := hf
    show ¬ upd (a.2 5) (a.1 11) (nI (a_out a)) f = nI 1
    rw [upd_n (by omega)]
    exact h.2 f (by omega)
theorem AJ_play {a : AS} (hI : AI a) (h : AJ a) : AJ (a_play a) := by
  unfold a_play
  by_cases h9 : a.1 9 = 0
  · rw [if_pos h9]
    split
    · exact AJ_turn (a := a_begin a) h (show a.1 11 < 100 by have := hI.2.2.2.2.2.2.2.2 h9; omega)
    · exact h
  · rw [if_neg h9]
    split
    · next h2 => exact AJ_turn h h2.1
    · exact h
theorem AJ_pass {a : AS} (hI : AI a) (h : AJ a) : AJ (a_pass a) := AJ_play (a := a_ask (a_drive a)) (AI_ask (AI_drive hI)) h
theorem AJ_adv {a : AS} (hI : AI a) (h : AJ a) : ∀ k : Nat, a.1 7 + k ≤ 20000 → AJ (a_adv k a)
  | 0, _ => h
  | k + 1, hk => AJ_pass (AI_adv hI k (by omega)) (AJ_adv hI h k (by omega))
