/-! the law's loop: what holds at its head -/
abbrev LA (s : State) : Nat → Prop := fun q => s.heap.size ≤ q
def LCx (p : Program) (l : Launch) (s : State) (m : MethodId) (meth : Method) (c : Code) (b L : Nat) (xs : Nat → Int32) (D : va_G) (cI cZ cJ : ClassId) : Prop :=
  CallFix p m c cL_law 7 s #[Value.ref b] wsL_law RL ∧ meth.sig.returnType = ret ∧ meth.locks = false ∧ NX s ∧ NC s ∧ ZQ (LA s) s s.heap ∧ va_K D vwCl (TY3 cI cZ cJ) s ∧ va_X b L xs s s.heap ∧ b < s.heap.size ∧ L ≤ 2560 ∧ l.stackTraces = false
abbrev LWs (cI cZ cJ : ClassId) (q : Nat → Nat) (a : AS) (hd th : Nat) (rg cm co : Nat → Int32) (f9 : Nat → Int64) : va_W := XWa cI cZ q a ++ (MW cI cZ q a hd rg cm th co ++ OW cJ q f9)
abbrev LG (p : Program) (l : Launch) (e : Env) (s : State) (m : MethodId) (below : List Frame) (meth : Method) (c : Code) (b : Nat) (H : Heap) (locs : List Loc) (k : Nat) (g : JFrame) : Prop := W p l e room_1 s m #[Value.ref b] below meth c H locs (18 + k) (1975 + 6 * k) (lw_Z below #[Value.ref b] s) g
/-- from any such state the law comes to its end: with k turns' room behind it, at the place pc, the next turn the i-th -/
def LGo (p : Program) (l : Launch) (e : Env) (s : State) (m : MethodId) (below : List Frame) (meth : Method) (c : Code) (b : Nat) (D : va_G) (cI cZ cJ : ClassId) (q : Nat → Nat) (k i pc : Nat) : Prop :=
  ∀ (a : AS) (hd th : Nat) (rg cm co : Nat → Int32) (f9 : Nat → Int64) (H : Heap) (locs : List Loc) (ls : Array Slot), AI a → AJ a → MR a hd rg cm → va_P D vwCl (LWs cI cZ cJ q a hd th rg cm co f9) H → va_D (LA s) (LWs cI cZ cJ q a hd th rg cm co f9) → va_S (LA s) s.heap H locs →
    lv_has ls 7 [(4, .int (nI (5 * i))), (0, .ref b), (1, .ref (q 0)), (2, .ref (q 50)), (3, .ref (q 90))] → LG p l e s m below meth c b H locs k (F0 m pc ls [])
theorem k_lcmp {p : Program} {l : Launch} {e : Env} {R : Room} {s : State} {m : MethodId} {args : Array Value} {below : List Frame} {meth : Method} {c : Code} {H : Heap} {locs : List Loc} {cells slots : Nat} {Q : State → Prop} {cc : ByteArray} {pc : Nat} {ls : Array Slot} {rest : List Value} {x y : Int64} (hx : p.tables.exec = Jvm.exec) (hb : c.code = cc) (he : x = y) (hdg : decode cc pc = .ok (.lcmp, 1))
    (k : W p l e R s m args below meth c H locs cells slots Q (F0 m (pc + 1) ls (.int (nI 0) :: rest))) : W p l e R s m args below meth c H locs cells slots Q (F0 m pc ls (.long y :: .long x :: rest)) := by
  subst he
  refine W.lcmp hx hb hdg ?_
  rw [show lg_cmp x x = nI 0 by simp [lg_cmp]; rfl]
  exact k
theorem k_iand {p : Program} {l : Launch} {e : Env} {R : Room} {s : State} {m : MethodId} {args : Array Value} {below : List Frame} {meth : Method} {c : Code} {H : Heap} {locs : List Loc} {cells slots : Nat} {Q : State → Prop} {cc : ByteArray} {pc : Nat} {ls : Array Slot} {rest : List Value} {x : Int32} (hx : p.tables.exec = Jvm.exec) (hb : c.code = cc) (hdg : decode cc pc = .ok (.iand, 1))
    (k : ∀ j : Nat, j < 32 → W p l e R s m args below meth c H locs cells slots Q (F0 m (pc + 1) ls (.int (nI j) :: rest))) : W p l e R s m args below meth c H locs cells slots Q (F0 m pc ls (.int (nI 31) :: .int x :: rest)) := by
  obtain ⟨j, hj, ej⟩ := pk_andE x (m := nI 31) 5 (by decide)
  refine lv_iand hx hb hdg ?_
  rw [ej]
  exact k j hj
theorem k_len {L i : Nat} (hL : L ≤ 2560) (hi : i ≤ 2560) : (nI L - nI 5) < nI i ↔ L < i + 5 := by
  have e1 : (nI L - nI 5).toInt = (L : Int) - 5 := pk_sub_toInt (by omega) (by omega)
  have e2 : (nI i).toInt = i := nI_toInt (by omega)
  rw [Int32.lt_iff_toInt_lt, e1, e2]
  omega
theorem inR_vp {x : Int32} {n : Nat} (hn : n < 2 ^ 31) (h : inR x n) : vp_in x n := by
  obtain ⟨k, hk, rfl⟩ := inR_nI hn h
  exact vp_in_nI hk hn
theorem row_le {x y : Int32} (h1 : inR x 300) (h2 : y ≤ nI 300 - x) (h3 : oneTo y 30) : x.toNatClampNeg + y.toNatClampNeg ≤ 300 := by
  have h5 := oneTo_nI (by decide) h3
  have h6 := inR_lt (by decide) h1
  have h7 := h2
  rw [h5.1, inR_eq (by decide) h1, pk_sub (by omega)] at h7
  have h8 := (nI_leI (by omega) (by omega)).mp h7
  omega
theorem adv_le {a : AS} {x : Int32} (hI : AI a) (h1 : oneTo x 100) (h2 : nI (a.1 7) + x ≤ nI 20000) : a.1 7 + x.toNatClampNeg ≤ 20000 := by
  have h5 := oneTo_nI (by decide) h1
  have h7 : a.1 7 ≤ 20000 := hI.1.2.2.2.1
  have h6 := h2
  rw [h5.1, nI_add] at h6
  exact (nI_leI (by omega) (by decide)).mp h6
