/-! the law, from its entry into its sixth turn: 126 new cells by then -/
abbrev bigR : Room := { frames := 12, cells := 2000, slots := 20000, locals := 468 }
theorem k_stop {p : Program} {l : Launch} {e : Env} {R : Room} {s : State} {m : MethodId} {args : Array Value} {below : List Frame} {meth : Method} {c : Code} {H : Heap} {locs : List Loc} {cells slots n : Nat} {g : JFrame} (h : n ≤ H.size) : W p l e R s m args below meth c H locs cells slots (fun t => n ≤ t.heap.size) g := by
  intro T hT X
  refine ⟨T.setTop g, Steps.refl _, ?_⟩
  show n ≤ T.heap.size
  rw [hT]; exact h
set_option maxHeartbeats 4000000 in
set_option maxRecDepth 100000 in
theorem law_turn {p : Program} {l : Launch} {e : Env} {s : State} {m : MethodId} {below : List Frame} {meth : Method} {c : Code} {b L : Nat} {xs : Nat → Int32} {D : va_G} {cI cZ : ClassId} {A : Nat → Prop} (hfl : l.stackTraces = false) (hfix : CallFix p m c cL_law 11 s #[Value.ref b] wsL_law RL) (hN : NX s) (hC : NC s) (hZ : ZQ A s s.heap) (hK : va_K D vwCl (TY cI cZ) s) (hA : ∀ q, s.heap.size ≤ q → A q) (hL : 12 ≤ L) (hL2 : L ≤ 260) (hxs : ∀ i, i ≤ 5 → cV (xs (2 * i)) (nI (2 * i)) = nI 28) {q : Nat → Nat} {a : AS} {i : Nat} {H : Heap} {locs : List Loc} {ls : Array Slot} (hi : i ≤ 5) (hI : AI a) (hg : s.heap.size + 18 * (i + 1) ≤ H.size) (hP : va_P D vwCl ([(b, .inl (cI, L, .inl xs))] ++ (XWa cI cZ q a)) H) (hD : va_D A ([(b, .inl (cI, L, .inl xs))] ++ (XWa cI cZ q a))) (hS : va_S A s.heap H locs) (hl : lv_has ls 11 [(5, .int (nI i)), (4, .int (nI 1)), (3, .int (nI 4)), (2, .int (nI 16)), (1, .ref (q 0)), (0, .ref b)])
    (k : ∀ (H : Heap) (locs : List Loc) (ls : Array Slot), s.heap.size + 18 * (i + 2) ≤ H.size → va_P D vwCl ([(b, .inl (cI, L, .inl xs))] ++ (XWa cI cZ q a)) H → va_D A ([(b, .inl (cI, L, .inl xs))] ++ (XWa cI cZ q a)) → va_S A s.heap H locs → lv_has ls 11 [(6, .int (nI 28)), (5, .int (nI i)), (3, .int (nI 4)), (2, .int (nI 16)), (1, .ref (q 0)), (0, .ref b)] → W p l e bigR s m #[Value.ref b] below meth c H locs (335 + 175 * i + 172) (2744 + 1050 * i + 1032) (fun t => s.heap.size + 126 ≤ t.heap.size) (F0 m 253 ls [.int (nI 1)])) : W p l e bigR s m #[Value.ref b] below meth c H locs (335 + 175 * i) (2744 + 1050 * i) (fun t => s.heap.size + 126 ≤ t.heap.size) (F0 m 42 ls []) := by
  obtain ⟨hx, hb, hml, hown, hts⟩ := id hfix
  refine lv_iload hx hb dL_law_42 (lv_at hl 0 rfl) ?_
  refine lv_sipush (v := nI 150) hx hb dL_law_44 (by decide) ?_
  refine k_icmp_ge (tgt := 358) hx hb (by omega) (by decide) dL_law_47 (by decide) (fun h => by omega) (fun _ => ?_)
  refine lv_iload hx hb dL_law_50 (lv_at hl 1 rfl) ?_
  refine k_if_eq (tgt := 358) hx hb (by decide) dL_law_52 (by decide) (fun h => absurd h (by decide)) (fun _ => ?_)
  refine lv_aload_n hx hb dL_law_55 rfl (lv_at hl 5 rfl) ?_
  refine lv_iconst (v := nI 2) hx hb dL_law_56 (by decide) ?_
  refine lv_iload hx hb dL_law_57 (lv_at hl 0 rfl) ?_
  refine k_imul hx hb dL_law_59 ?_
  refine k_callSw (n := 2) (wr := (XWa cI cZ q a)) (wc := [(b, .inl (cI, L, .inl xs))]) (As := [.ref b, .int (nI (2 * i))]) (rest := []) hfix hN hK hP hD hS hA hl.1 (c_L_cell l D cI cZ b L (2 * i) xs (by omega) hL2) gL_law_L_cell rfl (by decide +kernel) rfl ⟨Nat.le_of_ble_eq_true rfl, Nat.le_of_ble_eq_true rfl⟩ [0] [1, 2, 3, 4, 5, 6, 7, 8, 9] rfl rfl (by decide) (by decide) (by decide) rfl (Nat.le_of_ble_eq_true rfl) ⟨by show 335 + 175 * i ≤ 2000; omega, by show 2744 + 1050 * i ≤ 20000; omega⟩ dL_law_60 (fun r u H locs hz8 hw hP hD hS => ?_)
  obtain rfl : r = nI 28 := by
    have hw : r = cV (xs (2 * i)) (nI (2 * i)) := hw
    rw [hw, hxs i hi]
  refine lv_istore (lv' := [(6, .int (nI 28)), (5, .int (nI i)), (4, .int (nI 1)), (3, .int (nI 4)), (2, .int (nI 16)), (1, .ref (q 0)), (0, .ref b)]) hx hb dL_law_63 hl (by decide) rfl (fun ls hl => ?_)
  refine lv_aload_n hx hb dL_law_65 rfl (lv_at hl 6 rfl) ?_
  refine lv_iconst (v := nI 2) hx hb dL_law_66 (by decide) ?_
  refine lv_iload hx hb dL_law_67 (lv_at hl 1 rfl) ?_
  refine k_imul hx hb dL_law_69 ?_
  refine lv_iconst (v := nI 1) hx hb dL_law_70 (by decide) ?_
  refine k_iadd hx hb dL_law_71 ?_
  refine k_callSw (n := 2) (wr := (XWa cI cZ q a)) (wc := [(b, .inl (cI, L, .inl xs))]) (As := [.ref b, .int (nI (2 * i + 1))]) (rest := []) hfix hN hK hP hD hS hA hl.1 (c_L_cell l D cI cZ b L (2 * i + 1) xs (by omega) hL2) gL_law_L_cell rfl (by decide +kernel) rfl ⟨Nat.le_of_ble_eq_true rfl, Nat.le_of_ble_eq_true rfl⟩ [9] [0, 1, 2, 3, 4, 5, 6, 7, 8] rfl rfl (by decide) (by decide) (by decide) rfl (Nat.le_of_ble_eq_true rfl) ⟨by show 335 + 175 * i ≤ 2000; omega, by show 2744 + 1050 * i ≤ 20000; omega⟩ dL_law_72 (fun r7 u H locs hz8 hw hP hD hS => ?_)
  refine lv_istore (lv' := [(7, .int r7), (6, .int (nI 28)), (5, .int (nI i)), (4, .int (nI 1)), (3, .int (nI 4)), (2, .int (nI 16)), (1, .ref (q 0)), (0, .ref b)]) hx hb dL_law_75 hl (by decide) rfl (fun ls hl => ?_)
  refine lv_iload hx hb dL_law_77 (lv_at hl 1 rfl) ?_
  refine lv_bipush (v := nI 16) hx hb dL_law_79 (by decide) ?_
  refine k_callSw (n := 2) (wr := ((XWa cI cZ q a) ++ [(b, .inl (cI, L, .inl xs))])) (wc := []) (As := [.int (nI 28), .int (nI 16)]) (rest := []) hfix hN hK hP hD hS hA hl.1 (c_L_some l D cI cZ (nI 28) (nI 16) (by decide +kernel)) gL_law_L_some rfl (by decide +kernel) rfl ⟨Nat.le_of_ble_eq_true rfl, Nat.le_of_ble_eq_true rfl⟩ [] [0, 1, 2, 3, 4, 5, 6, 7, 8, 9] rfl rfl (by decide) (by decide) (by decide) rfl (Nat.le_of_ble_eq_true rfl) ⟨by show 335 + 175 * i ≤ 2000; omega, by show 2744 + 1050 * i ≤ 20000; omega⟩ dL_law_81 (fun r u H locs hz8 hw hP hD hS => ?_)
  obtain rfl : r = nI 14 := by
    have hw : r = sV (nI 28) (nI 16) := hw
    rw [hw]; decide +kernel
  refine lv_istore (lv' := [(8, .int (nI 14)), (7, .int r7), (6, .int (nI 28)), (5, .int (nI i)), (4, .int (nI 1)), (3, .int (nI 4)), (2, .int (nI 16)), (1, .ref (q 0)), (0, .ref b)]) hx hb dL_law_84 hl (by decide) rfl (fun ls hl => ?_)
  refine lv_iload hx hb dL_law_86 (lv_at hl 0 rfl) ?_
  refine lv_bipush (v := nI 6) hx hb dL_law_88 (by decide) ?_
  refine k_icmp_ge (tgt := 105) hx hb (by decide) (by decide) dL_law_90 (by decide) (fun _ => ?_) (fun h => absurd h (by decide))
  refine lv_iload hx hb dL_law_105 (lv_at hl 0 rfl) ?_
  refine lv_bipush (v := nI 13) hx hb dL_law_107 (by decide) ?_
  refine k_icmp_ge (tgt := 153) hx hb (by decide) (by decide) dL_law_109 (by decide) (fun _ => ?_) (fun h => absurd h (by decide))
  refine lv_iload hx hb dL_law_153 (lv_at hl 0 rfl) ?_
  refine lv_bipush (v := nI 14) hx hb dL_law_155 (by decide) ?_
  refine k_icmp_ge (tgt := 242) hx hb (by decide) (by decide) dL_law_157 (by decide) (fun _ => ?_) (fun h => absurd h (by decide))
  refine lv_iload hx hb dL_law_242 (lv_at hl 0 rfl) ?_
  refine lv_bipush (v := nI 15) hx hb dL_law_244 (by decide) ?_
  refine k_icmp_ge (tgt := 258) hx hb (by decide) (by decide) dL_law_246 (by decide) (fun h => absurd h (by decide)) (fun _ => ?_)
  refine lv_aload_n hx hb dL_law_249 rfl (lv_at hl 7 rfl) ?_
  refine k_callSg (n := 1) (wr := [(b, .inl (cI, L, .inl xs))]) (wc := (XWa cI cZ q a)) (As := [.ref (q 0)]) (rest := []) hfix hN hC hZ hK hP hD hS hA hl.1 (c_L_refused l D cI cZ hfl q a hI) gL_law_L_refused rfl (by decide +kernel) rfl ⟨Nat.le_of_ble_eq_true rfl, Nat.le_of_ble_eq_true rfl⟩ [0, 1, 2, 3, 4, 5, 6, 7, 8] [9] rfl rfl (by decide) (by decide) (by decide) rfl (Nat.le_of_ble_eq_true rfl) ⟨by show 335 + 175 * i + 172 ≤ 2000; omega, by show 2744 + 1050 * i + 1032 ≤ 20000; omega⟩ dL_law_250 (fun H locs hz hP hD hS => ?_)
  exact k H locs ls (by omega) hP hD hS (lv_sub hl [2, 3, 5, 6, 7, 8] rfl)
set_option maxHeartbeats 4000000 in
set_option maxRecDepth 100000 in
theorem law_turns {p : Program} {l : Launch} {e : Env} {s : State} {m : MethodId} {below : List Frame} {meth : Method} {c : Code} {b L : Nat} {xs : Nat → Int32} {D : va_G} {cI cZ : ClassId} {A : Nat → Prop} (hfl : l.stackTraces = false) (hfix : CallFix p m c cL_law 11 s #[Value.ref b] wsL_law RL) (hN : NX s) (hC : NC s) (hZ : ZQ A s s.heap) (hK : va_K D vwCl (TY cI cZ) s) (hA : ∀ q, s.heap.size ≤ q → A q) (hL : 12 ≤ L) (hL2 : L ≤ 260) (hxs : ∀ i, i ≤ 5 → cV (xs (2 * i)) (nI (2 * i)) = nI 28) {q : Nat → Nat} : ∀ (n i : Nat) (a : AS) (H : Heap) (locs : List Loc) (ls : Array Slot), i + n = 5 → AI a → a.1 4 = i → a.1 0 = 16 → a.1 11 = 0 → s.heap.size + 18 * (i + 1) ≤ H.size → va_P D vwCl ([(b, .inl (cI, L, .inl xs))] ++ (XWa cI cZ q a)) H → va_D A ([(b, .inl (cI, L, .inl xs))] ++ (XWa cI cZ q a)) → va_S A s.heap H locs → lv_has ls 11 [(5, .int (nI i)), (4, .int (nI 1)), (3, .int (nI 4)), (2, .int (nI 16)), (1, .ref (q 0)), (0, .ref b)] → W p l e bigR s m #[Value.ref b] below meth c H locs (335 + 175 * i) (2744 + 1050 * i) (fun t => s.heap.size + 126 ≤ t.heap.size) (F0 m 42 ls []) := by
  obtain ⟨hx, hb, hml, hown, hts⟩ := id hfix
  intro n
  induction n with
  | zero =>
    intro i a H locs ls hi hI h4 h0 h11 hg hP hD hS hl
    refine law_turn hfl hfix hN hC hZ hK hA hL hL2 hxs (by omega) hI hg hP hD hS hl (fun H locs ls hg hP hD hS hl => ?_)
    exact k_stop (by omega)
  | succ n ih =>
    intro i a H locs ls hi hI h4 h0 h11 hg hP hD hS hl
    refine law_turn hfl hfix hN hC hZ hK hA hL hL2 hxs (by omega) hI hg hP hD hS hl (fun H locs ls hg hP hD hS hl => ?_)
    refine lv_istore (lv' := [(4, .int (nI 1)), (6, .int (nI 28)), (5, .int (nI i)), (3, .int (nI 4)), (2, .int (nI 16)), (1, .ref (q 0)), (0, .ref b)]) hx hb dL_law_253 hl (by decide) rfl (fun ls hl => ?_)
    refine lv_goto (tgt := 328) hx hb dL_law_255 (by decide) ?_
    refine lv_iload hx hb dL_law_328 (lv_at hl 0 rfl) ?_
    refine k_if_eq (tgt := 349) hx hb (by decide) dL_law_330 (by decide) (fun h => absurd h (by decide)) (fun _ => ?_)
    refine lv_aload_n hx hb dL_law_333 rfl (lv_at hl 5 rfl) ?_
    refine lv_iload_n hx hb dL_law_334 rfl (lv_at hl 4 rfl) ?_
    refine lv_iload hx hb dL_law_335 (lv_at hl 1 rfl) ?_
    refine lv_iconst (v := nI 3) hx hb dL_law_337 (by decide) ?_
    refine lv_ishr hx hb dL_law_338 ?_
    have e9 : nI 28 >>> (nI 3 &&& 31) = nI 3 := by decide +kernel
    rw [e9]
    refine k_callSg (n := 3) (wr := [(b, .inl (cI, L, .inl xs))]) (wc := (XWa cI cZ q a)) (As := [.ref (q 0), .int (nI 16), .int (nI 3)]) (rest := []) hfix hN hC hZ hK hP hD hS hA hl.1 (c_L_comes l D cI cZ hfl q a hI (by omega) h0 h11) gL_law_L_comes rfl (by decide +kernel) rfl ⟨Nat.le_of_ble_eq_true rfl, Nat.le_of_ble_eq_true rfl⟩ [1, 2, 3, 4, 5, 6, 7, 8, 9] [0] rfl rfl (by decide) (by decide) (by decide) rfl (Nat.le_of_ble_eq_true rfl) ⟨by show 335 + 175 * i + 172 + 3 ≤ 2000; omega, by show 2744 + 1050 * i + 1032 + 18 ≤ 20000; omega⟩ dL_law_339 (fun H locs hz hP hD hS => ?_)
    refine k_if_eq (tgt := 349) hx hb (by decide) dL_law_342 (by decide) (fun h => absurd h (by decide)) (fun _ => ?_)
    refine lv_iconst (v := nI 1) hx hb dL_law_345 (by decide) ?_
    refine lv_goto (tgt := 350) hx hb dL_law_346 (by decide) ?_
    refine lv_istore (lv' := [(4, .int (nI 1)), (6, .int (nI 28)), (5, .int (nI i)), (3, .int (nI 4)), (2, .int (nI 16)), (1, .ref (q 0)), (0, .ref b)]) hx hb dL_law_350 hl (by decide) rfl (fun ls hl => ?_)
    refine lv_iinc (v := nI (i + 1)) (lv' := [(5, .int (nI (i + 1))), (4, .int (nI 1)), (6, .int (nI 28)), (3, .int (nI 4)), (2, .int (nI 16)), (1, .ref (q 0)), (0, .ref b)]) hx hb dL_law_352 hl (k := 2) rfl (nI_add i 1) (by decide) rfl (fun ls hl => ?_)
    refine lv_goto (tgt := 42) hx hb dL_law_355 (by decide) ?_
    have hca : a_come (nI 1) a = sN (sA (sA a 0 (upd (a.2 0) (a.1 4) (nI 1))) 1 (upd (a.2 1) (a.1 4) (nI (a.1 7)))) 4 (a.1 4 + 1) := a_come_t (by omega)
    have g4 : (a_come (nI 1) a).1 4 = i + 1 := by rw [hca, ← h4]; rfl
    have g0 : (a_come (nI 1) a).1 0 = 16 := by rw [hca, ← h0]; rfl
    have g11 : (a_come (nI 1) a).1 11 = 0 := by rw [hca, ← h11]; rfl
    refine W.widen (k := 335 + 175 * (i + 1)) (n := 2744 + 1050 * (i + 1)) (by omega) (by omega) ?_
    exact ih (i + 1) (a_come (nI 1) a) H locs ls (by omega) (AI_come (nI 1) (vp_in_nI (by decide) (by decide)) hI) g4 g0 g11 (by omega) hP hD hS (lv_sub hl [0, 1, 3, 4, 5, 6] rfl)
set_option maxHeartbeats 4000000 in
set_option maxRecDepth 100000 in
theorem law_mid {p : Program} {l : Launch} {e : Env} {s : State} {m : MethodId} {below : List Frame} {meth : Method} {c : Code} {b L : Nat} {xs : Nat → Int32} {D : va_G} {cI cZ : ClassId} {A : Nat → Prop} (hfl : l.stackTraces = false) (hfix : CallFix p m c cL_law 11 s #[Value.ref b] wsL_law RL) (hN : NX s) (hC : NC s) (hZ : ZQ A s s.heap) (hK : va_K D vwCl (TY cI cZ) s) (hA : ∀ q, s.heap.size ≤ q → A q) (hL : 12 ≤ L) (hL2 : L ≤ 260) (hxs : ∀ i, i ≤ 5 → cV (xs (2 * i)) (nI (2 * i)) = nI 28) (htl : ∀ w ∈ lw_tbl, w.before #[Value.ref b] s = true) (hP : va_P D vwCl [(b, .inl (cI, L, .inl xs))] s.heap) (hD : va_D A [(b, .inl (cI, L, .inl xs))]) : W p l e bigR s m #[Value.ref b] below meth c s.heap [] 0 0 (fun t => s.heap.size + 126 ≤ t.heap.size) (entryFrame m ([Value.ref b] : List Value).toArray 11) := by
  obtain ⟨hx, hb, hml, hown, hts⟩ := id hfix
  have hinX3 : ∀ w ∈ wsX30, w ∈ wsL_law := inlX3
  have hw1 : ∀ (i : Nat) (w : Cond), wsL_law0_r1[i]? = some w → w.before #[Value.ref b] s = true := fun i w h => htl w (wsL_law0_r1_in w (List.mem_of_getElem? h))
  have hS : va_S A s.heap s.heap [] := va_S.rf
  have hl := lv_entry ([.ref b]) (n := 11) (Nat.le_of_ble_eq_true rfl)
  rw [lg_entry_eq]
  generalize (lg_sl ([.ref b]) ++ List.replicate (11 - (lg_sl ([.ref b])).length) Slot.unset).toArray = ls at hl ⊢
  have hl : lv_has ls 11 [(0, .ref b)] := hl
  refine va_new (ci := 3) (fs := [.null, .null, .null, .int (nI 0)]) (C := RX3) (T := TX3) (N := 4) hx hb hts hinX3 tyX3 tyX3_ok hown (hw1 0 _ rfl) (hw1 1 _ rfl) (hw1 2 _ rfl) hK hP hD hS hA rfl (fun j hj => by rcases (show j = 0 ∨ j = 1 ∨ j = 2 ∨ j = 3 by omega) with rfl | rfl | rfl | rfl <;> rfl) (Nat.le_of_ble_eq_true rfl) (Nat.le_of_ble_eq_true rfl) dL_law_0 (fun h0 H hP hD hS => ?_)
  refine lv_dup hx hb dL_law_3 rfl ?_
  refine k_callI (n := 0) (wr := [(b, .inl (cI, L, .inl xs))]) (As := []) (rest := [.ref h0]) hfix hN hK hP hD hS hA hl.1 (c_X3_init l D cI cZ h0) gL_law_X3_init rfl (hw1 2 _ rfl) (hw1 3 _ rfl) (hw1 4 _ rfl) rfl (by decide +kernel) rfl ⟨Nat.le_of_ble_eq_true rfl, Nat.le_of_ble_eq_true rfl⟩ [1] [0] rfl rfl (by decide) (by decide) (by decide) rfl (Nat.le_of_ble_eq_true rfl) ⟨Nat.le_of_ble_eq_true rfl, Nat.le_of_ble_eq_true rfl⟩ dL_law_4 (fun q H locs hw_4 hP1 hD1 hS1 => ?_)
  have hw_4 : q 0 = h0 := hw_4
  clear hP hD hS
  subst hw_4
  have hP := hP1
  have hD := hD1
  have hS := hS1
  refine lv_astore_n (lv' := [(1, .ref (q 0)), (0, .ref b)]) hx hb dL_law_7 rfl hl (by decide) rfl (fun ls hl => ?_)
  refine lv_bipush (v := nI 16) hx hb dL_law_8 (by decide) ?_
  refine lv_istore_n (lv' := [(2, .int (nI 16)), (1, .ref (q 0)), (0, .ref b)]) hx hb dL_law_10 rfl hl (by decide) rfl (fun ls hl => ?_)
  refine lv_iconst (v := nI 4) hx hb dL_law_11 (by decide) ?_
  refine lv_istore_n (lv' := [(3, .int (nI 4)), (2, .int (nI 16)), (1, .ref (q 0)), (0, .ref b)]) hx hb dL_law_12 rfl hl (by decide) rfl (fun ls hl => ?_)
  refine lv_aload_n hx hb dL_law_13 rfl (lv_at hl 2 rfl) ?_
  refine k_callSh (n := 1) (wr := [(b, .inl (cI, L, .inl xs))]) (wc := (XWa cI cZ q a_init)) (As := [.ref (q 0)]) (rest := []) hfix hN hC hZ hK hP hD hS hA hl.1 (c_L_all l D cI cZ hfl q a_init AI_init) gL_law_L_all rfl (by decide +kernel) rfl ⟨Nat.le_of_ble_eq_true rfl, Nat.le_of_ble_eq_true rfl⟩ [1, 2, 3, 4, 5, 6, 7, 8, 9] [0] rfl rfl (by decide) (by decide) (by decide) rfl (Nat.le_of_ble_eq_true rfl) ⟨Nat.le_of_ble_eq_true rfl, Nat.le_of_ble_eq_true rfl⟩ dL_law_14 (fun H locs hz1 hP hD hS => ?_)
  refine lv_aload_n hx hb dL_law_17 rfl (lv_at hl 2 rfl) ?_
  refine k_callSh (n := 1) (wr := [(b, .inl (cI, L, .inl xs))]) (wc := (XWa cI cZ q a_init)) (As := [.ref (q 0)]) (rest := [.long (a_all a_init)]) hfix hN hC hZ hK hP hD hS hA hl.1 (c_L_all l D cI cZ hfl q a_init AI_init) gL_law_L_all rfl (by decide +kernel) rfl ⟨Nat.le_of_ble_eq_true rfl, Nat.le_of_ble_eq_true rfl⟩ [1, 2, 3, 4, 5, 6, 7, 8, 9] [0] rfl rfl (by decide) (by decide) (by decide) rfl (Nat.le_of_ble_eq_true rfl) ⟨Nat.le_of_ble_eq_true rfl, Nat.le_of_ble_eq_true rfl⟩ dL_law_18 (fun H locs hz2 hP hD hS => ?_)
  refine k_lcmp hx hb rfl dL_law_21 ?_
  refine k_if_ne (tgt := 36) hx hb (by decide) dL_law_22 (by decide) (fun h => absurd rfl h) (fun _ => ?_)
  have hs9 : s.heap.size ≤ H.size := hS.1
  refine lv_aload_n hx hb dL_law_25 rfl (lv_at hl 2 rfl) ?_
  refine k_callSg (n := 1) (wr := [(b, .inl (cI, L, .inl xs))]) (wc := (XWa cI cZ q a_init)) (As := [.ref (q 0)]) (rest := []) hfix hN hC hZ hK hP hD hS hA hl.1 (c_L_refused l D cI cZ hfl q a_init AI_init) gL_law_L_refused rfl (by decide +kernel) rfl ⟨Nat.le_of_ble_eq_true rfl, Nat.le_of_ble_eq_true rfl⟩ [1, 2, 3, 4, 5, 6, 7, 8, 9] [0] rfl rfl (by decide) (by decide) (by decide) rfl (Nat.le_of_ble_eq_true rfl) ⟨Nat.le_of_ble_eq_true rfl, Nat.le_of_ble_eq_true rfl⟩ dL_law_26 (fun H locs hz hP hD hS => ?_)
  refine k_if_eq (tgt := 36) hx hb (by decide) dL_law_29 (by decide) (fun h => absurd h (by decide)) (fun _ => ?_)
  refine lv_iconst (v := nI 1) hx hb dL_law_32 (by decide) ?_
  refine lv_goto (tgt := 37) hx hb dL_law_33 (by decide) ?_
  refine lv_istore (lv' := [(4, .int (nI 1)), (3, .int (nI 4)), (2, .int (nI 16)), (1, .ref (q 0)), (0, .ref b)]) hx hb dL_law_37 hl (by decide) rfl (fun ls hl => ?_)
  refine lv_iconst (v := nI 0) hx hb dL_law_39 (by decide) ?_
  refine lv_istore (lv' := [(5, .int (nI 0)), (4, .int (nI 1)), (3, .int (nI 4)), (2, .int (nI 16)), (1, .ref (q 0)), (0, .ref b)]) hx hb dL_law_40 hl (by decide) rfl (fun ls hl => ?_)
  refine W.widen (k := 335 + 175 * 0) (n := 2744 + 1050 * 0) (Nat.le_of_ble_eq_true rfl) (Nat.le_of_ble_eq_true rfl) ?_
  exact law_turns hfl hfix hN hC hZ hK hA hL hL2 hxs 5 0 a_init H locs ls rfl AI_init rfl rfl rfl (by omega) hP hD hS (lv_sub hl [0, 1, 2, 3, 4, 5] rfl)
