/-! the law, from its entry -/
abbrev LQ (uX uM : Nat → Nat) (qo : Nat) : Nat → Nat := fun k => if k = 90 then qo else if 50 ≤ k then uM k else uX k
set_option maxHeartbeats 4000000 in
set_option maxRecDepth 100000 in
/-- YOUR PART: from the entry, for every script of at most 2560 ints, the law comes to its end with true -/
theorem whole_start {p : Program} {e : Env} {s : State} {m : MethodId} {below : List Frame} {meth : Method} {c : Code} (l : Launch) (hflags : l.flags = flags0) {b L : Nat} {xs : Nat → Int32} (hL : L ≤ 2560) (C0 : lw_At p s m meth c b L xs) : W p l e room_1 s m #[Value.ref b] below meth c s.heap [] 0 0 (lw_Z below #[Value.ref b] s) (entryFrame m ([Value.ref b] : List Value).toArray 7) := by
  obtain ⟨D, cI, cZ, cJ, hCx⟩ := law_cx l hflags hL C0
  obtain ⟨hfix, hr, hlk, hN, hC, hZ, hK3, hX, hbl, -, hfl⟩ := id hCx
  obtain ⟨hx, hb, hml, hown, hts⟩ := id hfix
  have hK : va_K D vwCl (TY cI cZ) s := hK3.sub [0, 1] rfl
  have hA : ∀ q : Nat, s.heap.size ≤ q → LA s q := fun _ h => h
  have hinX3 : ∀ w ∈ wsX30, w ∈ wsL_law := inlX3
  have hinX4 : ∀ w ∈ wsX40, w ∈ wsL_law := inlX4
  have htl : ∀ w ∈ lw_tbl, w.before #[Value.ref b] s = true := C0.2.2.2.2.2.1
  have hw1 : ∀ (i : Nat) (w : Cond), wsL_law0_r1[i]? = some w → w.before #[Value.ref b] s = true := fun i w h => htl w (wsL_law0_r1_in w (List.mem_of_getElem? h))
  have hw3 : ∀ (i : Nat) (w : Cond), wsL_law0_r3[i]? = some w → w.before #[Value.ref b] s = true := fun i w h => htl w (wsL_law0_r3_in w (List.mem_of_getElem? h))
  have hS : va_S (LA s) s.heap s.heap [] := va_S.rf
  have hP : va_P D vwCl [] s.heap := fun k q h => by simp at h
  have hD : va_D (LA s) [] := ⟨fun i j p q h => by simp at h, fun k q h => by simp at h⟩
  have hl := lv_entry ([.ref b]) (n := 7) (Nat.le_of_ble_eq_true rfl)
  rw [lg_entry_eq]
  generalize (lg_sl ([.ref b]) ++ List.replicate (7 - (lg_sl ([.ref b])).length) Slot.unset).toArray = ls at hl ⊢
  have hl : lv_has ls 7 [(0, .ref b)] := hl
  refine va_new (ci := 3) (fs := [.null, .null, .null, .int (nI 0)]) (C := RX3) (T := TX3) (N := 4) hx hb hts hinX3 tyX3 tyX3_ok hown (hw1 0 _ rfl) (hw1 1 _ rfl) (hw1 2 _ rfl) hK hP hD hS hA rfl (fun j hj => by rcases (show j = 0 ∨ j = 1 ∨ j = 2 ∨ j = 3 by omega) with rfl | rfl | rfl | rfl <;> rfl) (Nat.le_of_ble_eq_true rfl) (Nat.le_of_ble_eq_true rfl) dL_law_0 (fun h0 H hP hD hS => ?_)
  have hP : va_P D vwCl [(h0, .inr (3, [.null, .null, .null, .int (nI 0)]))] H := hP
  have hD : va_D (LA s) [(h0, .inr (3, [.null, .null, .null, .int (nI 0)]))] := hD
  refine lv_dup hx hb dL_law_3 rfl ?_
  refine k_callI (n := 0) (wr := []) (As := []) (rest := [.ref h0]) hfix hN hK hP hD hS hA hl.1 (c_X3_init l D cI cZ h0) gL_law_X3_init rfl (hw1 2 _ rfl) (hw1 7 _ rfl) (hw1 8 _ rfl) rfl (by decide +kernel) rfl ⟨Nat.le_of_ble_eq_true rfl, Nat.le_of_ble_eq_true rfl⟩ [0] [] rfl rfl (by decide) (by decide) (by decide) rfl (Nat.le_of_ble_eq_true rfl) ⟨Nat.le_of_ble_eq_true rfl, Nat.le_of_ble_eq_true rfl⟩ dL_law_4 (fun uX H locs hw_4 hP1 hD1 hS1 => ?_)
  clear hP hD hS
  subst hw_4
  have hS := hS1
  have hP : va_P D vwCl (XWa cI cZ uX a_init) H := hP1
  have hD : va_D (LA s) (XWa cI cZ uX a_init) := hD1
  refine lv_astore_n (lv' := [(1, .ref (uX 0)), (0, .ref b)]) hx hb dL_law_7 rfl hl (by decide) rfl (fun ls hl => ?_)
  refine va_new (ci := 4) (fs := [.int (nI 0), .int (nI 0), .int (nI 0), .int (nI 0), .null, .null, .int (nI 0), .int (nI 0), .int (nI 0), .int (nI 0), .int (nI 0), .null, .null, .null, .int (nI 0), .null, .null, .int (nI 0), .int (nI 0), .int (nI 0), .int (nI 0), .int (nI 0)]) (C := RX4) (T := TX4) (N := 22) hx hb hts hinX4 tyX4 tyX4_ok hown (hw1 3 _ rfl) (hw1 4 _ rfl) (hw1 5 _ rfl) hK hP hD hS hA rfl (fun j hj => by rcases (show j = 0 ∨ j = 1 ∨ j = 2 ∨ j = 3 ∨ j = 4 ∨ j = 5 ∨ j = 6 ∨ j = 7 ∨ j = 8 ∨ j = 9 ∨ j = 10 ∨ j = 11 ∨ j = 12 ∨ j = 13 ∨ j = 14 ∨ j = 15 ∨ j = 16 ∨ j = 17 ∨ j = 18 ∨ j = 19 ∨ j = 20 ∨ j = 21 by omega) with rfl | rfl | rfl | rfl | rfl | rfl | rfl | rfl | rfl | rfl | rfl | rfl | rfl | rfl | rfl | rfl | rfl | rfl | rfl | rfl | rfl | rfl <;> rfl) (Nat.le_of_ble_eq_true rfl) (Nat.le_of_ble_eq_true rfl) dL_law_8 (fun h5 H hP hD hS => ?_)
  refine lv_dup hx hb dL_law_11 rfl ?_
  refine k_callI (n := 0) (wr := XWa cI cZ uX a_init) (As := []) (rest := [.ref h5]) hfix hN hK hP hD hS hA hl.1 (c_X4_init l D cI cZ h5) gL_law_X4_init rfl (hw1 5 _ rfl) (hw3 9 _ rfl) (hw3 10 _ rfl) rfl (by decide +kernel) rfl ⟨Nat.le_of_ble_eq_true rfl, Nat.le_of_ble_eq_true rfl⟩ [9] [0, 1, 2, 3, 4, 5, 6, 7, 8] rfl rfl (by decide) (by decide) (by decide) rfl (Nat.le_of_ble_eq_true rfl) ⟨Nat.le_of_ble_eq_true rfl, Nat.le_of_ble_eq_true rfl⟩ dL_law_12 (fun uM H locs hw_12 hP1 hD1 hS1 => ?_)
  clear hP hD hS
  subst hw_12
  have hS := hS1
  have hP : va_P D vwCl (XWa cI cZ uX a_init ++ MW cI cZ uM a_init 0 (fun _ => 0) (fun _ => 0) 0 (fun _ => 0)) H := hP1
  have hD : va_D (LA s) (XWa cI cZ uX a_init ++ MW cI cZ uM a_init 0 (fun _ => 0) (fun _ => 0) 0 (fun _ => 0)) := hD1
  refine W.widen (k := 17) (n := 1974) (by omega) (by omega) ?_
  refine lv_astore_n (lv' := [(2, .ref (uM 50)), (1, .ref (uX 0)), (0, .ref b)]) hx hb dL_law_15 rfl hl (by decide) rfl (fun ls hl => ?_)
  refine lv_iconst (v := nI 1) hx hb dL_law_16 (by decide) ?_
  refine va_newa (R := room_1) (cells := 17) (slots := 1974) (n := nI 1) (N' := 1) (atype := .long) (ty := .long) (a0 := (1, .inr (.inl (fun _ => 0)))) hx hb (hw1 6 _ rfl) rfl hK3 hP hD hS hA (fun cA => rfl) (by decide) (by decide) (by decide) (Nat.le_of_ble_eq_true rfl) (Nat.le_of_ble_eq_true rfl) dL_law_17 (fun qo cA H hKn hP hD hS => ?_)
  have hcA : cA = cJ := by
    have h1 : s.vm.findClass ("[" ++ (FieldType.long).toString) = some cA := (hKn.2 3 (cA, .long) rfl).2
    have h2 : s.vm.findClass ("[" ++ (FieldType.long).toString) = some cJ := (hK3.2 2 (cJ, .long) rfl).2
    exact Option.some.inj (h1.symm.trans h2)
  subst hcA
  refine lv_astore_n (lv' := [(3, .ref qo), (2, .ref (uM 50)), (1, .ref (uX 0)), (0, .ref b)]) hx hb dL_law_19 rfl hl (by decide) rfl (fun ls hl => ?_)
  refine lv_iconst (v := nI 0) hx hb dL_law_20 (by decide) ?_
  refine lv_istore (lv' := [(4, .int (nI 0)), (3, .ref qo), (2, .ref (uM 50)), (1, .ref (uX 0)), (0, .ref b)]) hx hb dL_law_21 hl (by decide) rfl (fun ls hl => ?_)
  have hP : va_P D vwCl (LWs cI cZ cA (LQ uX uM qo) a_init 0 0 (fun _ => 0) (fun _ => 0) (fun _ => 0) (fun _ => 0)) H := hP
  have hD : va_D (LA s) (LWs cI cZ cA (LQ uX uM qo) a_init 0 0 (fun _ => 0) (fun _ => 0) (fun _ => 0) (fun _ => 0)) := hD
  have hl : lv_has ls 7 [(4, .int (nI (5 * 0))), (0, .ref b), (1, .ref (LQ uX uM qo 0)), (2, .ref (LQ uX uM qo 50)), (3, .ref (LQ uX uM qo 90))] := lv_sub hl [0, 4, 3, 2, 1] rfl
  exact law_loop (q := LQ uX uM qo) hCx (L + 1) 0 (by omega) (Nat.zero_le L) a_init 0 0 (fun _ => 0) (fun _ => 0) (fun _ => 0) (fun _ => 0) H _ ls AI_init AJ_init MR_init hP hD hS hl
