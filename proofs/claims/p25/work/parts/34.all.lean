/-! the law's digest of all that can be asked -/
def h1A (a : AS) : Int64 := (((((((nI (a.1 7)).toInt64 * 41) + (nI (a.1 4)).toInt64) * 10007) + (nI (a.1 6)).toInt64) * 3) + ((if nI (a.1 5) = 0 then nI 0 else nI 1)).toInt64)
def h2A (a : AS) : Int64 := ((((((((h1A a * 301) + (nI (a.1 8)).toInt64) * 103) + ((if a.1 11 < 100 then nI (a.1 11) else (-1))).toInt64) * 20011) + (tT a).toInt64) * 101) + (nI (a_fill a)).toInt64)
def h3A (a : AS) : Int64 := ((((((h2A a * 101) + (nI (a.1 15)).toInt64) * 101) + (nI (cldN (a.2 2) (a.1 11))).toInt64) * 40009) + ((if a.1 9 = 0 ∨ 100 ≤ a.1 11 then nI 0 else nI (a.1 12) - nI (a.1 10) - nI (10 * a.1 11))).toInt64)
def hPn (f : Nat → Int32) (h : Int64) : Nat → Int64
  | 0 => h
  | i + 1 => hPn f h i * 2 + (if (if f (nI (7 * i)).toNatClampNeg = 0 then nI 0 else nI 1) = 0 then nI 0 else nI 1).toInt64
def hFn (f : Nat → Int32) (h : Int64) : Nat → Int64
  | 0 => h
  | i + 1 => hFn f h i * 5 + (f (nI (3 * i)).toNatClampNeg).toInt64
def a_all (a : AS) : Int64 := hFn (a.2 5) (hPn (a.2 2) (h3A a) 43) 34
set_option maxHeartbeats 4000000 in
set_option maxRecDepth 100000 in
theorem c_L_all (l : Launch) (D : va_G) (cI cZ : ClassId) (hfl : l.stackTraces = false) (q : Nat → Nat) (a : AS) (hI : AI a) : kMh l yL_all wsL_all 7 160 77 462 D (TY cI cZ) [.ref (q 0)] (XWa cI cZ q a) (XWa cI cZ q a) (a_all a) 0 := by
  intro sz
  refine k_ing (sz := sz) (Qc := fun A => va_Ql (fun (x : Int64) (_ : Unit) => x = a_all a) (gB D A (XWa cI cZ q a) (sz + 0)) A) (cc := cL_all) (maxL := 4) (ret := (some .long)) (by decide) rfl (Nat.le_of_ble_eq_true rfl) ?_
  intro p e s m below meth c A ls hfix hr hlk hN hC hZ hsz hP hK hD hA hS hl
  subst hsz
  have hfix : CallFix p m c cL_all 4 s [.ref (q 0)].toArray wsL_all RL := hfix
  have hl : lv_has ls 4 [(0, .ref (q 0))] := hl
  obtain ⟨hx, hb, hml, hown, hts⟩ := id hfix
  have L2 : ∀ (n i : Nat) (H : Heap) (locs : List Loc) (ls : Array Slot), i + n = 34 → va_P D vwCl (XWa cI cZ q a) H → va_D A (XWa cI cZ q a) → va_S A s.heap H locs → lv_has ls 4 [(3, .int (nI (3 * i))), (1, .long (hFn (a.2 5) (hPn (a.2 2) (h3A a) 43) i)), (0, .ref (q 0))] → W p l e ({ frames := 7, cells := 77, slots := 462, locals := 160 } : Room) s m [.ref (q 0)].toArray below meth c H locs (43 + i) (6 * (43 + i)) (MQ below (va_Ql (fun (x : Int64) (_ : Unit) => x = a_all a) (gB D A (XWa cI cZ q a) (s.heap.size + 0)) A) [.ref (q 0)].toArray s 77 462 A) (F0 m 156 ls []) := by
    intro n
    induction n with
    | zero =>
      intro i H locs ls hi hP hD hS hl
      obtain rfl : i = 34 := by omega
      refine lv_iload_n hx hb dL_all_156 rfl (lv_at hl 0 rfl) ?_
      refine lv_bipush (v := nI 100) hx hb dL_all_157 (by decide) ?_
      refine k_icmp_ge (tgt := 181) hx hb (by decide) (by decide) dL_all_159 (by decide) (fun _ => ?_) (fun h => absurd h (by decide))
      refine lv_lload_n hx hb dL_all_181 rfl (lv_at hl 1 rfl) ?_
      exact k_hret (g := 0) hx hb hr hlk hS.1 hP hD hS dL_all_182
    | succ n ih =>
      intro i H locs ls hi hP hD hS hl
      refine lv_iload_n hx hb dL_all_156 rfl (lv_at hl 0 rfl) ?_
      refine lv_bipush (v := nI 100) hx hb dL_all_157 (by decide) ?_
      refine k_icmp_ge (tgt := 181) hx hb (by omega) (by decide) dL_all_159 (by decide) (fun h => by omega) (fun hlt => ?_)
      refine lv_lload_n hx hb dL_all_162 rfl (lv_at hl 1 rfl) ?_
      refine lv_ldc2 (v := 5) hx hb hown (hts _ (List.mem_of_getElem? (i := 10) rfl)) dL_all_163 ?_
      refine lv_lmul hx hb dL_all_166 ?_
      refine lv_aload_n hx hb dL_all_167 rfl (lv_at hl 2 rfl) ?_
      refine lv_iload_n hx hb dL_all_168 rfl (lv_at hl 0 rfl) ?_
      refine k_callXi (n := 1) (wr := []) (wc := XWa cI cZ q a) (As := [.int (nI (3 * i))]) (rest := [.long (hFn (a.2 5) (hPn (a.2 2) (h3A a) 43) i * 5)]) hfix hN hC hZ hK hP hD hS hA hl.1 (c_X3_fate l D cI cZ hfl q a (nI (3 * i))) gL_all_X3_fate rfl (by decide +kernel) rfl ⟨Nat.le_of_ble_eq_true rfl, Nat.le_of_ble_eq_true rfl⟩ [0, 1, 2, 3, 4, 5, 6, 7, 8] [] rfl rfl (by decide) (by decide) (by decide) 0 rfl rfl rfl (Nat.le_of_ble_eq_true rfl) ⟨by show 43 + i + 1 ≤ 77; omega, by show 6 * (43 + i) + 6 ≤ 462; omega⟩ dL_all_169 (fun E ce q9 H locs hxe hP hD hS hz hce hcv hcl => absurd (nI_inR (by decide) (by omega)) hxe.2) (fun r u H locs hw hP hD hS => ?_)
      obtain rfl : r = a.2 5 (nI (3 * i)).toNatClampNeg := hw.2
      refine lv_i2l (v := (a.2 5 (nI (3 * i)).toNatClampNeg).toInt64) hx hb dL_all_172 rfl ?_
      refine lv_ladd hx hb dL_all_173 ?_
      refine lv_lstore_n (lv' := [(1, .long (hFn (a.2 5) (hPn (a.2 2) (h3A a) 43) (i + 1))), (3, .int (nI (3 * i))), (0, .ref (q 0))]) hx hb dL_all_174 rfl hl (by decide) rfl (fun ls hl => ?_)
      refine lv_iinc (v := nI (3 * i + 3)) (lv' := [(3, .int (nI (3 * i + 3))), (1, .long (hFn (a.2 5) (hPn (a.2 2) (h3A a) 43) (i + 1))), (0, .ref (q 0))]) hx hb dL_all_175 hl (k := 1) rfl (nI_add (3 * i) 3) (by decide) rfl (fun ls hl => ?_)
      refine lv_goto (tgt := 156) hx hb dL_all_178 (by decide) ?_
      exact ih (i + 1) H locs ls (by omega) hP hD hS hl
  have L1 : ∀ (n i : Nat) (H : Heap) (locs : List Loc) (ls : Array Slot), i + n = 43 → va_P D vwCl (XWa cI cZ q a) H → va_D A (XWa cI cZ q a) → va_S A s.heap H locs → lv_has ls 4 [(3, .int (nI (7 * i))), (1, .long (hPn (a.2 2) (h3A a) i)), (0, .ref (q 0))] → W p l e ({ frames := 7, cells := 77, slots := 462, locals := 160 } : Room) s m [.ref (q 0)].toArray below meth c H locs i (6 * i) (MQ below (va_Ql (fun (x : Int64) (_ : Unit) => x = a_all a) (gB D A (XWa cI cZ q a) (s.heap.size + 0)) A) [.ref (q 0)].toArray s 77 462 A) (F0 m 120 ls []) := by
    intro n
    induction n with
    | zero =>
      intro i H locs ls hi hP hD hS hl
      obtain rfl : i = 43 := by omega
      refine lv_iload_n hx hb dL_all_120 rfl (lv_at hl 0 rfl) ?_
      refine lv_sipush (v := nI 300) hx hb dL_all_121 (by decide) ?_
      refine k_icmp_ge (tgt := 154) hx hb (by decide) (by decide) dL_all_124 (by decide) (fun _ => ?_) (fun h => absurd h (by decide))
      refine lv_iconst (v := nI 0) hx hb dL_all_154 (by decide) ?_
      refine lv_istore_n (lv' := [(3, .int (nI 0)), (1, .long (hPn (a.2 2) (h3A a) 43)), (0, .ref (q 0))]) hx hb dL_all_155 rfl hl (by decide) rfl (fun ls hl => ?_)
      exact L2 34 0 H locs ls rfl hP hD hS hl
    | succ n ih =>
      intro i H locs ls hi hP hD hS hl
      refine lv_iload_n hx hb dL_all_120 rfl (lv_at hl 0 rfl) ?_
      refine lv_sipush (v := nI 300) hx hb dL_all_121 (by decide) ?_
      refine k_icmp_ge (tgt := 154) hx hb (by omega) (by decide) dL_all_124 (by decide) (fun h => by omega) (fun hlt => ?_)
      refine lv_lload_n hx hb dL_all_127 rfl (lv_at hl 1 rfl) ?_
      refine lv_ldc2 (v := 2) hx hb hown (hts _ (List.mem_of_getElem? (i := 9) rfl)) dL_all_128 ?_
      refine lv_lmul hx hb dL_all_131 ?_
      refine lv_aload_n hx hb dL_all_132 rfl (lv_at hl 2 rfl) ?_
      refine lv_iload_n hx hb dL_all_133 rfl (lv_at hl 0 rfl) ?_
      refine k_callXi (n := 1) (wr := []) (wc := XWa cI cZ q a) (As := [.int (nI (7 * i))]) (rest := [.long (hPn (a.2 2) (h3A a) i * 2)]) hfix hN hC hZ hK hP hD hS hA hl.1 (c_X3_has l D cI cZ hfl q a (nI (7 * i))) gL_all_X3_has rfl (by decide +kernel) rfl ⟨Nat.le_of_ble_eq_true rfl, Nat.le_of_ble_eq_true rfl⟩ [0, 1, 2, 3, 4, 5, 6, 7, 8] [] rfl rfl (by decide) (by decide) (by decide) 0 rfl rfl rfl (Nat.le_of_ble_eq_true rfl) ⟨by show i + 1 ≤ 77; omega, by show 6 * i + 6 ≤ 462; omega⟩ dL_all_134 (fun E ce q9 H locs hxe hP hD hS hz hce hcv hcl => absurd (nI_inR (by decide) (by omega)) hxe.2) (fun r u H locs hw hP hD hS => ?_)
      obtain rfl : r = (if a.2 2 (nI (7 * i)).toNatClampNeg = 0 then nI 0 else nI 1) := hw.2
      refine k_bsel (tgt := 144) (jn := 145) hx hb dL_all_137 (by decide) dL_all_140 dL_all_141 (by decide) dL_all_144 rfl ?_
      refine lv_i2l (v := (if (if a.2 2 (nI (7 * i)).toNatClampNeg = 0 then nI 0 else nI 1) = 0 then nI 0 else nI 1).toInt64) hx hb dL_all_145 rfl ?_
      refine lv_ladd hx hb dL_all_146 ?_
      refine lv_lstore_n (lv' := [(1, .long (hPn (a.2 2) (h3A a) (i + 1))), (3, .int (nI (7 * i))), (0, .ref (q 0))]) hx hb dL_all_147 rfl hl (by decide) rfl (fun ls hl => ?_)
      refine lv_iinc (v := nI (7 * i + 7)) (lv' := [(3, .int (nI (7 * i + 7))), (1, .long (hPn (a.2 2) (h3A a) (i + 1))), (0, .ref (q 0))]) hx hb dL_all_148 hl (k := 1) rfl (nI_add (7 * i) 7) (by decide) rfl (fun ls hl => ?_)
      refine lv_goto (tgt := 120) hx hb dL_all_151 (by decide) ?_
      exact ih (i + 1) H locs ls (by omega) hP hD hS hl
  have hS : ∃ (H : Heap) (locs : List Loc), H = s.heap ∧ locs = [] ∧ va_S A s.heap H locs := ⟨_, _, rfl, rfl, hS⟩
  obtain ⟨H, locs, hH, hlocs, hS⟩ := hS
  rw [← hH] at hP
  suffices hW9 : W p l e ({ frames := 7, cells := 77, slots := 462, locals := 160 } : Room) s m [.ref (q 0)].toArray below meth c H locs 0 0 (MQ below (va_Ql (fun (x : Int64) (_ : Unit) => x = a_all a) (gB D A (XWa cI cZ q a) (s.heap.size + 0)) A) [.ref (q 0)].toArray s 77 462 A) (F0 m 0 ls []) by rw [hH, hlocs] at hW9; exact hW9
  clear hH hlocs
  refine lv_aload_n hx hb dL_all_0 rfl (lv_at hl 0 rfl) ?_
  refine k_callVi (n := 0) (wr := []) (wc := XWa cI cZ q a) (As := []) (rest := []) hfix hN hK hP hD hS hA hl.1 (c_X3_tick l D cI cZ q a) gL_all_X3_tick rfl (by decide +kernel) rfl ⟨Nat.le_of_ble_eq_true rfl, Nat.le_of_ble_eq_true rfl⟩ [0, 1, 2, 3, 4, 5, 6, 7, 8] [] rfl rfl (by decide) (by decide) (by decide) 0 rfl rfl rfl (Nat.le_of_ble_eq_true rfl) ⟨Nat.le_of_ble_eq_true rfl, Nat.le_of_ble_eq_true rfl⟩ dL_all_1 (fun r_1 u H locs hw_1 hP hD hS => ?_)
  obtain rfl : r_1 = nI (a.1 7) := hw_1
  refine lv_i2l (v := (nI (a.1 7)).toInt64) hx hb dL_all_4 rfl ?_
  refine lv_ldc2 (v := 41) hx hb hown (hts _ (List.mem_of_getElem? (i := 1) rfl)) dL_all_5 ?_
  refine lv_lmul hx hb dL_all_8 ?_
  refine lv_aload_n hx hb dL_all_9 rfl (lv_at hl 0 rfl) ?_
  refine k_callVi (n := 0) (wr := []) (wc := XWa cI cZ q a) (As := []) (rest := [.long (((nI (a.1 7)).toInt64) * 41)]) hfix hN hK hP hD hS hA hl.1 (c_X3_waiting l D cI cZ q a) gL_all_X3_waiting rfl (by decide +kernel) rfl ⟨Nat.le_of_ble_eq_true rfl, Nat.le_of_ble_eq_true rfl⟩ [0, 1, 2, 3, 4, 5, 6, 7, 8] [] rfl rfl (by decide) (by decide) (by decide) 0 rfl rfl rfl (Nat.le_of_ble_eq_true rfl) ⟨Nat.le_of_ble_eq_true rfl, Nat.le_of_ble_eq_true rfl⟩ dL_all_10 (fun r_10 u H locs hw_10 hP hD hS => ?_)
  obtain rfl : r_10 = nI (a.1 4) := hw_10
  refine lv_i2l (v := (nI (a.1 4)).toInt64) hx hb dL_all_13 rfl ?_
  refine lv_ladd hx hb dL_all_14 ?_
  refine lv_ldc2 (v := 10007) hx hb hown (hts _ (List.mem_of_getElem? (i := 2) rfl)) dL_all_15 ?_
  refine lv_lmul hx hb dL_all_18 ?_
  refine lv_aload_n hx hb dL_all_19 rfl (lv_at hl 0 rfl) ?_
  refine k_callVi (n := 0) (wr := []) (wc := XWa cI cZ q a) (As := []) (rest := [.long (((((nI (a.1 7)).toInt64) * 41) + ((nI (a.1 4)).toInt64)) * 10007)]) hfix hN hK hP hD hS hA hl.1 (c_X3_lost l D cI cZ q a) gL_all_X3_lost rfl (by decide +kernel) rfl ⟨Nat.le_of_ble_eq_true rfl, Nat.le_of_ble_eq_true rfl⟩ [0, 1, 2, 3, 4, 5, 6, 7, 8] [] rfl rfl (by decide) (by decide) (by decide) 0 rfl rfl rfl (Nat.le_of_ble_eq_true rfl) ⟨Nat.le_of_ble_eq_true rfl, Nat.le_of_ble_eq_true rfl⟩ dL_all_20 (fun r_20 u H locs hw_20 hP hD hS => ?_)
  obtain rfl : r_20 = nI (a.1 6) := hw_20
  refine lv_i2l (v := (nI (a.1 6)).toInt64) hx hb dL_all_23 rfl ?_
  refine lv_ladd hx hb dL_all_24 ?_
  refine lv_ldc2 (v := 3) hx hb hown (hts _ (List.mem_of_getElem? (i := 3) rfl)) dL_all_25 ?_
  refine lv_lmul hx hb dL_all_28 ?_
  refine lv_aload_n hx hb dL_all_29 rfl (lv_at hl 0 rfl) ?_
  refine k_callVi (n := 0) (wr := []) (wc := XWa cI cZ q a) (As := []) (rest := [.long (((((((nI (a.1 7)).toInt64) * 41) + ((nI (a.1 4)).toInt64)) * 10007) + ((nI (a.1 6)).toInt64)) * 3)]) hfix hN hK hP hD hS hA hl.1 (c_X3_isPolled l D cI cZ q a hI) gL_all_X3_isPolled rfl (by decide +kernel) rfl ⟨Nat.le_of_ble_eq_true rfl, Nat.le_of_ble_eq_true rfl⟩ [0, 1, 2, 3, 4, 5, 6, 7, 8] [] rfl rfl (by decide) (by decide) (by decide) 0 rfl rfl rfl (Nat.le_of_ble_eq_true rfl) ⟨Nat.le_of_ble_eq_true rfl, Nat.le_of_ble_eq_true rfl⟩ dL_all_30 (fun r_30 u H locs hw_30 hP hD hS => ?_)
  obtain rfl : r_30 = nI (a.1 5) := hw_30
  refine k_bsel (tgt := 40) (jn := 41) hx hb dL_all_33 (by decide) dL_all_36 dL_all_37 (by decide) dL_all_40 rfl ?_
  refine lv_i2l (v := ((if nI (a.1 5) = 0 then nI 0 else nI 1)).toInt64) hx hb dL_all_41 rfl ?_
  refine lv_ladd hx hb dL_all_42 ?_
  refine lv_lstore_n (lv' := [(1, .long (h1A a)), (0, .ref (q 0))]) hx hb dL_all_43 rfl hl (by decide) rfl (fun ls hl => ?_)
  refine lv_lload_n hx hb dL_all_44 rfl (lv_at hl 0 rfl) ?_
  refine lv_ldc2 (v := 301) hx hb hown (hts _ (List.mem_of_getElem? (i := 4) rfl)) dL_all_45 ?_
  refine lv_lmul hx hb dL_all_48 ?_
  refine lv_aload_n hx hb dL_all_49 rfl (lv_at hl 1 rfl) ?_
  refine k_callVi (n := 0) (wr := []) (wc := XWa cI cZ q a) (As := []) (rest := [.long ((h1A a) * 301)]) hfix hN hK hP hD hS hA hl.1 (c_X3_asked l D cI cZ q a) gL_all_X3_asked rfl (by decide +kernel) rfl ⟨Nat.le_of_ble_eq_true rfl, Nat.le_of_ble_eq_true rfl⟩ [0, 1, 2, 3, 4, 5, 6, 7, 8] [] rfl rfl (by decide) (by decide) (by decide) 0 rfl rfl rfl (Nat.le_of_ble_eq_true rfl) ⟨Nat.le_of_ble_eq_true rfl, Nat.le_of_ble_eq_true rfl⟩ dL_all_50 (fun r_50 u H locs hw_50 hP hD hS => ?_)
  obtain rfl : r_50 = nI (a.1 8) := hw_50
  refine lv_i2l (v := (nI (a.1 8)).toInt64) hx hb dL_all_53 rfl ?_
  refine lv_ladd hx hb dL_all_54 ?_
  refine lv_ldc2 (v := 103) hx hb hown (hts _ (List.mem_of_getElem? (i := 5) rfl)) dL_all_55 ?_
  refine lv_lmul hx hb dL_all_58 ?_
  refine lv_aload_n hx hb dL_all_59 rfl (lv_at hl 1 rfl) ?_
  refine k_callVi (n := 0) (wr := []) (wc := XWa cI cZ q a) (As := []) (rest := [.long ((((h1A a) * 301) + ((nI (a.1 8)).toInt64)) * 103)]) hfix hN hK hP hD hS hA hl.1 (c_X3_next l D cI cZ q a hI) gL_all_X3_next rfl (by decide +kernel) rfl ⟨Nat.le_of_ble_eq_true rfl, Nat.le_of_ble_eq_true rfl⟩ [0, 1, 2, 3, 4, 5, 6, 7, 8] [] rfl rfl (by decide) (by decide) (by decide) 0 rfl rfl rfl (Nat.le_of_ble_eq_true rfl) ⟨Nat.le_of_ble_eq_true rfl, Nat.le_of_ble_eq_true rfl⟩ dL_all_60 (fun r_60 u H locs hw_60 hP hD hS => ?_)
  obtain rfl : r_60 = (if a.1 11 < 100 then nI (a.1 11) else (-1)) := hw_60
  refine lv_i2l (v := ((if a.1 11 < 100 then nI (a.1 11) else (-1))).toInt64) hx hb dL_all_63 rfl ?_
  refine lv_ladd hx hb dL_all_64 ?_
  refine lv_ldc2 (v := 20011) hx hb hown (hts _ (List.mem_of_getElem? (i := 6) rfl)) dL_all_65 ?_
  refine lv_lmul hx hb dL_all_68 ?_
  refine lv_aload_n hx hb dL_all_69 rfl (lv_at hl 1 rfl) ?_
  refine k_callVi (n := 0) (wr := []) (wc := XWa cI cZ q a) (As := []) (rest := [.long ((((((h1A a) * 301) + ((nI (a.1 8)).toInt64)) * 103) + (((if a.1 11 < 100 then nI (a.1 11) else (-1))).toInt64)) * 20011)]) hfix hN hK hP hD hS hA hl.1 (c_X3_turn l D cI cZ q a) gL_all_X3_turn rfl (by decide +kernel) rfl ⟨Nat.le_of_ble_eq_true rfl, Nat.le_of_ble_eq_true rfl⟩ [0, 1, 2, 3, 4, 5, 6, 7, 8] [] rfl rfl (by decide) (by decide) (by decide) 0 rfl rfl rfl (Nat.le_of_ble_eq_true rfl) ⟨Nat.le_of_ble_eq_true rfl, Nat.le_of_ble_eq_true rfl⟩ dL_all_70 (fun r_70 u H locs hw_70 hP hD hS => ?_)
  obtain rfl : r_70 = tT a := hw_70
  refine lv_i2l (v := (tT a).toInt64) hx hb dL_all_73 rfl ?_
  refine lv_ladd hx hb dL_all_74 ?_
  refine lv_ldc2 (v := 101) hx hb hown (hts _ (List.mem_of_getElem? (i := 7) rfl)) dL_all_75 ?_
  refine lv_lmul hx hb dL_all_78 ?_
  refine lv_aload_n hx hb dL_all_79 rfl (lv_at hl 1 rfl) ?_
  refine k_callVi (n := 0) (wr := []) (wc := XWa cI cZ q a) (As := []) (rest := [.long ((((((((h1A a) * 301) + ((nI (a.1 8)).toInt64)) * 103) + (((if a.1 11 < 100 then nI (a.1 11) else (-1))).toInt64)) * 20011) + ((tT a).toInt64)) * 101)]) hfix hN hK hP hD hS hA hl.1 (c_X3_fill l D cI cZ q a hI) gL_all_X3_fill rfl (by decide +kernel) rfl ⟨Nat.le_of_ble_eq_true rfl, Nat.le_of_ble_eq_true rfl⟩ [0, 1, 2, 3, 4, 5, 6, 7, 8] [] rfl rfl (by decide) (by decide) (by decide) 0 rfl rfl rfl (Nat.le_of_ble_eq_true rfl) ⟨Nat.le_of_ble_eq_true rfl, Nat.le_of_ble_eq_true rfl⟩ dL_all_80 (fun r_80 u H locs hw_80 hP hD hS => ?_)
  obtain rfl : r_80 = nI (a_fill a) := hw_80
  refine lv_i2l (v := (nI (a_fill a)).toInt64) hx hb dL_all_83 rfl ?_
  refine lv_ladd hx hb dL_all_84 ?_
  refine lv_lstore_n (lv' := [(1, .long (h2A a)), (0, .ref (q 0))]) hx hb dL_all_85 rfl hl (by decide) rfl (fun ls hl => ?_)
  refine lv_lload_n hx hb dL_all_86 rfl (lv_at hl 0 rfl) ?_
  refine lv_ldc2 (v := 101) hx hb hown (hts _ (List.mem_of_getElem? (i := 7) rfl)) dL_all_87 ?_
  refine lv_lmul hx hb dL_all_90 ?_
  refine lv_aload_n hx hb dL_all_91 rfl (lv_at hl 1 rfl) ?_
  refine k_callVi (n := 0) (wr := []) (wc := XWa cI cZ q a) (As := []) (rest := [.long ((h2A a) * 101)]) hfix hN hK hP hD hS hA hl.1 (c_X3_shown l D cI cZ q a) gL_all_X3_shown rfl (by decide +kernel) rfl ⟨Nat.le_of_ble_eq_true rfl, Nat.le_of_ble_eq_true rfl⟩ [0, 1, 2, 3, 4, 5, 6, 7, 8] [] rfl rfl (by decide) (by decide) (by decide) 0 rfl rfl rfl (Nat.le_of_ble_eq_true rfl) ⟨Nat.le_of_ble_eq_true rfl, Nat.le_of_ble_eq_true rfl⟩ dL_all_92 (fun r_92 u H locs hw_92 hP hD hS => ?_)
  obtain rfl : r_92 = nI (a.1 15) := hw_92
  refine lv_i2l (v := (nI (a.1 15)).toInt64) hx hb dL_all_95 rfl ?_
  refine lv_ladd hx hb dL_all_96 ?_
  refine lv_ldc2 (v := 101) hx hb hown (hts _ (List.mem_of_getElem? (i := 7) rfl)) dL_all_97 ?_
  refine lv_lmul hx hb dL_all_100 ?_
  refine lv_aload_n hx hb dL_all_101 rfl (lv_at hl 1 rfl) ?_
  refine k_callVi (n := 0) (wr := []) (wc := XWa cI cZ q a) (As := []) (rest := [.long ((((h2A a) * 101) + ((nI (a.1 15)).toInt64)) * 101)]) hfix hN hK hP hD hS hA hl.1 (c_X3_couldBe l D cI cZ q a hI) gL_all_X3_couldBe rfl (by decide +kernel) rfl ⟨Nat.le_of_ble_eq_true rfl, Nat.le_of_ble_eq_true rfl⟩ [0, 1, 2, 3, 4, 5, 6, 7, 8] [] rfl rfl (by decide) (by decide) (by decide) 0 rfl rfl rfl (Nat.le_of_ble_eq_true rfl) ⟨Nat.le_of_ble_eq_true rfl, Nat.le_of_ble_eq_true rfl⟩ dL_all_102 (fun r_102 u H locs hw_102 hP hD hS => ?_)
  obtain rfl : r_102 = nI (cldN (a.2 2) (a.1 11)) := hw_102
  refine lv_i2l (v := (nI (cldN (a.2 2) (a.1 11))).toInt64) hx hb dL_all_105 rfl ?_
  refine lv_ladd hx hb dL_all_106 ?_
  refine lv_ldc2 (v := 40009) hx hb hown (hts _ (List.mem_of_getElem? (i := 8) rfl)) dL_all_107 ?_
  refine lv_lmul hx hb dL_all_110 ?_
  refine lv_aload_n hx hb dL_all_111 rfl (lv_at hl 1 rfl) ?_
  refine k_callVi (n := 0) (wr := []) (wc := XWa cI cZ q a) (As := []) (rest := [.long ((((((h2A a) * 101) + ((nI (a.1 15)).toInt64)) * 101) + ((nI (cldN (a.2 2) (a.1 11))).toInt64)) * 40009)]) hfix hN hK hP hD hS hA hl.1 (c_X3_gap l D cI cZ q a hI) gL_all_X3_gap rfl (by decide +kernel) rfl ⟨Nat.le_of_ble_eq_true rfl, Nat.le_of_ble_eq_true rfl⟩ [0, 1, 2, 3, 4, 5, 6, 7, 8] [] rfl rfl (by decide) (by decide) (by decide) 0 rfl rfl rfl (Nat.le_of_ble_eq_true rfl) ⟨Nat.le_of_ble_eq_true rfl, Nat.le_of_ble_eq_true rfl⟩ dL_all_112 (fun r_112 u H locs hw_112 hP hD hS => ?_)
  obtain rfl : r_112 = (if a.1 9 = 0 ∨ 100 ≤ a.1 11 then nI 0 else nI (a.1 12) - nI (a.1 10) - nI (10 * a.1 11)) := hw_112
  refine lv_i2l (v := ((if a.1 9 = 0 ∨ 100 ≤ a.1 11 then nI 0 else nI (a.1 12) - nI (a.1 10) - nI (10 * a.1 11))).toInt64) hx hb dL_all_115 rfl ?_
  refine lv_ladd hx hb dL_all_116 ?_
  refine lv_lstore_n (lv' := [(1, .long (h3A a)), (0, .ref (q 0))]) hx hb dL_all_117 rfl hl (by decide) rfl (fun ls hl => ?_)
  refine lv_iconst (v := nI 0) hx hb dL_all_118 (by decide) ?_
  refine lv_istore_n (lv' := [(3, .int (nI 0)), (1, .long (h3A a)), (0, .ref (q 0))]) hx hb dL_all_119 rfl hl (by decide) rfl (fun ls hl => ?_)
  exact L1 43 0 H locs ls rfl hP hD hS hl
