/-! the law's loop, from its head -/
set_option maxHeartbeats 4000000 in
set_option maxRecDepth 100000 in
theorem law_loop {p : Program} {l : Launch} {e : Env} {s : State} {m : MethodId} {below : List Frame} {meth : Method} {c : Code} {b L : Nat} {xs : Nat → Int32} {D : va_G} {cI cZ cJ : ClassId} {q : Nat → Nat} (hCx : LCx p l s m meth c b L xs D cI cZ cJ) : ∀ (n k : Nat), L + 5 ≤ 5 * k + 5 * n → 5 * k ≤ L → LGo p l e s m below meth c b D cI cZ cJ q k k 23 := by
  intro n
  induction n with
  | zero => intro k h1 h2; omega
  | succ n ih =>
    intro k hn hk
    obtain ⟨hfix, hr, hlk, hN, hC, hZ, hK3, hX, hbl, hL, hfl⟩ := id hCx
    obtain ⟨hx, hb, hml, hown, hts⟩ := id hfix
    have hbA : ¬ LA s b := Nat.not_le.mpr hbl
    intro a hd th rg cm co f9 H locs ls hI hJ hR hP hD hS hl
    show W p l e room_1 s m #[Value.ref b] below meth c H locs (18 + k) (1975 + 6 * k) (lw_Z below #[Value.ref b] s) (F0 m 23 ls [])
    refine lv_iload hx hb dL_law_23 (lv_at hl 0 rfl) ?_
    refine lv_aload_n hx hb dL_law_25 rfl (lv_at hl 1 rfl) ?_
    refine va_slen hx hb hX hbl hbA hS dL_law_26 ?_
    refine lv_iconst (v := nI 5) hx hb dL_law_27 (by decide) ?_
    refine lv_isub hx hb dL_law_28 ?_
    refine lv_icmp_gt (tgt := 932) hx hb dL_law_29 (by decide) (fun hgt => ?_) (fun hle => ?_)
    · refine va_forget hS.2.2 ?_
      refine lv_iconst (v := 1) hx hb dL_law_932 (by decide) ?_
      refine W.widen (k := 1054) (n := 10239) (by omega) (by omega) ?_
      exact lw_ret hx hb hr hlk dL_law_933
    · have h5 : 5 * k + 5 ≤ L := by
        have h6 := mt (k_len hL (show 5 * k ≤ 2560 by omega)).mpr hle
        omega
      have hnext : LGo p l e s m below meth c b D cI cZ cJ q (k + 1) k 926 := by
        intro a hd th rg cm co f9 H locs ls hI hJ hR hP hD hS hl
        show W p l e room_1 s m #[Value.ref b] below meth c H locs (18 + (k + 1)) (1975 + 6 * (k + 1)) (lw_Z below #[Value.ref b] s) (F0 m 926 ls [])
        refine lv_iinc (v := nI (5 * (k + 1))) (lv' := [(4, .int (nI (5 * (k + 1)))), (0, .ref b), (1, .ref (q 0)), (2, .ref (q 50)), (3, .ref (q 90))]) hx hb dL_law_926 hl (k := 0) rfl (by rw [show Int32.ofInt 5 = nI 5 from rfl, nI_add]; rfl) (by decide) rfl (fun ls hl => ?_)
        refine lv_goto (tgt := 23) hx hb dL_law_929 (by decide) ?_
        exact ih (k + 1) (by omega) (by omega) a hd th rg cm co f9 H locs ls hI hJ hR hP hD hS hl
      refine lv_aload_n hx hb dL_law_32 rfl (lv_at hl 1 rfl) ?_
      refine lv_iload hx hb dL_law_33 (lv_at hl 0 rfl) ?_
      refine k_sld hx hb hX hbl hbA hS (by omega) hL dL_law_35 ?_
      refine lv_bipush (v := nI 31) hx hb dL_law_36 (by decide) ?_
      refine k_iand hx hb dL_law_38 (fun j hj => ?_)
      rcases (show j = 0 ∨ j = 1 ∨ j = 2 ∨ j = 3 ∨ j = 4 ∨ j = 5 ∨ j = 6 ∨ j = 7 ∨ j = 8 ∨ j = 9 ∨ j = 10 ∨ j = 11 ∨ j = 12 ∨ j = 13 ∨ j = 14 ∨ j = 15 ∨ j = 16 ∨ j = 17 ∨ j = 18 ∨ j = 19 ∨ j = 20 ∨ j = 21 ∨ 22 ≤ j by omega) with rfl | rfl | rfl | rfl | rfl | rfl | rfl | rfl | rfl | rfl | rfl | rfl | rfl | rfl | rfl | rfl | rfl | rfl | rfl | rfl | rfl | rfl | h22
      · exact lv_tableIn (off := 101) (tgt := 140) hx hb dL_law_39 (by decide) (by decide) (by decide) (by decide) (law_0 hCx h5 hnext a hd th rg cm co f9 H locs ls hI hJ hR hP hD hS hl)
      · exact lv_tableIn (off := 173) (tgt := 212) hx hb dL_law_39 (by decide) (by decide) (by decide) (by decide) (law_1 hCx h5 hnext a hd th rg cm co f9 H locs ls hI hJ hR hP hD hS hl)
      · exact lv_tableIn (off := 229) (tgt := 268) hx hb dL_law_39 (by decide) (by decide) (by decide) (by decide) (law_2 hCx h5 hnext a hd th rg cm co f9 H locs ls hI hJ hR hP hD hS hl)
      · exact lv_tableIn (off := 297) (tgt := 336) hx hb dL_law_39 (by decide) (by decide) (by decide) (by decide) (law_3 hCx h5 hnext a hd th rg cm co f9 H locs ls hI hJ hR hP hD hS hl)
      · exact lv_tableIn (off := 353) (tgt := 392) hx hb dL_law_39 (by decide) (by decide) (by decide) (by decide) (law_4 hCx h5 hnext a hd th rg cm co f9 H locs ls hI hJ hR hP hD hS hl)
      · exact lv_tableIn (off := 366) (tgt := 405) hx hb dL_law_39 (by decide) (by decide) (by decide) (by decide) (law_5 hCx h5 hnext a hd th rg cm co f9 H locs ls hI hJ hR hP hD hS hl)
      · exact lv_tableIn (off := 379) (tgt := 418) hx hb dL_law_39 (by decide) (by decide) (by decide) (by decide) (law_6 hCx h5 hnext a hd th rg cm co f9 H locs ls hI hJ hR hP hD hS hl)
      · exact lv_tableIn (off := 392) (tgt := 431) hx hb dL_law_39 (by decide) (by decide) (by decide) (by decide) (law_7 hCx h5 hnext a hd th rg cm co f9 H locs ls hI hJ hR hP hD hS hl)
      · exact lv_tableIn (off := 405) (tgt := 444) hx hb dL_law_39 (by decide) (by decide) (by decide) (by decide) (law_8 hCx h5 hnext a hd th rg cm co f9 H locs ls hI hJ hR hP hD hS hl)
      · exact lv_tableIn (off := 418) (tgt := 457) hx hb dL_law_39 (by decide) (by decide) (by decide) (by decide) (law_9 hCx h5 hnext a hd th rg cm co f9 H locs ls hI hJ hR hP hD hS hl)
      · exact lv_tableIn (off := 481) (tgt := 520) hx hb dL_law_39 (by decide) (by decide) (by decide) (by decide) (law_10 hCx h5 hnext a hd th rg cm co f9 H locs ls hI hJ hR hP hD hS hl)
      · exact lv_tableIn (off := 537) (tgt := 576) hx hb dL_law_39 (by decide) (by decide) (by decide) (by decide) (law_11 hCx h5 hnext a hd th rg cm co f9 H locs ls hI hJ hR hP hD hS hl)
      · exact lv_tableIn (off := 550) (tgt := 589) hx hb dL_law_39 (by decide) (by decide) (by decide) (by decide) (law_12 hCx h5 hnext a hd th rg cm co f9 H locs ls hI hJ hR hP hD hS hl)
      · exact lv_tableIn (off := 606) (tgt := 645) hx hb dL_law_39 (by decide) (by decide) (by decide) (by decide) (law_13 hCx h5 hnext a hd th rg cm co f9 H locs ls hI hJ hR hP hD hS hl)
      · exact lv_tableIn (off := 690) (tgt := 729) hx hb dL_law_39 (by decide) (by decide) (by decide) (by decide) (law_14 hCx h5 hnext a hd th rg cm co f9 H locs ls hI hJ hR hP hD hS hl)
      · exact lv_tableIn (off := 753) (tgt := 792) hx hb dL_law_39 (by decide) (by decide) (by decide) (by decide) (law_15 hCx h5 hnext a hd th rg cm co f9 H locs ls hI hJ hR hP hD hS hl)
      · exact lv_tableIn (off := 809) (tgt := 848) hx hb dL_law_39 (by decide) (by decide) (by decide) (by decide) (law_16 hCx h5 hnext a hd th rg cm co f9 H locs ls hI hJ hR hP hD hS hl)
      · exact lv_tableIn (off := 822) (tgt := 861) hx hb dL_law_39 (by decide) (by decide) (by decide) (by decide) (law_17 hCx h5 hnext a hd th rg cm co f9 H locs ls hI hJ hR hP hD hS hl)
      · exact lv_tableIn (off := 835) (tgt := 874) hx hb dL_law_39 (by decide) (by decide) (by decide) (by decide) (law_18 hCx h5 hnext a hd th rg cm co f9 H locs ls hI hJ hR hP hD hS hl)
      · exact lv_tableIn (off := 848) (tgt := 887) hx hb dL_law_39 (by decide) (by decide) (by decide) (by decide) (law_19 hCx h5 hnext a hd th rg cm co f9 H locs ls hI hJ hR hP hD hS hl)
      · exact lv_tableIn (off := 861) (tgt := 900) hx hb dL_law_39 (by decide) (by decide) (by decide) (by decide) (law_20 hCx h5 hnext a hd th rg cm co f9 H locs ls hI hJ hR hP hD hS hl)
      · exact lv_tableIn (off := 874) (tgt := 913) hx hb dL_law_39 (by decide) (by decide) (by decide) (by decide) (law_21 hCx h5 hnext a hd th rg cm co f9 H locs ls hI hJ hR hP hD hS hl)
      · refine lv_tableOut (tgt := 926) hx hb dL_law_39 (Or.inr ?_) (by decide) ?_
        · rw [nI_toInt (by omega)]; omega
        · refine W.widen (k := 18 + (k + 1)) (n := 1975 + 6 * (k + 1)) (by omega) (by omega) ?_
          exact hnext a hd th rg cm co f9 H locs ls hI hJ hR hP hD hS hl
