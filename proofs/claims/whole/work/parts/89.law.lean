/-! ===== the law: its loop, its start ===== -/
theorem tb_out38_0 {x : Int32} (h0 : ¬ x = 0) (h1 : ¬ x = 1) (h2 : ¬ x = 2) (h3 : ¬ x = 3) (h4 : ¬ x = 4) (h5 : ¬ x = 5) (h6 : ¬ x = 6) (h7 : ¬ x = 7) (h8 : ¬ x = 8) (h9 : ¬ x = 9) (h10 : ¬ x = 10) (h11 : ¬ x = 11) (h12 : ¬ x = 12) (h13 : ¬ x = 13) (h14 : ¬ x = 14) (h15 : ¬ x = 15) (h16 : ¬ x = 16) (h17 : ¬ x = 17) (h18 : ¬ x = 18) (h19 : ¬ x = 19) (h20 : ¬ x = 20) (h21 : ¬ x = 21) (h22 : ¬ x = 22) (h23 : ¬ x = 23) (h24 : ¬ x = 24) (h25 : ¬ x = 25) (h26 : ¬ x = 26) (h27 : ¬ x = 27) (h28 : ¬ x = 28) (h29 : ¬ x = 29) (h30 : ¬ x = 30) (h31 : ¬ x = 31) (h32 : ¬ x = 32) (h33 : ¬ x = 33) (h34 : ¬ x = 34) (h35 : ¬ x = 35) (h36 : ¬ x = 36) (h37 : ¬ x = 37) : x.toInt < 0 ∨ 37 < x.toInt := by
  have g0 := lv_neT (a := 0) h0 (by decide)
  have g1 := lv_neT (a := 1) h1 (by decide)
  have g2 := lv_neT (a := 2) h2 (by decide)
  have g3 := lv_neT (a := 3) h3 (by decide)
  have g4 := lv_neT (a := 4) h4 (by decide)
  have g5 := lv_neT (a := 5) h5 (by decide)
  have g6 := lv_neT (a := 6) h6 (by decide)
  have g7 := lv_neT (a := 7) h7 (by decide)
  have g8 := lv_neT (a := 8) h8 (by decide)
  have g9 := lv_neT (a := 9) h9 (by decide)
  have g10 := lv_neT (a := 10) h10 (by decide)
  have g11 := lv_neT (a := 11) h11 (by decide)
  have g12 := lv_neT (a := 12) h12 (by decide)
  have g13 := lv_neT (a := 13) h13 (by decide)
  have g14 := lv_neT (a := 14) h14 (by decide)
  have g15 := lv_neT (a := 15) h15 (by decide)
  have g16 := lv_neT (a := 16) h16 (by decide)
  have g17 := lv_neT (a := 17) h17 (by decide)
  have g18 := lv_neT (a := 18) h18 (by decide)
  have g19 := lv_neT (a := 19) h19 (by decide)
  have g20 := lv_neT (a := 20) h20 (by decide)
  have g21 := lv_neT (a := 21) h21 (by decide)
  have g22 := lv_neT (a := 22) h22 (by decide)
  have g23 := lv_neT (a := 23) h23 (by decide)
  have g24 := lv_neT (a := 24) h24 (by decide)
  have g25 := lv_neT (a := 25) h25 (by decide)
  have g26 := lv_neT (a := 26) h26 (by decide)
  have g27 := lv_neT (a := 27) h27 (by decide)
  have g28 := lv_neT (a := 28) h28 (by decide)
  have g29 := lv_neT (a := 29) h29 (by decide)
  have g30 := lv_neT (a := 30) h30 (by decide)
  have g31 := lv_neT (a := 31) h31 (by decide)
  have g32 := lv_neT (a := 32) h32 (by decide)
  have g33 := lv_neT (a := 33) h33 (by decide)
  have g34 := lv_neT (a := 34) h34 (by decide)
  have g35 := lv_neT (a := 35) h35 (by decide)
  have g36 := lv_neT (a := 36) h36 (by decide)
  have g37 := lv_neT (a := 37) h37 (by decide)
  omega
theorem li_in {i L : Nat} (hL : L ≤ 3584) (hi : i ≤ L) (h : ¬ nI L - 7 < nI i) : i + 7 ≤ L := by
  rcases Nat.lt_or_ge L 7 with g | g
  · refine absurd (Int32.lt_of_lt_of_le (b := 0) ?_ (nI_pos' (n := i) (by omega))) h
    rcases (show L = 0 ∨ L = 1 ∨ L = 2 ∨ L = 3 ∨ L = 4 ∨ L = 5 ∨ L = 6 by omega) with rfl | rfl | rfl | rfl | rfl | rfl | rfl <;> decide
  · have e : nI L - 7 = nI (L - 7) := sub_nI g
    rw [e] at h
    have := mi_nlt h (by omega) (by omega)
    omega
set_option maxHeartbeats 4000000 in
set_option maxRecDepth 100000 in
theorem law_loop {p : Program} {l : Launch} {e : Env} {s : State} {m : MethodId} {below : List Frame} {meth : Method} {c : Code} {b L a1 a2 tk : Nat} {adK adV : Nat → Nat} {xs : Nat → Int32} (hL : L ≤ 3584) (C0 : lw_At p s m meth c b L xs) (F : CallFix p m c cL_law 4 s #[Value.ref b] TBL RL) (hXL : XL tk adK adV (fun q : Nat => s.heap.size ≤ q) s) : ∀ (k i : Nat), i ≤ L → L + 1 ≤ i + k → ∀ (H : Heap) (locs : List Loc) (ls : Array Slot), LI a1 a2 (fun q : Nat => s.heap.size ≤ q) s H locs → lv_has ls 4 [(3, .int (nI i)), (2, .ref a2), (1, .ref a1), (0, .ref b)] → W p l e room_1 s m #[Value.ref b] below meth c H locs (100 + 3 * i) (5000 + 168 * i) (lw_Z below #[Value.ref b] s) (F0 m 18 ls []) := by
  obtain ⟨hx, hb, hr, hml, hown, hts, hXs, hbl, hlocks, hgv⟩ := C0
  have hbA : ¬ (fun q : Nat => s.heap.size ≤ q) b := Nat.not_le.mpr hbl
  intro k
  induction k with
  | zero => intro i h1 h2; exact absurd h2 (by omega)
  | succ k ih =>
    intro i h1 h2 H locs ls hI hl
    have hS : va_S (fun q : Nat => s.heap.size ≤ q) s.heap H locs := by
      obtain ⟨D, cs, cA, n, z, ad, adM, ρ, TT, τ, σ, ρM, T, σM, hW, _⟩ := hI
      exact hW.2.2.2.1
    refine lv_iload_n hx hb dL_law_18 rfl (lv_at hl 0 rfl) ?_
    refine lv_aload_n hx hb dL_law_19 rfl (lv_at hl 3 rfl) ?_
    refine va_slen hx hb hXs hbl hbA hS dL_law_20 ?_
    refine lv_bipush (v := 7) hx hb dL_law_21 (by decide) ?_
    refine lv_isub hx hb dL_law_23 ?_
    refine lv_icmp_gt (tgt := 1464) hx hb dL_law_24 (by decide) (fun c1 => ?_) (fun c1 => ?_)
    · refine lv_iconst (v := 1) hx hb dL_law_1464 (by decide) ?_
      refine va_forget (fun q hq => hS.2.2 q hq) ?_
      refine W.widen (k := 600000) (n := 7302250) (by omega) (by omega) ?_
      exact lw_ret hx hb hr hlocks dL_law_1465
    · have hi : i + 7 ≤ L := li_in hL h1 c1
      refine lv_aload_n hx hb dL_law_27 rfl (lv_at hl 3 rfl) ?_
      refine lv_iload_n hx hb dL_law_28 rfl (lv_at hl 0 rfl) ?_
      refine va_sld hx hb hXs hbl hbA hS (vp_in_nI (by omega) (by omega)) dL_law_29 ?_
      refine lv_bipush (v := 63) hx hb dL_law_30 (by decide) ?_
      refine lv_iand hx hb dL_law_32 ?_
      generalize xs (nI i).toNatClampNeg &&& 63 = x
      have hcs : 100 + 3 * i + 3 ≤ 600000 ∧ 5000 + 168 * i + 168 ≤ 7302250 := ⟨by omega, by omega⟩
      have kk : ∀ (H1 : Heap) (locs1 : List Loc), LI a1 a2 (fun q : Nat => s.heap.size ≤ q) s H1 locs1 → W p l e room_1 s m #[Value.ref b] below meth c H1 locs1 (100 + 3 * i + 3) (5000 + 168 * i + 168) (lw_Z below #[Value.ref b] s) (F0 m 1458 ls []) := fun H1 locs1 hI1 => by
        refine lv_iinc (v := nI (i + 7)) (lv' := [(3, .int (nI (i + 7))), (2, .ref a2), (1, .ref a1), (0, .ref b)]) hx hb dL_law_1458 hl (k := 0) rfl (show nI i + (7 : Int32) = nI (i + 7) from nI_add i 7) (by decide) rfl (fun ls hl => ?_)
        refine lv_goto (tgt := 18) hx hb dL_law_1461 (by decide) ?_
        refine W.widen (k := 100 + 3 * (i + 7)) (n := 5000 + 168 * (i + 7)) (by omega) (by omega) ?_
        exact ih (i + 7) (by omega) (by omega) H1 locs1 ls hI1 hl
      by_cases c_0 : x = 0
      · refine lv_tableIn (off := 167) (tgt := 200) hx hb dL_law_33 (by rw [c_0]; decide) (by rw [c_0]; decide) (by rw [c_0]; rfl) (by decide) ?_
        exact lc_0 l F hXs hbl hXL hi hL hl hcs hI kk
      by_cases c_1 : x = 1
      · refine lv_tableIn (off := 190) (tgt := 223) hx hb dL_law_33 (by rw [c_1]; decide) (by rw [c_1]; decide) (by rw [c_1]; rfl) (by decide) ?_
        exact lc_1 l F hXs hbl hXL hi hL hl hcs hI kk
      by_cases c_2 : x = 2
      · refine lv_tableIn (off := 213) (tgt := 246) hx hb dL_law_33 (by rw [c_2]; decide) (by rw [c_2]; decide) (by rw [c_2]; rfl) (by decide) ?_
        exact lc_2 l F hXs hbl hXL hi hL hl hcs hI kk
      by_cases c_3 : x = 3
      · refine lv_tableIn (off := 288) (tgt := 321) hx hb dL_law_33 (by rw [c_3]; decide) (by rw [c_3]; decide) (by rw [c_3]; rfl) (by decide) ?_
        exact lc_3 l F hXs hbl hXL hi hL hl hcs hI kk
      by_cases c_4 : x = 4
      · refine lv_tableIn (off := 301) (tgt := 334) hx hb dL_law_33 (by rw [c_4]; decide) (by rw [c_4]; decide) (by rw [c_4]; rfl) (by decide) ?_
        exact lc_4 l F hXs hbl hXL hi hL hl hcs hI kk
      by_cases c_5 : x = 5
      · refine lv_tableIn (off := 324) (tgt := 357) hx hb dL_law_33 (by rw [c_5]; decide) (by rw [c_5]; decide) (by rw [c_5]; rfl) (by decide) ?_
        exact lc_5 l F hXs hbl hXL hi hL hl hcs hI kk
      by_cases c_6 : x = 6
      · refine lv_tableIn (off := 357) (tgt := 390) hx hb dL_law_33 (by rw [c_6]; decide) (by rw [c_6]; decide) (by rw [c_6]; rfl) (by decide) ?_
        exact lc_6 l F hXs hbl hXL hi hL hl hcs hI kk
      by_cases c_7 : x = 7
      · refine lv_tableIn (off := 400) (tgt := 433) hx hb dL_law_33 (by rw [c_7]; decide) (by rw [c_7]; decide) (by rw [c_7]; rfl) (by decide) ?_
        exact lc_7 l F hXs hbl hXL hi hL hl hcs hI kk
      by_cases c_8 : x = 8
      · refine lv_tableIn (off := 443) (tgt := 476) hx hb dL_law_33 (by rw [c_8]; decide) (by rw [c_8]; decide) (by rw [c_8]; rfl) (by decide) ?_
        exact lc_8 l F hXs hbl hXL hi hL hl hcs hI kk
      by_cases c_9 : x = 9
      · refine lv_tableIn (off := 476) (tgt := 509) hx hb dL_law_33 (by rw [c_9]; decide) (by rw [c_9]; decide) (by rw [c_9]; rfl) (by decide) ?_
        exact lc_9 l F hXs hbl hXL hi hL hl hcs hI kk
      by_cases c_10 : x = 10
      · refine lv_tableIn (off := 519) (tgt := 552) hx hb dL_law_33 (by rw [c_10]; decide) (by rw [c_10]; decide) (by rw [c_10]; rfl) (by decide) ?_
        exact lc_10 l F hXs hbl hXL hi hL hl hcs hI kk
      by_cases c_11 : x = 11
      · refine lv_tableIn (off := 542) (tgt := 575) hx hb dL_law_33 (by rw [c_11]; decide) (by rw [c_11]; decide) (by rw [c_11]; rfl) (by decide) ?_
        exact lc_11 l F hXs hbl hXL hi hL hl hcs hI kk
      by_cases c_12 : x = 12
      · refine lv_tableIn (off := 555) (tgt := 588) hx hb dL_law_33 (by rw [c_12]; decide) (by rw [c_12]; decide) (by rw [c_12]; rfl) (by decide) ?_
        exact lc_12 l F hXs hbl hXL hi hL hl hcs hI kk
      by_cases c_13 : x = 13
      · refine lv_tableIn (off := 578) (tgt := 611) hx hb dL_law_33 (by rw [c_13]; decide) (by rw [c_13]; decide) (by rw [c_13]; rfl) (by decide) ?_
        exact lc_13 l F hXs hbl hXL hi hL hl hcs hI kk
      by_cases c_14 : x = 14
      · refine lv_tableIn (off := 611) (tgt := 644) hx hb dL_law_33 (by rw [c_14]; decide) (by rw [c_14]; decide) (by rw [c_14]; rfl) (by decide) ?_
        exact lc_14 l F hXs hbl hXL hi hL hl hcs hI kk
      by_cases c_15 : x = 15
      · refine lv_tableIn (off := 644) (tgt := 677) hx hb dL_law_33 (by rw [c_15]; decide) (by rw [c_15]; decide) (by rw [c_15]; rfl) (by decide) ?_
        exact lc_15 l F hXs hbl hXL hi hL hl hcs hI kk
      by_cases c_16 : x = 16
      · refine lv_tableIn (off := 667) (tgt := 700) hx hb dL_law_33 (by rw [c_16]; decide) (by rw [c_16]; decide) (by rw [c_16]; rfl) (by decide) ?_
        exact lc_16 l F hXs hbl hXL hi hL hl hcs hI kk
      by_cases c_17 : x = 17
      · refine lv_tableIn (off := 700) (tgt := 733) hx hb dL_law_33 (by rw [c_17]; decide) (by rw [c_17]; decide) (by rw [c_17]; rfl) (by decide) ?_
        exact lc_17 l F hXs hbl hXL hi hL hl hcs hI kk
      by_cases c_18 : x = 18
      · refine lv_tableIn (off := 733) (tgt := 766) hx hb dL_law_33 (by rw [c_18]; decide) (by rw [c_18]; decide) (by rw [c_18]; rfl) (by decide) ?_
        exact lc_18 l F hXs hbl hXL hi hL hl hcs hI kk
      by_cases c_19 : x = 19
      · refine lv_tableIn (off := 766) (tgt := 799) hx hb dL_law_33 (by rw [c_19]; decide) (by rw [c_19]; decide) (by rw [c_19]; rfl) (by decide) ?_
        exact lc_19 l F hXs hbl hXL hi hL hl hcs hI kk
      by_cases c_20 : x = 20
      · refine lv_tableIn (off := 799) (tgt := 832) hx hb dL_law_33 (by rw [c_20]; decide) (by rw [c_20]; decide) (by rw [c_20]; rfl) (by decide) ?_
        exact lc_20 l F hXs hbl hXL hi hL hl hcs hI kk
      by_cases c_21 : x = 21
      · refine lv_tableIn (off := 822) (tgt := 855) hx hb dL_law_33 (by rw [c_21]; decide) (by rw [c_21]; decide) (by rw [c_21]; rfl) (by decide) ?_
        exact lc_21 l F hXs hbl hXL hi hL hl hcs hI kk
      by_cases c_22 : x = 22
      · refine lv_tableIn (off := 846) (tgt := 879) hx hb dL_law_33 (by rw [c_22]; decide) (by rw [c_22]; decide) (by rw [c_22]; rfl) (by decide) ?_
        exact lc_22 l F hXs hbl hXL hi hL hl hcs hI kk
      by_cases c_23 : x = 23
      · refine lv_tableIn (off := 869) (tgt := 902) hx hb dL_law_33 (by rw [c_23]; decide) (by rw [c_23]; decide) (by rw [c_23]; rfl) (by decide) ?_
        exact lc_23 l F hXs hbl hXL hi hL hl hcs hI kk
      by_cases c_24 : x = 24
      · refine lv_tableIn (off := 912) (tgt := 945) hx hb dL_law_33 (by rw [c_24]; decide) (by rw [c_24]; decide) (by rw [c_24]; rfl) (by decide) ?_
        exact lc_24 l F hXs hbl hXL hi hL hl hcs hI kk
      by_cases c_25 : x = 25
      · refine lv_tableIn (off := 945) (tgt := 978) hx hb dL_law_33 (by rw [c_25]; decide) (by rw [c_25]; decide) (by rw [c_25]; rfl) (by decide) ?_
        exact lc_25 l F hXs hbl hXL hi hL hl hcs hI kk
      by_cases c_26 : x = 26
      · refine lv_tableIn (off := 998) (tgt := 1031) hx hb dL_law_33 (by rw [c_26]; decide) (by rw [c_26]; decide) (by rw [c_26]; rfl) (by decide) ?_
        exact lc_26 l F hXs hbl hXL hi hL hl hcs hI kk
      by_cases c_27 : x = 27
      · refine lv_tableIn (off := 1021) (tgt := 1054) hx hb dL_law_33 (by rw [c_27]; decide) (by rw [c_27]; decide) (by rw [c_27]; rfl) (by decide) ?_
        exact lc_27 l F hXs hbl hXL hi hL hl hcs hI kk
      by_cases c_28 : x = 28
      · refine lv_tableIn (off := 1044) (tgt := 1077) hx hb dL_law_33 (by rw [c_28]; decide) (by rw [c_28]; decide) (by rw [c_28]; rfl) (by decide) ?_
        exact lc_28 l F hXs hbl hXL hi hL hl hcs hI kk
      by_cases c_29 : x = 29
      · refine lv_tableIn (off := 1077) (tgt := 1110) hx hb dL_law_33 (by rw [c_29]; decide) (by rw [c_29]; decide) (by rw [c_29]; rfl) (by decide) ?_
        exact lc_29 l F hXs hbl hXL hi hL hl hcs hI kk
      by_cases c_30 : x = 30
      · refine lv_tableIn (off := 1110) (tgt := 1143) hx hb dL_law_33 (by rw [c_30]; decide) (by rw [c_30]; decide) (by rw [c_30]; rfl) (by decide) ?_
        exact lc_30 l F hXs hbl hXL hi hL hl hcs hI kk
      by_cases c_31 : x = 31
      · refine lv_tableIn (off := 1164) (tgt := 1197) hx hb dL_law_33 (by rw [c_31]; decide) (by rw [c_31]; decide) (by rw [c_31]; rfl) (by decide) ?_
        exact lc_31 l F hXs hbl hXL hi hL hl hcs hI kk
      by_cases c_32 : x = 32
      · refine lv_tableIn (off := 1177) (tgt := 1210) hx hb dL_law_33 (by rw [c_32]; decide) (by rw [c_32]; decide) (by rw [c_32]; rfl) (by decide) ?_
        exact lc_32 l F hXs hbl hXL hi hL hl hcs hI kk
      by_cases c_33 : x = 33
      · refine lv_tableIn (off := 1190) (tgt := 1223) hx hb dL_law_33 (by rw [c_33]; decide) (by rw [c_33]; decide) (by rw [c_33]; rfl) (by decide) ?_
        exact lc_33 l F hXs hbl hXL hi hL hl hcs hI kk
      by_cases c_34 : x = 34
      · refine lv_tableIn (off := 1233) (tgt := 1266) hx hb dL_law_33 (by rw [c_34]; decide) (by rw [c_34]; decide) (by rw [c_34]; rfl) (by decide) ?_
        exact lc_34 l F hXs hbl hXL hi hL hl hcs hI kk
      by_cases c_35 : x = 35
      · refine lv_tableIn (off := 1276) (tgt := 1309) hx hb dL_law_33 (by rw [c_35]; decide) (by rw [c_35]; decide) (by rw [c_35]; rfl) (by decide) ?_
        exact lc_35 l F hXs hbl hXL hi hL hl hcs hI kk
      by_cases c_36 : x = 36
      · refine lv_tableIn (off := 1339) (tgt := 1372) hx hb dL_law_33 (by rw [c_36]; decide) (by rw [c_36]; decide) (by rw [c_36]; rfl) (by decide) ?_
        exact lc_36 l F hXs hbl hXL hi hL hl hcs hI kk
      by_cases c_37 : x = 37
      · refine lv_tableIn (off := 1392) (tgt := 1425) hx hb dL_law_33 (by rw [c_37]; decide) (by rw [c_37]; decide) (by rw [c_37]; rfl) (by decide) ?_
        exact lc_37 l F hXs hbl hXL hi hL hl hcs hI kk
      refine lv_tableOut (tgt := 1458) hx hb dL_law_33 (tb_out38_0 c_0 c_1 c_2 c_3 c_4 c_5 c_6 c_7 c_8 c_9 c_10 c_11 c_12 c_13 c_14 c_15 c_16 c_17 c_18 c_19 c_20 c_21 c_22 c_23 c_24 c_25 c_26 c_27 c_28 c_29 c_30 c_31 c_32 c_33 c_34 c_35 c_36 c_37) (by decide) ?_
      refine W.widen (k := 100 + 3 * i + 3) (n := 5000 + 168 * i + 168) (Nat.le_add_right _ _) (Nat.le_add_right _ _) ?_
      exact kk H locs hI
set_option maxHeartbeats 4000000 in
set_option maxRecDepth 100000 in
/-- THE LAW, from its entry -/
theorem whole_start {p : Program} {e : Env} {s : State} {m : MethodId} {below : List Frame} {meth : Method} {c : Code} (l : Launch) (hflags : l.flags = flags0) {b L : Nat} {xs : Nat → Int32} (hL : L ≤ 3584) (C0 : lw_At p s m meth c b L xs) : W p l e room_1 s m #[Value.ref b] below meth c s.heap [] 0 0 (lw_Z below #[Value.ref b] s) (entryFrame m ([Value.ref b] : List Value).toArray 4) := by
  obtain ⟨hx, hb, hr, hml, hown, hts0, hXs, hbl, hlocks, hgv⟩ := id C0
  obtain ⟨⟨tk, adK, adV, hXL⟩, hXN⟩ := env_0 C0
  have F : CallFix p m c cL_law 4 s #[Value.ref b] TBL RL := ⟨hx, hb, hml, hown, fun w hw => hts0 w (List.mem_filter.mp hw).1⟩
  have hts := F.2.2.2.2
  obtain ⟨c0, i0, hKn0⟩ := u_known (C := RX0) (T := TX0) (N := 7) (n := 7) hts in_RX0 (hts _ inst_RX0_7)
  obtain ⟨c1, i1, hKn1⟩ := u_known (C := RX1) (T := TX1) (N := 2) (n := 2) hts in_RX1 (hts _ inst_RX1_2)
  obtain ⟨c2, i2, hKn2⟩ := u_known (C := RX2) (T := TX2) (N := 4) (n := 4) hts in_RX2 (hts _ inst_RX2_4)
  obtain ⟨c3, i3, hKn3⟩ := u_known (C := RX3) (T := TX3) (N := 3) (n := 3) hts in_RX3 (hts _ inst_RX3_3)
  obtain ⟨c4, i4, hKn4⟩ := u_known (C := RX4) (T := TX4) (N := 4) (n := 4) hts in_RX4 (hts _ inst_RX4_4)
  obtain ⟨c5, i5, hKn5⟩ := u_known (C := RX5) (T := TX5) (N := 6) (n := 6) hts in_RX5 (hts _ inst_RX5_6)
  obtain ⟨c6, i6, hKn6⟩ := u_known (C := RX6) (T := TX6) (N := 4) (n := 4) hts in_RX6 (hts _ inst_RX6_4)
  obtain ⟨c7, i7, hKn7⟩ := u_known (C := RX7) (T := TX7) (N := 10) (n := 10) hts in_RX7 (hts _ inst_RX7_10)
  obtain ⟨c8, i8, hKn8⟩ := u_known (C := RX8) (T := TX8) (N := 31) (n := 31) hts in_RX8 (hts _ inst_RX8_31)
  obtain ⟨dC, dI, hKc⟩ : ∃ (dC : Nat → ClassId) (dI : Nat → Nat → Nat), ∀ (k : Nat) (q : vw_C), vwCl[k]? = some q → u_Kn s q.1 q.2.1 q.2.2 (dC k) (dI k) := by
    refine ⟨fun k => if k = 0 then c0 else if k = 1 then c1 else if k = 2 then c2 else if k = 3 then c3 else if k = 4 then c4 else if k = 5 then c5 else if k = 6 then c6 else if k = 7 then c7 else c8, fun k => if k = 0 then i0 else if k = 1 then i1 else if k = 2 then i2 else if k = 3 then i3 else if k = 4 then i4 else if k = 5 then i5 else if k = 6 then i6 else if k = 7 then i7 else i8, ?_⟩
    intro k q hq
    match k, hq with
    | 0, hq => cases hq; exact hKn0
    | 1, hq => cases hq; exact hKn1
    | 2, hq => cases hq; exact hKn2
    | 3, hq => cases hq; exact hKn3
    | 4, hq => cases hq; exact hKn4
    | 5, hq => cases hq; exact hKn5
    | 6, hq => cases hq; exact hKn6
    | 7, hq => cases hq; exact hKn7
    | 8, hq => cases hq; exact hKn8
    | k + 9, hq => simp at hq
  have hW : LWd (dC, dI) [] [] (fun q : Nat => s.heap.size ≤ q) s s.heap s.heap [] := ⟨fun k q h => by simp at h, ⟨hKc, fun k q h => by simp at h⟩, ⟨fun i j p q h => by simp at h, fun k q h => by simp at h⟩, va_S.rf, fun _ h => h⟩
  have hl := lv_entry ([.ref b]) (n := 4) (Nat.le_of_ble_eq_true rfl)
  rw [lg_entry_eq]
  generalize (lg_sl ([.ref b]) ++ List.replicate (4 - (lg_sl ([.ref b])).length) Slot.unset).toArray = ls at hl ⊢
  have hl : lv_has ls 4 [(0, .ref b)] := hl
  refine lw_new (c2 := 1) (s2 := 10) (ci := 7) (fs := [.null, .null, .null, .null, .int 0, .null, .null, .null, .int 0, .null]) (C := RX7) (T := TX7) (n := 10) F hW rfl in_RX7 tyX7 tyX7_ok cl_RL_7 inst_RX7_10 ini_RX7 (fun j hj => by rcases j with _ | _ | _ | _ | _ | _ | _ | _ | _ | _ | j <;> first | rfl | omega) rfl rfl ⟨Nat.le_of_ble_eq_true rfl, Nat.le_of_ble_eq_true rfl⟩ dL_law_0 (fun h0 H hW => ?_)
  have hW : LWd (dC, dI) [] [(h0, .inr (7, [.null, .null, .null, .null, .int 0, .null, .null, .null, .int 0, .null]))] (fun q : Nat => s.heap.size ≤ q) s s.heap H _ := hW
  refine lv_dup hx hb dL_law_3 rfl ?_
  refine lw_callI (c2 := 45) (s2 := 759) (As := []) (rest := [.ref h0]) (wc := [(h0, .inr (7, [.null, .null, .null, .null, .int 0, .null, .null, .null, .int 0, .null]))]) (wr := []) (tc := []) F hl.1 hW (XN_hE hXN) XN_E [0] [] [] rfl rfl (by decide) (by decide) (by decide) rfl (kX7_init (l := l) (D := (dC, dI)) (h0 := h0) (sz := H.size)) pd_yX7_init ml_RL_9 im_yX7_init ini_RX7 cd_yX7_init rfl ⟨rfl, rfl⟩ ⟨Nat.le_of_ble_eq_true rfl, Nat.le_of_ble_eq_true rfl⟩ rfl rfl (Nat.le_of_ble_eq_true rfl) rfl rfl ⟨Nat.le_of_ble_eq_true rfl, Nat.le_of_ble_eq_true rfl⟩ dL_law_4 (fun u H locs _ hW => ?_)
  obtain ⟨q_1, q_2, q_4, q_5, q_6, q_8, q_9, q_11, q_14, q_16, q_13, q_18, q_19, q_20, q_21, q_22, q_23, q_24, q_25, q_27, q_28, q_29, q_30, q_31, q_32, q_33, q_34, q_36, q_37, q_38, q_39, q_40, q_41, q_42, q_43, q_45, q_48, q_49, q_52, q_53, q_56, q_57, q_60, q_61, c_3, cA_12, c_26, cA_46⟩ := u
  have hW : LWd (dC, dI) [(c_3, .int), (cA_12, .object RX6), (c_26, .object RX0), (cA_46, .object RX3)] [(h0, .inr (7, [.ref q_1, .ref q_4, .ref q_8, .ref q_11, .int 1, .ref q_18, .ref q_27, .ref q_36, .int 0, .ref q_45])), (q_1, .inr (5, [.ref q_2, .int 0, .int 0, .int 0, .int 0, .int 0])), (q_2, .inl (c_3, 160, .inl (fun _ => 0))), (q_4, .inr (2, [.ref q_1, .ref q_5, .ref q_6, .int 0])), (q_5, .inl (c_3, 160, .inl (fun _ => 0))), (q_6, .inl (c_3, 4, .inl (fun _ => 0))), (q_8, .inr (1, [.ref q_9, .int 0])), (q_9, .inl (c_3, 64, .inl (fun _ => 0))), (q_11, .inl (cA_12, 6, .inr (.inr (.inr (.inr (va_up (fun _ => none) 0 (some q_13))))))), (q_14, .inl (c_3, 3, .inl (upd (upd (upd (fun _ => 0) 0 99) 1 1) 2 1))), (q_16, .inl (c_3, 4, .inl (upd (upd (upd (upd (fun _ => 0) 0 0) 1 1) 2 2) 3 3))), (q_13, .inr (6, [.int 0, .ref q_14, .ref q_16, .ref q_8])), (q_18, .inr (4, [.ref q_19, .int 0, .int 0, .ref q_13])), (q_19, .inl (c_26, 6, .inr (.inr (.inr (.inr (va_up (va_up (va_up (va_up (va_up (va_up (fun _ => none) 0 (some q_20)) 1 (some q_21)) 2 (some q_22)) 3 (some q_23)) 4 (some q_24)) 5 (some q_25))))))), (q_20, .inr (0, [.int 0, .int 0, .int 0, .int 0, .int 0, .int 0, .int 0])), (q_21, .inr (0, [.int 0, .int 0, .int 0, .int 0, .int 0, .int 0, .int 0])), (q_22, .inr (0, [.int 0, .int 0, .int 0, .int 0, .int 0, .int 0, .int 0])), (q_23, .inr (0, [.int 0, .int 0, .int 0, .int 0, .int 0, .int 0, .int 0])), (q_24, .inr (0, [.int 0, .int 0, .int 0, .int 0, .int 0, .int 0, .int 0])), (q_25, .inr (0, [.int 0, .int 0, .int 0, .int 0, .int 0, .int 0, .int 0])), (q_27, .inr (4, [.ref q_28, .int 0, .int 0, .ref q_13])), (q_28, .inl (c_26, 6, .inr (.inr (.inr (.inr (va_up (va_up (va_up (va_up (va_up (va_up (fun _ => none) 0 (some q_29)) 1 (some q_30)) 2 (some q_31)) 3 (some q_32)) 4 (some q_33)) 5 (some q_34))))))), (q_29, .inr (0, [.int 0, .int 0, .int 0, .int 0, .int 0, .int 0, .int 0])), (q_30, .inr (0, [.int 0, .int 0, .int 0, .int 0, .int 0, .int 0, .int 0])), (q_31, .inr (0, [.int 0, .int 0, .int 0, .int 0, .int 0, .int 0, .int 0])), (q_32, .inr (0, [.int 0, .int 0, .int 0, .int 0, .int 0, .int 0, .int 0])), (q_33, .inr (0, [.int 0, .int 0, .int 0, .int 0, .int 0, .int 0, .int 0])), (q_34, .inr (0, [.int 0, .int 0, .int 0, .int 0, .int 0, .int 0, .int 0])), (q_36, .inr (4, [.ref q_37, .int 0, .int 0, .ref q_13])), (q_37, .inl (c_26, 6, .inr (.inr (.inr (.inr (va_up (va_up (va_up (va_up (va_up (va_up (fun _ => none) 0 (some q_38)) 1 (some q_39)) 2 (some q_40)) 3 (some q_41)) 4 (some q_42)) 5 (some q_43))))))), (q_38, .inr (0, [.int 0, .int 0, .int 0, .int 0, .int 0, .int 0, .int 0])), (q_39, .inr (0, [.int 0, .int 0, .int 0, .int 0, .int 0, .int 0, .int 0])), (q_40, .inr (0, [.int 0, .int 0, .int 0, .int 0, .int 0, .int 0, .int 0])), (q_41, .inr (0, [.int 0, .int 0, .int 0, .int 0, .int 0, .int 0, .int 0])), (q_42, .inr (0, [.int 0, .int 0, .int 0, .int 0, .int 0, .int 0, .int 0])), (q_43, .inr (0, [.int 0, .int 0, .int 0, .int 0, .int 0, .int 0, .int 0])), (q_45, .inl (cA_46, 4, .inr (.inr (.inr (.inr (va_up (va_up (va_up (va_up (fun _ => none) 0 (some q_48)) 1 (some q_52)) 2 (some q_56)) 3 (some q_60))))))), (q_48, .inr (3, [.ref q_49, .int (-1), .int 0])), (q_49, .inl (c_3, 40, .inl (fun _ => 0))), (q_52, .inr (3, [.ref q_53, .int (-1), .int 0])), (q_53, .inl (c_3, 40, .inl (fun _ => 0))), (q_56, .inr (3, [.ref q_57, .int (-1), .int 0])), (q_57, .inl (c_3, 40, .inl (fun _ => 0))), (q_60, .inr (3, [.ref q_61, .int (-1), .int 0])), (q_61, .inl (c_3, 40, .inl (fun _ => 0)))] (fun q : Nat => s.heap.size ≤ q) s s.heap H _ := hW
  refine lv_astore_n (lv' := [(1, .ref h0), (0, .ref b)]) hx hb dL_law_7 rfl hl (by decide) rfl (fun ls hl => ?_)
  refine lw_new (c2 := 46) (s2 := 790) (ci := 8) (fs := [.int 0, .null, .null, .null, .int 0, .null, .int 0, .null, .null, .int 0, .int 0, .int 0, .null, .null, .null, .null, .null, .null, .int 0, .int 0, .int 0, .int 0, .null, .null, .int 0, .int 0, .int 0, .null, .null, .null, .int 0]) (C := RX8) (T := TX8) (n := 31) F hW rfl in_RX8 tyX8 tyX8_ok cl_RL_10 inst_RX8_31 ini_RX8 (fun j hj => by rcases j with _ | _ | _ | _ | _ | _ | _ | _ | _ | _ | _ | _ | _ | _ | _ | _ | _ | _ | _ | _ | _ | _ | _ | _ | _ | _ | _ | _ | _ | _ | _ | j <;> first | rfl | omega) rfl rfl ⟨Nat.le_of_ble_eq_true rfl, Nat.le_of_ble_eq_true rfl⟩ dL_law_8 (fun m0 H hW => ?_)
  refine lv_dup hx hb dL_law_11 rfl ?_
  refine lw_callI (c2 := 63) (s2 := 2979) (As := []) (rest := [.ref m0]) (wc := [(m0, .inr (8, [.int 0, .null, .null, .null, .int 0, .null, .int 0, .null, .null, .int 0, .int 0, .int 0, .null, .null, .null, .null, .null, .null, .int 0, .int 0, .int 0, .int 0, .null, .null, .int 0, .int 0, .int 0, .null, .null, .null, .int 0]))]) (wr := [(h0, .inr (7, [.ref q_1, .ref q_4, .ref q_8, .ref q_11, .int 1, .ref q_18, .ref q_27, .ref q_36, .int 0, .ref q_45])), (q_1, .inr (5, [.ref q_2, .int 0, .int 0, .int 0, .int 0, .int 0])), (q_2, .inl (c_3, 160, .inl (fun _ => 0))), (q_4, .inr (2, [.ref q_1, .ref q_5, .ref q_6, .int 0])), (q_5, .inl (c_3, 160, .inl (fun _ => 0))), (q_6, .inl (c_3, 4, .inl (fun _ => 0))), (q_8, .inr (1, [.ref q_9, .int 0])), (q_9, .inl (c_3, 64, .inl (fun _ => 0))), (q_11, .inl (cA_12, 6, .inr (.inr (.inr (.inr (va_up (fun _ => none) 0 (some q_13))))))), (q_14, .inl (c_3, 3, .inl (upd (upd (upd (fun _ => 0) 0 99) 1 1) 2 1))), (q_16, .inl (c_3, 4, .inl (upd (upd (upd (upd (fun _ => 0) 0 0) 1 1) 2 2) 3 3))), (q_13, .inr (6, [.int 0, .ref q_14, .ref q_16, .ref q_8])), (q_18, .inr (4, [.ref q_19, .int 0, .int 0, .ref q_13])), (q_19, .inl (c_26, 6, .inr (.inr (.inr (.inr (va_up (va_up (va_up (va_up (va_up (va_up (fun _ => none) 0 (some q_20)) 1 (some q_21)) 2 (some q_22)) 3 (some q_23)) 4 (some q_24)) 5 (some q_25))))))), (q_20, .inr (0, [.int 0, .int 0, .int 0, .int 0, .int 0, .int 0, .int 0])), (q_21, .inr (0, [.int 0, .int 0, .int 0, .int 0, .int 0, .int 0, .int 0])), (q_22, .inr (0, [.int 0, .int 0, .int 0, .int 0, .int 0, .int 0, .int 0])), (q_23, .inr (0, [.int 0, .int 0, .int 0, .int 0, .int 0, .int 0, .int 0])), (q_24, .inr (0, [.int 0, .int 0, .int 0, .int 0, .int 0, .int 0, .int 0])), (q_25, .inr (0, [.int 0, .int 0, .int 0, .int 0, .int 0, .int 0, .int 0])), (q_27, .inr (4, [.ref q_28, .int 0, .int 0, .ref q_13])), (q_28, .inl (c_26, 6, .inr (.inr (.inr (.inr (va_up (va_up (va_up (va_up (va_up (va_up (fun _ => none) 0 (some q_29)) 1 (some q_30)) 2 (some q_31)) 3 (some q_32)) 4 (some q_33)) 5 (some q_34))))))), (q_29, .inr (0, [.int 0, .int 0, .int 0, .int 0, .int 0, .int 0, .int 0])), (q_30, .inr (0, [.int 0, .int 0, .int 0, .int 0, .int 0, .int 0, .int 0])), (q_31, .inr (0, [.int 0, .int 0, .int 0, .int 0, .int 0, .int 0, .int 0])), (q_32, .inr (0, [.int 0, .int 0, .int 0, .int 0, .int 0, .int 0, .int 0])), (q_33, .inr (0, [.int 0, .int 0, .int 0, .int 0, .int 0, .int 0, .int 0])), (q_34, .inr (0, [.int 0, .int 0, .int 0, .int 0, .int 0, .int 0, .int 0])), (q_36, .inr (4, [.ref q_37, .int 0, .int 0, .ref q_13])), (q_37, .inl (c_26, 6, .inr (.inr (.inr (.inr (va_up (va_up (va_up (va_up (va_up (va_up (fun _ => none) 0 (some q_38)) 1 (some q_39)) 2 (some q_40)) 3 (some q_41)) 4 (some q_42)) 5 (some q_43))))))), (q_38, .inr (0, [.int 0, .int 0, .int 0, .int 0, .int 0, .int 0, .int 0])), (q_39, .inr (0, [.int 0, .int 0, .int 0, .int 0, .int 0, .int 0, .int 0])), (q_40, .inr (0, [.int 0, .int 0, .int 0, .int 0, .int 0, .int 0, .int 0])), (q_41, .inr (0, [.int 0, .int 0, .int 0, .int 0, .int 0, .int 0, .int 0])), (q_42, .inr (0, [.int 0, .int 0, .int 0, .int 0, .int 0, .int 0, .int 0])), (q_43, .inr (0, [.int 0, .int 0, .int 0, .int 0, .int 0, .int 0, .int 0])), (q_45, .inl (cA_46, 4, .inr (.inr (.inr (.inr (va_up (va_up (va_up (va_up (fun _ => none) 0 (some q_48)) 1 (some q_52)) 2 (some q_56)) 3 (some q_60))))))), (q_48, .inr (3, [.ref q_49, .int (-1), .int 0])), (q_49, .inl (c_3, 40, .inl (fun _ => 0))), (q_52, .inr (3, [.ref q_53, .int (-1), .int 0])), (q_53, .inl (c_3, 40, .inl (fun _ => 0))), (q_56, .inr (3, [.ref q_57, .int (-1), .int 0])), (q_57, .inl (c_3, 40, .inl (fun _ => 0))), (q_60, .inr (3, [.ref q_61, .int (-1), .int 0])), (q_61, .inl (c_3, 40, .inl (fun _ => 0)))]) (tc := []) F hl.1 hW (fun _ _ _ => trivial) gw_T_E [45] [0, 1, 2, 3, 4, 5, 6, 7, 8, 9, 10, 11, 12, 13, 14, 15, 16, 17, 18, 19, 20, 21, 22, 23, 24, 25, 26, 27, 28, 29, 30, 31, 32, 33, 34, 35, 36, 37, 38, 39, 40, 41, 42, 43, 44] [] rfl rfl (by decide) (by decide) (by decide) rfl (kX8_init (l := l) (D := (dC, dI)) (h0 := m0) (sz := H.size)) pd_yX8_init ml_RL_12 im_yX8_init ini_RX8 cd_yX8_init rfl ⟨rfl, rfl⟩ ⟨Nat.le_of_ble_eq_true rfl, Nat.le_of_ble_eq_true rfl⟩ rfl rfl (Nat.le_of_ble_eq_true rfl) rfl rfl ⟨Nat.le_of_ble_eq_true rfl, Nat.le_of_ble_eq_true rfl⟩ dL_law_12 (fun u H locs hp hW => ?_)
  have hp : u.1 0 = m0 ∧ M0P u.2.2 := hp
  obtain ⟨hWx, hWm, hdis⟩ := lw_split hW
  obtain ⟨ad, cs, had, hpl, hXW⟩ := x_start (lw_tys (t' := [(c_3, .int), (c_26, .object RX0), (cA_12, .object RX6), (cA_46, .object RX3)]) hWx [0, 2, 1, 3] rfl)
  have hMW : MW (dC, dI) u.2.1 u.1 zz2 zz2 u.2.2 (fun q : Nat => s.heap.size ≤ q) s s.heap H locs := lw_tys (t' := mtys u.2.1) hWm [4] rfl
  have hap : ∀ i j, i < 42 + 3 * 1 → j < 18 → ad i ≠ u.1 j := fun i j hi hj => by
    obtain ⟨e1, he1⟩ := hpl i hi
    exact hdis _ _ _ _ he1 (gw_get hj)
  have hLI : LI h0 m0 (fun q : Nat => s.heap.size ≤ q) s H locs := ⟨(dC, dI), cs, u.2.1, 1, 0, ad, u.1, zz2, zz3, stτ, stσ, zz2, zz2, u.2.2, hXW, hMW, hap, sim_0 hp.2, had, hp.1⟩
  refine lv_astore_n (lv' := [(2, .ref m0), (1, .ref h0), (0, .ref b)]) hx hb dL_law_15 rfl hl (by decide) rfl (fun ls hl => ?_)
  refine lv_iconst (v := 0) hx hb dL_law_16 (by decide) ?_
  refine lv_istore_n (lv' := [(3, .int 0), (2, .ref m0), (1, .ref h0), (0, .ref b)]) hx hb dL_law_17 rfl hl (by decide) rfl (fun ls hl => ?_)
  refine W.widen (k := 100 + 3 * 0) (n := 5000 + 168 * 0) (by decide) (by decide) ?_
  exact law_loop hL C0 F hXL (L + 1) 0 (Nat.zero_le _) (by omega) H locs ls hLI (lv_sub hl [0, 1, 2, 3] rfl)
