set_option maxHeartbeats 800000 in
set_option maxRecDepth 100000 in
theorem kX7_isByte {l : Launch} {v : Int32}  : PM l yX7_isByte cX7_isByte 1 FieldType.boolean { frames := 0, cells := 0, slots := 0, locals := 0 } [.int v] (if v < 0 then 0 else if 255 < v then 0 else 1) := by
  refine gw_stS (own := RX7) (by decide +kernel) rfl (Nat.le_of_ble_eq_true rfl) ?_
  intro p e s m ar below meth c Q F hret ls hl
  obtain ⟨hx, hb, hml, hown, hts⟩ := id F
  have hl : lv_has ls 1 [(0, .int v)] := hl
  refine lv_iload_n hx hb dX7_isByte_0 rfl (lv_at hl 0 rfl) ?_
  refine lv_if_lt (tgt := 15) hx hb dX7_isByte_1 (by decide) (fun c_1 => ?_) (fun c_1 => ?_)
  ·
    refine lv_iconst (v := 0) hx hb dX7_isByte_15 (by decide) ?_
    exact hret 0 _ _ rfl (by (try simp only [i32_le, Decidable.not_not] at c_1); first | (simp only [i32_le, c_1, if_true, if_false, not_false_eq_true, not_true_eq_false]; done) | simp [c_1, i32_le]) dX7_isByte_16
  ·
    refine lv_iload_n hx hb dX7_isByte_4 rfl (lv_at hl 0 rfl) ?_
    refine lv_sipush (v := 255) hx hb dX7_isByte_5 (by decide) ?_
    refine lv_icmp_gt (tgt := 15) hx hb dX7_isByte_8 (by decide) (fun c_2 => ?_) (fun c_2 => ?_)
    ·
      refine lv_iconst (v := 0) hx hb dX7_isByte_15 (by decide) ?_
      exact hret 0 _ _ rfl (by (try simp only [i32_le, Decidable.not_not] at c_1); (try simp only [i32_le, Decidable.not_not] at c_2); first | (simp only [i32_le, c_1, c_2, if_true, if_false, not_false_eq_true, not_true_eq_false]; done) | simp [c_1, c_2, i32_le]) dX7_isByte_16
    ·
      refine lv_iconst (v := 1) hx hb dX7_isByte_11 (by decide) ?_
      refine lv_goto (tgt := 16) hx hb dX7_isByte_12 (by decide) ?_
      exact hret 1 _ _ rfl (by (try simp only [i32_le, Decidable.not_not] at c_1); (try simp only [i32_le, Decidable.not_not] at c_2); first | (simp only [i32_le, c_1, c_2, if_true, if_false, not_false_eq_true, not_true_eq_false]; done) | simp [c_1, c_2, i32_le]) dX7_isByte_16
set_option maxHeartbeats 800000 in
set_option maxRecDepth 100000 in
theorem kX7_isChoice {l : Launch} {v : Int32}  : PM l yX7_isChoice cX7_isChoice 1 FieldType.boolean { frames := 0, cells := 0, slots := 0, locals := 0 } [.int v] (if v = 0 then 1 else if v = 1 then 1 else 0) := by
  refine gw_stS (own := RX7) (by decide +kernel) rfl (Nat.le_of_ble_eq_true rfl) ?_
  intro p e s m ar below meth c Q F hret ls hl
  obtain ⟨hx, hb, hml, hown, hts⟩ := id F
  have hl : lv_has ls 1 [(0, .int v)] := hl
  refine lv_iload_n hx hb dX7_isChoice_0 rfl (lv_at hl 0 rfl) ?_
  refine lv_if_eq (tgt := 9) hx hb dX7_isChoice_1 (by decide) (fun c_1 => ?_) (fun c_1 => ?_)
  ·
    refine lv_iconst (v := 1) hx hb dX7_isChoice_9 (by decide) ?_
    refine lv_goto (tgt := 14) hx hb dX7_isChoice_10 (by decide) ?_
    exact hret 1 _ _ rfl (by (try simp only [i32_le, Decidable.not_not] at c_1); first | (simp only [i32_le, c_1, if_true, if_false, not_false_eq_true, not_true_eq_false]; done) | simp [c_1, i32_le]) dX7_isChoice_14
  ·
    refine lv_iload_n hx hb dX7_isChoice_4 rfl (lv_at hl 0 rfl) ?_
    refine lv_iconst (v := 1) hx hb dX7_isChoice_5 (by decide) ?_
    refine lv_icmp_ne (tgt := 13) hx hb dX7_isChoice_6 (by decide) (fun c_2 => ?_) (fun c_2 => ?_)
    ·
      refine lv_iconst (v := 0) hx hb dX7_isChoice_13 (by decide) ?_
      exact hret 0 _ _ rfl (by (try simp only [i32_le, Decidable.not_not] at c_1); (try simp only [i32_le, Decidable.not_not] at c_2); first | (simp only [i32_le, c_1, c_2, if_true, if_false, not_false_eq_true, not_true_eq_false]; done) | simp [c_1, c_2, i32_le]) dX7_isChoice_14
    ·
      refine lv_iconst (v := 1) hx hb dX7_isChoice_9 (by decide) ?_
      refine lv_goto (tgt := 14) hx hb dX7_isChoice_10 (by decide) ?_
      exact hret 1 _ _ rfl (by (try simp only [i32_le, Decidable.not_not] at c_1); (try simp only [i32_le, Decidable.not_not] at c_2); first | (simp only [i32_le, c_1, c_2, if_true, if_false, not_false_eq_true, not_true_eq_false]; done) | simp [c_1, c_2, i32_le]) dX7_isChoice_14
set_option maxHeartbeats 800000 in
set_option maxRecDepth 100000 in
theorem kX7_isRun {l : Launch} {v : Int32}  : PM l yX7_isRun cX7_isRun 1 FieldType.boolean { frames := 0, cells := 0, slots := 0, locals := 0 } [.int v] (if v < 0 then 0 else if 40 < v then 0 else 1) := by
  refine gw_stS (own := RX7) (by decide +kernel) rfl (Nat.le_of_ble_eq_true rfl) ?_
  intro p e s m ar below meth c Q F hret ls hl
  obtain ⟨hx, hb, hml, hown, hts⟩ := id F
  have hl : lv_has ls 1 [(0, .int v)] := hl
  refine lv_iload_n hx hb dX7_isRun_0 rfl (lv_at hl 0 rfl) ?_
  refine lv_if_lt (tgt := 14) hx hb dX7_isRun_1 (by decide) (fun c_1 => ?_) (fun c_1 => ?_)
  ·
    refine lv_iconst (v := 0) hx hb dX7_isRun_14 (by decide) ?_
    exact hret 0 _ _ rfl (by (try simp only [i32_le, Decidable.not_not] at c_1); first | (simp only [i32_le, c_1, if_true, if_false, not_false_eq_true, not_true_eq_false]; done) | simp [c_1, i32_le]) dX7_isRun_15
  ·
    refine lv_iload_n hx hb dX7_isRun_4 rfl (lv_at hl 0 rfl) ?_
    refine lv_bipush (v := 40) hx hb dX7_isRun_5 (by decide) ?_
    refine lv_icmp_gt (tgt := 14) hx hb dX7_isRun_7 (by decide) (fun c_2 => ?_) (fun c_2 => ?_)
    ·
      refine lv_iconst (v := 0) hx hb dX7_isRun_14 (by decide) ?_
      exact hret 0 _ _ rfl (by (try simp only [i32_le, Decidable.not_not] at c_1); (try simp only [i32_le, Decidable.not_not] at c_2); first | (simp only [i32_le, c_1, c_2, if_true, if_false, not_false_eq_true, not_true_eq_false]; done) | simp [c_1, c_2, i32_le]) dX7_isRun_15
    ·
      refine lv_iconst (v := 1) hx hb dX7_isRun_10 (by decide) ?_
      refine lv_goto (tgt := 15) hx hb dX7_isRun_11 (by decide) ?_
      exact hret 1 _ _ rfl (by (try simp only [i32_le, Decidable.not_not] at c_1); (try simp only [i32_le, Decidable.not_not] at c_2); first | (simp only [i32_le, c_1, c_2, if_true, if_false, not_false_eq_true, not_true_eq_false]; done) | simp [c_1, c_2, i32_le]) dX7_isRun_15
set_option maxHeartbeats 800000 in
set_option maxRecDepth 100000 in
theorem kX7_isSeed {l : Launch} {v : Int32}  : PM l yX7_isSeed cX7_isSeed 1 FieldType.boolean { frames := 0, cells := 0, slots := 0, locals := 0 } [.int v] (if v < 0 then 0 else if 100000 ≤ v then 0 else 1) := by
  refine gw_stS (own := RX7) (by decide +kernel) rfl (Nat.le_of_ble_eq_true rfl) ?_
  intro p e s m ar below meth c Q F hret ls hl
  obtain ⟨hx, hb, hml, hown, hts⟩ := id F
  have hl : lv_has ls 1 [(0, .int v)] := hl
  refine lv_iload_n hx hb dX7_isSeed_0 rfl (lv_at hl 0 rfl) ?_
  refine lv_if_lt (tgt := 15) hx hb dX7_isSeed_1 (by decide) (fun c_1 => ?_) (fun c_1 => ?_)
  ·
    refine lv_iconst (v := 0) hx hb dX7_isSeed_15 (by decide) ?_
    exact hret 0 _ _ rfl (by (try simp only [i32_le, Decidable.not_not] at c_1); first | (simp only [i32_le, c_1, if_true, if_false, not_false_eq_true, not_true_eq_false]; done) | simp [c_1, i32_le]) dX7_isSeed_16
  ·
    refine lv_iload_n hx hb dX7_isSeed_4 rfl (lv_at hl 0 rfl) ?_
    refine lv_ldcw (v := 100000) hx hb hown (hts _ kc_RX7_303) dX7_isSeed_5 ?_
    refine lv_icmp_ge (tgt := 15) hx hb dX7_isSeed_8 (by decide) (fun c_2 => ?_) (fun c_2 => ?_)
    ·
      refine lv_iconst (v := 0) hx hb dX7_isSeed_15 (by decide) ?_
      exact hret 0 _ _ rfl (by (try simp only [i32_le, Decidable.not_not] at c_1); (try simp only [i32_le, Decidable.not_not] at c_2); first | (simp only [i32_le, c_1, c_2, if_true, if_false, not_false_eq_true, not_true_eq_false]; done) | simp [c_1, c_2, i32_le]) dX7_isSeed_16
    ·
      refine lv_iconst (v := 1) hx hb dX7_isSeed_11 (by decide) ?_
      refine lv_goto (tgt := 16) hx hb dX7_isSeed_12 (by decide) ?_
      exact hret 1 _ _ rfl (by (try simp only [i32_le, Decidable.not_not] at c_1); (try simp only [i32_le, Decidable.not_not] at c_2); first | (simp only [i32_le, c_1, c_2, if_true, if_false, not_false_eq_true, not_true_eq_false]; done) | simp [c_1, c_2, i32_le]) dX7_isSeed_16
set_option maxHeartbeats 800000 in
set_option maxRecDepth 100000 in
theorem kX7_isSheet {l : Launch} {v : Int32}  : PM l yX7_isSheet cX7_isSheet 1 FieldType.boolean { frames := 0, cells := 0, slots := 0, locals := 0 } [.int v] (if v < 0 then 0 else if 4 ≤ v then 0 else 1) := by
  refine gw_stS (own := RX7) (by decide +kernel) rfl (Nat.le_of_ble_eq_true rfl) ?_
  intro p e s m ar below meth c Q F hret ls hl
  obtain ⟨hx, hb, hml, hown, hts⟩ := id F
  have hl : lv_has ls 1 [(0, .int v)] := hl
  refine lv_iload_n hx hb dX7_isSheet_0 rfl (lv_at hl 0 rfl) ?_
  refine lv_if_lt (tgt := 13) hx hb dX7_isSheet_1 (by decide) (fun c_1 => ?_) (fun c_1 => ?_)
  ·
    refine lv_iconst (v := 0) hx hb dX7_isSheet_13 (by decide) ?_
    exact hret 0 _ _ rfl (by (try simp only [i32_le, Decidable.not_not] at c_1); first | (simp only [i32_le, c_1, if_true, if_false, not_false_eq_true, not_true_eq_false]; done) | simp [c_1, i32_le]) dX7_isSheet_14
  ·
    refine lv_iload_n hx hb dX7_isSheet_4 rfl (lv_at hl 0 rfl) ?_
    refine lv_iconst (v := 4) hx hb dX7_isSheet_5 (by decide) ?_
    refine lv_icmp_ge (tgt := 13) hx hb dX7_isSheet_6 (by decide) (fun c_2 => ?_) (fun c_2 => ?_)
    ·
      refine lv_iconst (v := 0) hx hb dX7_isSheet_13 (by decide) ?_
      exact hret 0 _ _ rfl (by (try simp only [i32_le, Decidable.not_not] at c_1); (try simp only [i32_le, Decidable.not_not] at c_2); first | (simp only [i32_le, c_1, c_2, if_true, if_false, not_false_eq_true, not_true_eq_false]; done) | simp [c_1, c_2, i32_le]) dX7_isSheet_14
    ·
      refine lv_iconst (v := 1) hx hb dX7_isSheet_9 (by decide) ?_
      refine lv_goto (tgt := 14) hx hb dX7_isSheet_10 (by decide) ?_
      exact hret 1 _ _ rfl (by (try simp only [i32_le, Decidable.not_not] at c_1); (try simp only [i32_le, Decidable.not_not] at c_2); first | (simp only [i32_le, c_1, c_2, if_true, if_false, not_false_eq_true, not_true_eq_false]; done) | simp [c_1, c_2, i32_le]) dX7_isSheet_14
set_option maxHeartbeats 800000 in
set_option maxRecDepth 100000 in
theorem kX7_holds {l : Launch} {x i : Int32}  : PM l yX7_holds cX7_holds 2 FieldType.boolean { frames := 0, cells := 0, slots := 0, locals := 0 } [.int x, .int i] (holdS x i) := by
  refine gw_stS (own := RX7) (by decide +kernel) rfl (Nat.le_of_ble_eq_true rfl) ?_
  intro p e s m ar below meth c Q F hret ls hl
  obtain ⟨hx, hb, hml, hown, hts⟩ := id F
  have hl : lv_has ls 2 [(0, .int x), (1, .int i)] := hl
  refine lv_iload_n hx hb dX7_holds_0 rfl (lv_at hl 0 rfl) ?_
  refine lv_iload_n hx hb dX7_holds_1 rfl (lv_at hl 1 rfl) ?_
  refine lv_ishr hx hb dX7_holds_2 ?_
  refine lv_iconst (v := 1) hx hb dX7_holds_3 (by decide) ?_
  refine lv_iand hx hb dX7_holds_4 ?_
  refine lv_iconst (v := 1) hx hb dX7_holds_5 (by decide) ?_
  refine lv_icmp_ne (tgt := 13) hx hb dX7_holds_6 (by decide) (fun c_1 => ?_) (fun c_1 => ?_)
  ·
    refine lv_iconst (v := 0) hx hb dX7_holds_13 (by decide) ?_
    exact hret 0 _ _ rfl (by (try simp only [i32_le, Decidable.not_not] at c_1); first | (simp only [holdS, bitS, i32_le, c_1, if_true, if_false, not_false_eq_true, not_true_eq_false]; done) | simp [holdS, bitS, c_1, i32_le]) dX7_holds_14
  ·
    refine lv_iconst (v := 1) hx hb dX7_holds_9 (by decide) ?_
    refine lv_goto (tgt := 14) hx hb dX7_holds_10 (by decide) ?_
    exact hret 1 _ _ rfl (by (try simp only [i32_le, Decidable.not_not] at c_1); first | (simp only [holdS, bitS, i32_le, c_1, if_true, if_false, not_false_eq_true, not_true_eq_false]; done) | simp [holdS, bitS, c_1, i32_le]) dX7_holds_14
set_option maxHeartbeats 800000 in
set_option maxRecDepth 100000 in
theorem kX7_mostOf {l : Launch} {v : Int32}  : PM l yX7_mostOf cX7_mostOf 1 FieldType.int { frames := 0, cells := 0, slots := 0, locals := 0 } [.int v] (if v = 0 then 1023 else if v = 4 then 1 else 99) := by
  refine gw_stS (own := RX7) (by decide +kernel) rfl (Nat.le_of_ble_eq_true rfl) ?_
  intro p e s m ar below meth c Q F hret ls hl
  obtain ⟨hx, hb, hml, hown, hts⟩ := id F
  have hl : lv_has ls 1 [(0, .int v)] := hl
  refine lv_iload_n hx hb dX7_mostOf_0 rfl (lv_at hl 0 rfl) ?_
  refine lv_if_ne (tgt := 10) hx hb dX7_mostOf_1 (by decide) (fun c_1 => ?_) (fun c_1 => ?_)
  ·
    refine lv_iload_n hx hb dX7_mostOf_10 rfl (lv_at hl 0 rfl) ?_
    refine lv_iconst (v := 4) hx hb dX7_mostOf_11 (by decide) ?_
    refine lv_icmp_ne (tgt := 19) hx hb dX7_mostOf_12 (by decide) (fun c_2 => ?_) (fun c_2 => ?_)
    ·
      refine lv_bipush (v := 99) hx hb dX7_mostOf_19 (by decide) ?_
      exact hret 99 _ _ rfl (by (try simp only [i32_le, Decidable.not_not] at c_1); (try simp only [i32_le, Decidable.not_not] at c_2); first | (simp only [i32_le, c_1, c_2, if_true, if_false, not_false_eq_true, not_true_eq_false]; done) | simp [c_1, c_2, i32_le]) dX7_mostOf_21
    ·
      refine lv_iconst (v := 1) hx hb dX7_mostOf_15 (by decide) ?_
      refine lv_goto (tgt := 21) hx hb dX7_mostOf_16 (by decide) ?_
      exact hret 1 _ _ rfl (by (try simp only [i32_le, Decidable.not_not] at c_1); (try simp only [i32_le, Decidable.not_not] at c_2); first | (simp only [i32_le, c_1, c_2, if_true, if_false, not_false_eq_true, not_true_eq_false]; done) | simp [c_1, c_2, i32_le]) dX7_mostOf_21
  ·
    refine lv_sipush (v := 1023) hx hb dX7_mostOf_4 (by decide) ?_
    refine lv_goto (tgt := 21) hx hb dX7_mostOf_7 (by decide) ?_
    exact hret 1023 _ _ rfl (by (try simp only [i32_le, Decidable.not_not] at c_1); first | (simp only [i32_le, c_1, if_true, if_false, not_false_eq_true, not_true_eq_false]; done) | simp [c_1, i32_le]) dX7_mostOf_21
set_option maxHeartbeats 800000 in
set_option maxRecDepth 100000 in
theorem kX6_joined {l : Launch} {b x z : Int32}  : PM l yX6_joined cX6_joined 3 FieldType.int { frames := 0, cells := 0, slots := 0, locals := 0 } [.int b, .int x, .int z] (joinS b x z) := by
  refine gw_stS (own := RX6) (by decide +kernel) rfl (Nat.le_of_ble_eq_true rfl) ?_
  intro p e s m ar below meth c Q F hret ls hl
  obtain ⟨hx, hb, hml, hown, hts⟩ := id F
  have hl : lv_has ls 3 [(0, .int b), (1, .int x), (2, .int z)] := hl
  refine lv_iload_n hx hb dX6_joined_0 rfl (lv_at hl 0 rfl) ?_
  by_cases c_1 : b = (-16)
  ·
    refine lv_tableIn (off := 109) (tgt := 110) hx hb dX6_joined_1 (by rw [c_1]; decide) (by rw [c_1]; decide) (by rw [c_1]; rfl) (by decide) ?_
    refine lv_iload_n hx hb dX6_joined_110 rfl (lv_at hl 1 rfl) ?_
    refine lv_iload_n hx hb dX6_joined_111 rfl (lv_at hl 2 rfl) ?_
    refine lv_isub hx hb dX6_joined_112 ?_
    exact hret (x - z) _ _ rfl (by (try simp only [i32_le, Decidable.not_not] at c_1); first | (simp only [joinS, i32_le, c_1, if_true, if_false, not_false_eq_true, not_true_eq_false]; done) | simp [joinS, c_1, i32_le]) dX6_joined_113
  ·
    by_cases c_2 : b = (-15)
    ·
      refine lv_tableIn (off := 105) (tgt := 106) hx hb dX6_joined_1 (by rw [c_2]; decide) (by rw [c_2]; decide) (by rw [c_2]; rfl) (by decide) ?_
      refine lv_iload_n hx hb dX6_joined_106 rfl (lv_at hl 1 rfl) ?_
      refine lv_iload_n hx hb dX6_joined_107 rfl (lv_at hl 2 rfl) ?_
      refine lv_iadd hx hb dX6_joined_108 ?_
      exact hret (x + z) _ _ rfl (by (try simp only [i32_le, Decidable.not_not] at c_1); (try simp only [i32_le, Decidable.not_not] at c_2); first | (simp only [joinS, i32_le, c_1, c_2, if_true, if_false, not_false_eq_true, not_true_eq_false]; done) | simp [joinS, c_1, c_2, i32_le]) dX6_joined_109
    ·
      by_cases c_3 : b = (-14)
      ·
        refine lv_tableIn (off := 94) (tgt := 95) hx hb dX6_joined_1 (by rw [c_3]; decide) (by rw [c_3]; decide) (by rw [c_3]; rfl) (by decide) ?_
        refine lv_iload_n hx hb dX6_joined_95 rfl (lv_at hl 1 rfl) ?_
        refine lv_iload_n hx hb dX6_joined_96 rfl (lv_at hl 2 rfl) ?_
        refine lv_icmp_ne (tgt := 104) hx hb dX6_joined_97 (by decide) (fun c_4 => ?_) (fun c_4 => ?_)
        ·
          refine lv_iconst (v := 0) hx hb dX6_joined_104 (by decide) ?_
          exact hret 0 _ _ rfl (by (try simp only [i32_le, Decidable.not_not] at c_1); (try simp only [i32_le, Decidable.not_not] at c_2); (try simp only [i32_le, Decidable.not_not] at c_3); (try simp only [i32_le, Decidable.not_not] at c_4); first | (simp only [joinS, i32_le, c_1, c_2, c_3, c_4, if_true, if_false, not_false_eq_true, not_true_eq_false]; done) | simp [joinS, c_1, c_2, c_3, c_4, i32_le]) dX6_joined_105
        ·
          refine lv_iconst (v := 1) hx hb dX6_joined_100 (by decide) ?_
          refine lv_goto (tgt := 105) hx hb dX6_joined_101 (by decide) ?_
          exact hret 1 _ _ rfl (by (try simp only [i32_le, Decidable.not_not] at c_1); (try simp only [i32_le, Decidable.not_not] at c_2); (try simp only [i32_le, Decidable.not_not] at c_3); (try simp only [i32_le, Decidable.not_not] at c_4); first | (simp only [joinS, i32_le, c_1, c_2, c_3, c_4, if_true, if_false, not_false_eq_true, not_true_eq_false]; done) | simp [joinS, c_1, c_2, c_3, c_4, i32_le]) dX6_joined_105
      ·
        by_cases c_5 : b = (-13)
        ·
          refine lv_tableIn (off := 83) (tgt := 84) hx hb dX6_joined_1 (by rw [c_5]; decide) (by rw [c_5]; decide) (by rw [c_5]; rfl) (by decide) ?_
          refine lv_iload_n hx hb dX6_joined_84 rfl (lv_at hl 1 rfl) ?_
          refine lv_iload_n hx hb dX6_joined_85 rfl (lv_at hl 2 rfl) ?_
          refine lv_icmp_ge (tgt := 93) hx hb dX6_joined_86 (by decide) (fun c_6 => ?_) (fun c_6 => ?_)
          ·
            refine lv_iconst (v := 0) hx hb dX6_joined_93 (by decide) ?_
            exact hret 0 _ _ rfl (by (try simp only [i32_le, Decidable.not_not] at c_1); (try simp only [i32_le, Decidable.not_not] at c_2); (try simp only [i32_le, Decidable.not_not] at c_3); (try simp only [i32_le, Decidable.not_not] at c_5); (try simp only [i32_le, Decidable.not_not] at c_6); first | (simp only [joinS, i32_le, c_1, c_2, c_3, c_5, c_6, if_true, if_false, not_false_eq_true, not_true_eq_false]; done) | simp [joinS, c_1, c_2, c_3, c_5, c_6, i32_le]) dX6_joined_94
          ·
            refine lv_iconst (v := 1) hx hb dX6_joined_89 (by decide) ?_
            refine lv_goto (tgt := 94) hx hb dX6_joined_90 (by decide) ?_
            exact hret 1 _ _ rfl (by (try simp only [i32_le, Decidable.not_not] at c_1); (try simp only [i32_le, Decidable.not_not] at c_2); (try simp only [i32_le, Decidable.not_not] at c_3); (try simp only [i32_le, Decidable.not_not] at c_5); (try simp only [i32_le, Decidable.not_not] at c_6); first | (simp only [joinS, i32_le, c_1, c_2, c_3, c_5, c_6, if_true, if_false, not_false_eq_true, not_true_eq_false]; done) | simp [joinS, c_1, c_2, c_3, c_5, c_6, i32_le]) dX6_joined_94
        ·
          by_cases c_7 : b = (-12)
          ·
            refine lv_tableIn (off := 113) (tgt := 114) hx hb dX6_joined_1 (by rw [c_7]; decide) (by rw [c_7]; decide) (by rw [c_7]; rfl) (by decide) ?_
            refine lv_iload_n hx hb dX6_joined_114 rfl (lv_at hl 1 rfl) ?_
            refine lv_iload_n hx hb dX6_joined_115 rfl (lv_at hl 2 rfl) ?_
            refine lv_imul hx hb dX6_joined_116 ?_
            exact hret (x * z) _ _ rfl (by (try simp only [i32_le, Decidable.not_not] at c_1); (try simp only [i32_le, Decidable.not_not] at c_2); (try simp only [i32_le, Decidable.not_not] at c_3); (try simp only [i32_le, Decidable.not_not] at c_5); (try simp only [i32_le, Decidable.not_not] at c_7); first | (simp only [joinS, i32_le, c_1, c_2, c_3, c_5, c_7, if_true, if_false, not_false_eq_true, not_true_eq_false]; done) | simp [joinS, c_1, c_2, c_3, c_5, c_7, i32_le]) dX6_joined_117
          ·
            by_cases c_8 : b = (-11)
            ·
              refine lv_tableIn (off := 113) (tgt := 114) hx hb dX6_joined_1 (by rw [c_8]; decide) (by rw [c_8]; decide) (by rw [c_8]; rfl) (by decide) ?_
              refine lv_iload_n hx hb dX6_joined_114 rfl (lv_at hl 1 rfl) ?_
              refine lv_iload_n hx hb dX6_joined_115 rfl (lv_at hl 2 rfl) ?_
              refine lv_imul hx hb dX6_joined_116 ?_
              exact hret (x * z) _ _ rfl (by (try simp only [i32_le, Decidable.not_not] at c_1); (try simp only [i32_le, Decidable.not_not] at c_2); (try simp only [i32_le, Decidable.not_not] at c_3); (try simp only [i32_le, Decidable.not_not] at c_5); (try simp only [i32_le, Decidable.not_not] at c_7); (try simp only [i32_le, Decidable.not_not] at c_8); first | (simp only [joinS, i32_le, c_1, c_2, c_3, c_5, c_7, c_8, if_true, if_false, not_false_eq_true, not_true_eq_false]; done) | simp [joinS, c_1, c_2, c_3, c_5, c_7, c_8, i32_le]) dX6_joined_117
            ·
              by_cases c_9 : b = (-10)
              ·
                refine lv_tableIn (off := 113) (tgt := 114) hx hb dX6_joined_1 (by rw [c_9]; decide) (by rw [c_9]; decide) (by rw [c_9]; rfl) (by decide) ?_
                refine lv_iload_n hx hb dX6_joined_114 rfl (lv_at hl 1 rfl) ?_
                refine lv_iload_n hx hb dX6_joined_115 rfl (lv_at hl 2 rfl) ?_
                refine lv_imul hx hb dX6_joined_116 ?_
                exact hret (x * z) _ _ rfl (by (try simp only [i32_le, Decidable.not_not] at c_1); (try simp only [i32_le, Decidable.not_not] at c_2); (try simp only [i32_le, Decidable.not_not] at c_3); (try simp only [i32_le, Decidable.not_not] at c_5); (try simp only [i32_le, Decidable.not_not] at c_7); (try simp only [i32_le, Decidable.not_not] at c_8); (try simp only [i32_le, Decidable.not_not] at c_9); first | (simp only [joinS, i32_le, c_1, c_2, c_3, c_5, c_7, c_8, c_9, if_true, if_false, not_false_eq_true, not_true_eq_false]; done) | simp [joinS, c_1, c_2, c_3, c_5, c_7, c_8, c_9, i32_le]) dX6_joined_117
              ·
                by_cases c_10 : b = (-9)
                ·
                  refine lv_tableIn (off := 113) (tgt := 114) hx hb dX6_joined_1 (by rw [c_10]; decide) (by rw [c_10]; decide) (by rw [c_10]; rfl) (by decide) ?_
                  refine lv_iload_n hx hb dX6_joined_114 rfl (lv_at hl 1 rfl) ?_
                  refine lv_iload_n hx hb dX6_joined_115 rfl (lv_at hl 2 rfl) ?_
                  refine lv_imul hx hb dX6_joined_116 ?_
                  exact hret (x * z) _ _ rfl (by (try simp only [i32_le, Decidable.not_not] at c_1); (try simp only [i32_le, Decidable.not_not] at c_2); (try simp only [i32_le, Decidable.not_not] at c_3); (try simp only [i32_le, Decidable.not_not] at c_5); (try simp only [i32_le, Decidable.not_not] at c_7); (try simp only [i32_le, Decidable.not_not] at c_8); (try simp only [i32_le, Decidable.not_not] at c_9); (try simp only [i32_le, Decidable.not_not] at c_10); first | (simp only [joinS, i32_le, c_1, c_2, c_3, c_5, c_7, c_8, c_9, c_10, if_true, if_false, not_false_eq_true, not_true_eq_false]; done) | simp [joinS, c_1, c_2, c_3, c_5, c_7, c_8, c_9, c_10, i32_le]) dX6_joined_117
                ·
                  by_cases c_11 : b = (-8)
                  ·
                    refine lv_tableIn (off := 69) (tgt := 70) hx hb dX6_joined_1 (by rw [c_11]; decide) (by rw [c_11]; decide) (by rw [c_11]; rfl) (by decide) ?_
                    refine lv_iload_n hx hb dX6_joined_70 rfl (lv_at hl 1 rfl) ?_
                    refine lv_if_eq (tgt := 82) hx hb dX6_joined_71 (by decide) (fun c_12 => ?_) (fun c_12 => ?_)
                    ·
                      refine lv_iconst (v := 0) hx hb dX6_joined_82 (by decide) ?_
                      exact hret 0 _ _ rfl (by (try simp only [i32_le, Decidable.not_not] at c_1); (try simp only [i32_le, Decidable.not_not] at c_2); (try simp only [i32_le, Decidable.not_not] at c_3); (try simp only [i32_le, Decidable.not_not] at c_5); (try simp only [i32_le, Decidable.not_not] at c_7); (try simp only [i32_le, Decidable.not_not] at c_8); (try simp only [i32_le, Decidable.not_not] at c_9); (try simp only [i32_le, Decidable.not_not] at c_10); (try simp only [i32_le, Decidable.not_not] at c_11); (try simp only [i32_le, Decidable.not_not] at c_12); first | (simp only [joinS, i32_le, c_1, c_2, c_3, c_5, c_7, c_8, c_9, c_10, c_11, c_12, if_true, if_false, not_false_eq_true, not_true_eq_false]; done) | simp [joinS, c_1, c_2, c_3, c_5, c_7, c_8, c_9, c_10, c_11, c_12, i32_le]) dX6_joined_83
                    ·
                      refine lv_iload_n hx hb dX6_joined_74 rfl (lv_at hl 2 rfl) ?_
                      refine lv_if_eq (tgt := 82) hx hb dX6_joined_75 (by decide) (fun c_13 => ?_) (fun c_13 => ?_)
                      ·
                        refine lv_iconst (v := 0) hx hb dX6_joined_82 (by decide) ?_
                        exact hret 0 _ _ rfl (by (try simp only [i32_le, Decidable.not_not] at c_1); (try simp only [i32_le, Decidable.not_not] at c_2); (try simp only [i32_le, Decidable.not_not] at c_3); (try simp only [i32_le, Decidable.not_not] at c_5); (try simp only [i32_le, Decidable.not_not] at c_7); (try simp only [i32_le, Decidable.not_not] at c_8); (try simp only [i32_le, Decidable.not_not] at c_9); (try simp only [i32_le, Decidable.not_not] at c_10); (try simp only [i32_le, Decidable.not_not] at c_11); (try simp only [i32_le, Decidable.not_not] at c_12); (try simp only [i32_le, Decidable.not_not] at c_13); first | (simp only [joinS, i32_le, c_1, c_2, c_3, c_5, c_7, c_8, c_9, c_10, c_11, c_12, c_13, if_true, if_false, not_false_eq_true, not_true_eq_false]; done) | simp [joinS, c_1, c_2, c_3, c_5, c_7, c_8, c_9, c_10, c_11, c_12, c_13, i32_le]) dX6_joined_83
                      ·
                        refine lv_iconst (v := 1) hx hb dX6_joined_78 (by decide) ?_
                        refine lv_goto (tgt := 83) hx hb dX6_joined_79 (by decide) ?_
                        exact hret 1 _ _ rfl (by (try simp only [i32_le, Decidable.not_not] at c_1); (try simp only [i32_le, Decidable.not_not] at c_2); (try simp only [i32_le, Decidable.not_not] at c_3); (try simp only [i32_le, Decidable.not_not] at c_5); (try simp only [i32_le, Decidable.not_not] at c_7); (try simp only [i32_le, Decidable.not_not] at c_8); (try simp only [i32_le, Decidable.not_not] at c_9); (try simp only [i32_le, Decidable.not_not] at c_10); (try simp only [i32_le, Decidable.not_not] at c_11); (try simp only [i32_le, Decidable.not_not] at c_12); (try simp only [i32_le, Decidable.not_not] at c_13); first | (simp only [joinS, i32_le, c_1, c_2, c_3, c_5, c_7, c_8, c_9, c_10, c_11, c_12, c_13, if_true, if_false, not_false_eq_true, not_true_eq_false]; done) | simp [joinS, c_1, c_2, c_3, c_5, c_7, c_8, c_9, c_10, c_11, c_12, c_13, i32_le]) dX6_joined_83
                  ·
                    by_cases c_14 : b = (-7)
                    ·
                      refine lv_tableIn (off := 55) (tgt := 56) hx hb dX6_joined_1 (by rw [c_14]; decide) (by rw [c_14]; decide) (by rw [c_14]; rfl) (by decide) ?_
                      refine lv_iload_n hx hb dX6_joined_56 rfl (lv_at hl 1 rfl) ?_
                      refine lv_if_ne (tgt := 64) hx hb dX6_joined_57 (by decide) (fun c_15 => ?_) (fun c_15 => ?_)
                      ·
                        refine lv_iconst (v := 1) hx hb dX6_joined_64 (by decide) ?_
                        refine lv_goto (tgt := 69) hx hb dX6_joined_65 (by decide) ?_
                        exact hret 1 _ _ rfl (by (try simp only [i32_le, Decidable.not_not] at c_1); (try simp only [i32_le, Decidable.not_not] at c_2); (try simp only [i32_le, Decidable.not_not] at c_3); (try simp only [i32_le, Decidable.not_not] at c_5); (try simp only [i32_le, Decidable.not_not] at c_7); (try simp only [i32_le, Decidable.not_not] at c_8); (try simp only [i32_le, Decidable.not_not] at c_9); (try simp only [i32_le, Decidable.not_not] at c_10); (try simp only [i32_le, Decidable.not_not] at c_11); (try simp only [i32_le, Decidable.not_not] at c_14); (try simp only [i32_le, Decidable.not_not] at c_15); first | (simp only [joinS, i32_le, c_1, c_2, c_3, c_5, c_7, c_8, c_9, c_10, c_11, c_14, c_15, if_true, if_false, not_false_eq_true, not_true_eq_false]; done) | simp [joinS, c_1, c_2, c_3, c_5, c_7, c_8, c_9, c_10, c_11, c_14, c_15, i32_le]) dX6_joined_69
                      ·
                        refine lv_iload_n hx hb dX6_joined_60 rfl (lv_at hl 2 rfl) ?_
                        refine lv_if_eq (tgt := 68) hx hb dX6_joined_61 (by decide) (fun c_16 => ?_) (fun c_16 => ?_)
                        ·
                          refine lv_iconst (v := 0) hx hb dX6_joined_68 (by decide) ?_
                          exact hret 0 _ _ rfl (by (try simp only [i32_le, Decidable.not_not] at c_1); (try simp only [i32_le, Decidable.not_not] at c_2); (try simp only [i32_le, Decidable.not_not] at c_3); (try simp only [i32_le, Decidable.not_not] at c_5); (try simp only [i32_le, Decidable.not_not] at c_7); (try simp only [i32_le, Decidable.not_not] at c_8); (try simp only [i32_le, Decidable.not_not] at c_9); (try simp only [i32_le, Decidable.not_not] at c_10); (try simp only [i32_le, Decidable.not_not] at c_11); (try simp only [i32_le, Decidable.not_not] at c_14); (try simp only [i32_le, Decidable.not_not] at c_15); (try simp only [i32_le, Decidable.not_not] at c_16); first | (simp only [joinS, i32_le, c_1, c_2, c_3, c_5, c_7, c_8, c_9, c_10, c_11, c_14, c_15, c_16, if_true, if_false, not_false_eq_true, not_true_eq_false]; done) | simp [joinS, c_1, c_2, c_3, c_5, c_7, c_8, c_9, c_10, c_11, c_14, c_15, c_16, i32_le]) dX6_joined_69
                        ·
                          refine lv_iconst (v := 1) hx hb dX6_joined_64 (by decide) ?_
                          refine lv_goto (tgt := 69) hx hb dX6_joined_65 (by decide) ?_
                          exact hret 1 _ _ rfl (by (try simp only [i32_le, Decidable.not_not] at c_1); (try simp only [i32_le, Decidable.not_not] at c_2); (try simp only [i32_le, Decidable.not_not] at c_3); (try simp only [i32_le, Decidable.not_not] at c_5); (try simp only [i32_le, Decidable.not_not] at c_7); (try simp only [i32_le, Decidable.not_not] at c_8); (try simp only [i32_le, Decidable.not_not] at c_9); (try simp only [i32_le, Decidable.not_not] at c_10); (try simp only [i32_le, Decidable.not_not] at c_11); (try simp only [i32_le, Decidable.not_not] at c_14); (try simp only [i32_le, Decidable.not_not] at c_15); (try simp only [i32_le, Decidable.not_not] at c_16); first | (simp only [joinS, i32_le, c_1, c_2, c_3, c_5, c_7, c_8, c_9, c_10, c_11, c_14, c_15, c_16, if_true, if_false, not_false_eq_true, not_true_eq_false]; done) | simp [joinS, c_1, c_2, c_3, c_5, c_7, c_8, c_9, c_10, c_11, c_14, c_15, c_16, i32_le]) dX6_joined_69
                    ·
                      refine lv_tableOut (tgt := 114) hx hb dX6_joined_1 (tb_out10_m16 c_1 c_2 c_3 c_5 c_7 c_8 c_9 c_10 c_11 c_14) (by decide) ?_
                      refine lv_iload_n hx hb dX6_joined_114 rfl (lv_at hl 1 rfl) ?_
                      refine lv_iload_n hx hb dX6_joined_115 rfl (lv_at hl 2 rfl) ?_
                      refine lv_imul hx hb dX6_joined_116 ?_
                      exact hret (x * z) _ _ rfl (by (try simp only [i32_le, Decidable.not_not] at c_1); (try simp only [i32_le, Decidable.not_not] at c_2); (try simp only [i32_le, Decidable.not_not] at c_3); (try simp only [i32_le, Decidable.not_not] at c_5); (try simp only [i32_le, Decidable.not_not] at c_7); (try simp only [i32_le, Decidable.not_not] at c_8); (try simp only [i32_le, Decidable.not_not] at c_9); (try simp only [i32_le, Decidable.not_not] at c_10); (try simp only [i32_le, Decidable.not_not] at c_11); (try simp only [i32_le, Decidable.not_not] at c_14); first | (simp only [joinS, i32_le, c_1, c_2, c_3, c_5, c_7, c_8, c_9, c_10, c_11, c_14, if_true, if_false, not_false_eq_true, not_true_eq_false]; done) | simp [joinS, c_1, c_2, c_3, c_5, c_7, c_8, c_9, c_10, c_11, c_14, i32_le]) dX6_joined_117
set_option maxHeartbeats 800000 in
set_option maxRecDepth 100000 in
theorem kX8_in {l : Launch} {v a b : Int32}  : PM l yX8_in cX8_in 3 FieldType.boolean { frames := 0, cells := 0, slots := 0, locals := 0 } [.int v, .int a, .int b] (if v < a then 0 else if b < v then 0 else 1) := by
  refine gw_stS (own := RX8) (by decide +kernel) rfl (Nat.le_of_ble_eq_true rfl) ?_
  intro p e s m ar below meth c Q F hret ls hl
  obtain ⟨hx, hb, hml, hown, hts⟩ := id F
  have hl : lv_has ls 3 [(0, .int v), (1, .int a), (2, .int b)] := hl
  refine lv_iload_n hx hb dX8_in_0 rfl (lv_at hl 0 rfl) ?_
  refine lv_iload_n hx hb dX8_in_1 rfl (lv_at hl 1 rfl) ?_
  refine lv_icmp_lt (tgt := 14) hx hb dX8_in_2 (by decide) (fun c_1 => ?_) (fun c_1 => ?_)
  ·
    refine lv_iconst (v := 0) hx hb dX8_in_14 (by decide) ?_
    exact hret 0 _ _ rfl (by (try simp only [i32_le, Decidable.not_not] at c_1); first | (simp only [i32_le, c_1, if_true, if_false, not_false_eq_true, not_true_eq_false]; done) | simp [c_1, i32_le]) dX8_in_15
  ·
    refine lv_iload_n hx hb dX8_in_5 rfl (lv_at hl 0 rfl) ?_
    refine lv_iload_n hx hb dX8_in_6 rfl (lv_at hl 2 rfl) ?_
    refine lv_icmp_gt (tgt := 14) hx hb dX8_in_7 (by decide) (fun c_2 => ?_) (fun c_2 => ?_)
    ·
      refine lv_iconst (v := 0) hx hb dX8_in_14 (by decide) ?_
      exact hret 0 _ _ rfl (by (try simp only [i32_le, Decidable.not_not] at c_1); (try simp only [i32_le, Decidable.not_not] at c_2); first | (simp only [i32_le, c_1, c_2, if_true, if_false, not_false_eq_true, not_true_eq_false]; done) | simp [c_1, c_2, i32_le]) dX8_in_15
    ·
      refine lv_iconst (v := 1) hx hb dX8_in_10 (by decide) ?_
      refine lv_goto (tgt := 15) hx hb dX8_in_11 (by decide) ?_
      exact hret 1 _ _ rfl (by (try simp only [i32_le, Decidable.not_not] at c_1); (try simp only [i32_le, Decidable.not_not] at c_2); first | (simp only [i32_le, c_1, c_2, if_true, if_false, not_false_eq_true, not_true_eq_false]; done) | simp [c_1, c_2, i32_le]) dX8_in_15
set_option maxHeartbeats 800000 in
set_option maxRecDepth 100000 in
theorem kX8_within {l : Launch} {v a b : Int32}  : PM l yX8_within cX8_within 3 FieldType.int { frames := 0, cells := 0, slots := 0, locals := 0 } [.int v, .int a, .int b] (if v < a then a else if b < v then b else v) := by
  refine gw_stS (own := RX8) (by decide +kernel) rfl (Nat.le_of_ble_eq_true rfl) ?_
  intro p e s m ar below meth c Q F hret ls hl
  obtain ⟨hx, hb, hml, hown, hts⟩ := id F
  have hl : lv_has ls 3 [(0, .int v), (1, .int a), (2, .int b)] := hl
  refine lv_iload_n hx hb dX8_within_0 rfl (lv_at hl 0 rfl) ?_
  refine lv_iload_n hx hb dX8_within_1 rfl (lv_at hl 1 rfl) ?_
  refine lv_icmp_ge (tgt := 9) hx hb dX8_within_2 (by decide) (fun c_1 => ?_) (fun c_1 => ?_)
  ·
    refine lv_iload_n hx hb dX8_within_9 rfl (lv_at hl 0 rfl) ?_
    refine lv_iload_n hx hb dX8_within_10 rfl (lv_at hl 2 rfl) ?_
    refine lv_icmp_le (tgt := 18) hx hb dX8_within_11 (by decide) (fun c_2 => ?_) (fun c_2 => ?_)
    ·
      refine lv_iload_n hx hb dX8_within_18 rfl (lv_at hl 0 rfl) ?_
      exact hret v _ _ rfl (by (try simp only [i32_le, Decidable.not_not] at c_1); (try simp only [i32_le, Decidable.not_not] at c_2); first | (simp only [i32_le, c_1, c_2, if_true, if_false, not_false_eq_true, not_true_eq_false]; done) | simp [c_1, c_2, i32_le]) dX8_within_19
    ·
      refine lv_iload_n hx hb dX8_within_14 rfl (lv_at hl 2 rfl) ?_
      refine lv_goto (tgt := 19) hx hb dX8_within_15 (by decide) ?_
      exact hret b _ _ rfl (by (try simp only [i32_le, Decidable.not_not] at c_1); (try simp only [i32_le, Decidable.not_not] at c_2); first | (simp only [i32_le, c_1, c_2, if_true, if_false, not_false_eq_true, not_true_eq_false]; done) | simp [c_1, c_2, i32_le]) dX8_within_19
  ·
    refine lv_iload_n hx hb dX8_within_5 rfl (lv_at hl 1 rfl) ?_
    refine lv_goto (tgt := 19) hx hb dX8_within_6 (by decide) ?_
    exact hret a _ _ rfl (by (try simp only [i32_le, Decidable.not_not] at c_1); first | (simp only [i32_le, c_1, if_true, if_false, not_false_eq_true, not_true_eq_false]; done) | simp [c_1, i32_le]) dX8_within_19
