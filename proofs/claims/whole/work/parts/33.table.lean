theorem says_x {n t pt q : Nat} {τ : Nat → Nat → Nat → Int32} {T : Tb} (ht : t < n) (hp : pt < 3) (he : (T 6 3).toNatClampNeg = t) : saysG (xLd τ t (stN τ t pt) (stN τ t (pt + 1))) pt (T q) (T 6 2) = saysS (xLx n τ) T pt q := by
  subst he
  unfold saysS xLx
  rw [if_pos ⟨ht, hp⟩]
theorem seat_1 {n q : Nat} {T : Tb} (hT : okT n T) (hq : q < seatsN T) : (if nI q < 0 then (0 : Int32) else if T 6 1 ≤ nI q then 0 else 1) = 1 := by
  have h6 := hT.1
  rw [hT.2.1, if_neg (nI_pos (by omega)), if_neg (nI_ge hq (by omega))]
abbrev rm_yX4_minded : Room := { frames := 3, cells := 0, slots := 0, locals := 68 }
set_option maxHeartbeats 800000 in
set_option maxRecDepth 100000 in
theorem kX4_minded {l : Launch} {D : va_G} {cs : Nat → ClassId} {ad : Nat → Nat} {n : Nat} {ρ σ : Nat → Nat → Int32} {TT τ : Nat → Nat → Nat → Int32} {sz : Nat} {b q : Nat} (hb : b < 3) (hT : okT n (TT b)) (hq : q < seatsN (TT b)) (hX : okX n τ) : XMi l yX4_minded cX4_minded 3 FieldType.int rm_yX4_minded [.ref (ad (9 + 8 * b)), .ref (ad (9 + 8 * b + 1 + 1 + q))] D cs ad n ρ TT τ σ sz (fun (r : Int32) (u : Nat → Nat → Int32) => r = mindS (xLx n τ) (TT b) q) (fun u : Nat → Nat → Int32 => xent ad cs n u TT τ σ) := by
  refine gw_stI (Ff := fun u : Nat → Nat → Int32 => xent ad cs n u TT τ σ) (own := RX4) (by decide +kernel) rfl (Nat.le_of_ble_eq_true rfl) ?_
  intro p e s m ar below meth c A Q F hE hsz hW hret ls hl
  obtain ⟨hx, hb, hml, hown, hts⟩ := id F
  have hl : lv_has ls 3 [(0, .ref (ad (9 + 8 * b))), (1, .ref (ad (9 + 8 * b + 1 + 1 + q)))] := hl
  have hq6 : q < 6 := Nat.lt_of_lt_of_le hq hT.1
  have hG := hT.2.2.2.2 q hq
  have ht : (TT b 6 3).toNatClampNeg < n := hT.2.2.1
  have hs6 := hT.1
  have hsN := hT.2.1
  refine lv_aload_n hx hb dX4_minded_0 rfl (lv_at hl 0 rfl) ?_
  refine xr_Tl (b := b) F hW (by omega) fl_RX4_9 dX4_minded_1 ?_
  refine lv_iconst (v := 0) hx hb dX4_minded_4 (by decide) ?_
  refine lv_aload_n hx hb dX4_minded_5 rfl (lv_at hl 1 rfl) ?_
  refine lv_aload_n hx hb dX4_minded_6 rfl (lv_at hl 0 rfl) ?_
  refine xr_Ti (b := b) F hW (by omega) 2 (by decide) fl_RX4_26 dX4_minded_7 ?_
  refine gw_callVi (As := [.int 0, .ref (ad (9 + 8 * b + 1 + 1 + q)), .int (TT b 6 2)]) (rest := []) F hl.1 hW (fun _ _ hw => va_Nw.warmM hw hE) XE_E (by have := hT.2.2.1; unfold lawN at this; omega) (xe_X _) rfl (kX6_says (b := b) (q := q) (t := (TT b 6 3).toNatClampNeg) (pt := 0) (by omega) (by omega) hT.2.2.1 (by decide) hG.2.2.1 hX) pd_yX6_says ml_RX4_33 im_yX6_says se_yX6_says ini_RX6 cd_yX6_says ⟨rfl, rfl⟩ ⟨Nat.le_of_ble_eq_true rfl, Nat.le_of_ble_eq_true rfl⟩ rfl rfl (Nat.le_of_ble_eq_true rfl) ⟨Nat.zero_le _, Nat.zero_le _⟩ dX4_minded_10 (fun r ρ_1 H locs hp hW _ _ => ?_)
  subst hp
  refine lv_as (z := saysS (xLx n τ) (TT b) 0 q) (says_x hT.2.2.1 (by decide) rfl) ?_
  refine lv_aload_n hx hb dX4_minded_13 rfl (lv_at hl 1 rfl) ?_
  refine xr_G (b := b) (q := q) F hW (by omega) (by omega) 3 (by decide) fl_RX4_39 dX4_minded_14 ?_
  refine lv_icmp_ge (tgt := 24) hx hb dX4_minded_17 (by decide) (fun c_2 => ?_) (fun c_2 => ?_)
  ·
    refine lv_iconst (v := 0) hx hb dX4_minded_24 (by decide) ?_
    refine lv_istore_n (lv' := [(2, .int 0), (0, .ref (ad (9 + 8 * b))), (1, .ref (ad (9 + 8 * b + 1 + 1 + q)))]) hx hb dX4_minded_25 rfl hl (by decide) rfl (fun ls hl => ?_)
    refine lv_aload_n hx hb dX4_minded_26 rfl (lv_at hl 2 rfl) ?_
    refine xr_G (b := b) (q := q) F hW (by omega) (by omega) 0 (by decide) fl_RX4_42 dX4_minded_27 ?_
    by_cases c_3 : TT b q 0 = 1
    ·
      refine lv_tableIn (off := 34) (tgt := 64) hx hb dX4_minded_30 (by rw [c_3]; decide) (by rw [c_3]; decide) (by rw [c_3]; rfl) (by decide) ?_
      refine lv_aload_n hx hb dX4_minded_64 rfl (lv_at hl 2 rfl) ?_
      refine lv_iload_n hx hb dX4_minded_65 rfl (lv_at hl 0 rfl) ?_
      refine gw_callSi (As := [.ref (ad (9 + 8 * b + 1 + 1 + q)), .int 0]) (rest := []) F hl.1 hW (fun _ _ hw => va_Nw.warmM hw hE) XE_E (kX4_mindedByBred (b := b) (q := q) (by omega) (by omega)) pd_yX4_mindedByBred ml_RX4_45 st_yX4_mindedByBred ini_RX4 cd_yX4_mindedByBred ⟨rfl, rfl⟩ ⟨Nat.le_of_ble_eq_true rfl, Nat.le_of_ble_eq_true rfl⟩ rfl rfl (Nat.le_of_ble_eq_true rfl) ⟨Nat.zero_le _, Nat.zero_le _⟩ dX4_minded_66 (fun r u H locs hp hW _ _ => ?_)
      subst hp
      exact hret (bredS (TT b q) 0) _ _ _ _ _ _ hW rfl rfl (by (try simp only [i32_le, Decidable.not_not] at c_2); (try simp only [i32_le, Decidable.not_not] at c_3); first | (simp only [mindS, timS, remS, i32_le, c_2, c_3, if_true, if_false, not_false_eq_true, not_true_eq_false]; done) | simp [mindS, timS, remS, c_2, c_3, i32_le]) dX4_minded_69
    ·
      by_cases c_4 : TT b q 0 = 2
      ·
        refine lv_tableIn (off := 40) (tgt := 70) hx hb dX4_minded_30 (by rw [c_4]; decide) (by rw [c_4]; decide) (by rw [c_4]; rfl) (by decide) ?_
        refine lv_aload_n hx hb dX4_minded_70 rfl (lv_at hl 2 rfl) ?_
        refine lv_iload_n hx hb dX4_minded_71 rfl (lv_at hl 0 rfl) ?_
        refine gw_callSi (As := [.ref (ad (9 + 8 * b + 1 + 1 + q)), .int 0]) (rest := []) F hl.1 hW (fun _ _ hw => va_Nw.warmM hw hE) XE_E (kX4_mindedByHungry (b := b) (q := q) (by omega) (by omega)) pd_yX4_mindedByHungry ml_RX4_49 st_yX4_mindedByHungry ini_RX4 cd_yX4_mindedByHungry ⟨rfl, rfl⟩ ⟨Nat.le_of_ble_eq_true rfl, Nat.le_of_ble_eq_true rfl⟩ rfl rfl (Nat.le_of_ble_eq_true rfl) ⟨Nat.zero_le _, Nat.zero_le _⟩ dX4_minded_72 (fun r u H locs hp hW _ _ => ?_)
        subst hp
        exact hret (hungS (TT b q) 0) _ _ _ _ _ _ hW rfl rfl (by (try simp only [i32_le, Decidable.not_not] at c_2); (try simp only [i32_le, Decidable.not_not] at c_3); (try simp only [i32_le, Decidable.not_not] at c_4); first | (simp only [mindS, timS, remS, i32_le, c_2, c_3, c_4, if_true, if_false, not_false_eq_true, not_true_eq_false]; done) | simp [mindS, timS, remS, c_2, c_3, c_4, i32_le]) dX4_minded_75
      ·
        by_cases c_5 : TT b q 0 = 3
        ·
          refine lv_tableIn (off := 46) (tgt := 76) hx hb dX4_minded_30 (by rw [c_5]; decide) (by rw [c_5]; decide) (by rw [c_5]; rfl) (by decide) ?_
          refine lv_aload_n hx hb dX4_minded_76 rfl (lv_at hl 2 rfl) ?_
          refine lv_iload_n hx hb dX4_minded_77 rfl (lv_at hl 0 rfl) ?_
          refine gw_callSi (As := [.ref (ad (9 + 8 * b + 1 + 1 + q)), .int 0]) (rest := []) F hl.1 hW (fun _ _ hw => va_Nw.warmM hw hE) XE_E (kX4_mindedByBred (b := b) (q := q) (by omega) (by omega)) pd_yX4_mindedByBred ml_RX4_45 st_yX4_mindedByBred ini_RX4 cd_yX4_mindedByBred ⟨rfl, rfl⟩ ⟨Nat.le_of_ble_eq_true rfl, Nat.le_of_ble_eq_true rfl⟩ rfl rfl (Nat.le_of_ble_eq_true rfl) ⟨Nat.zero_le _, Nat.zero_le _⟩ dX4_minded_78 (fun r u H locs hp hW _ _ => ?_)
          subst hp
          refine lv_aload_n hx hb dX4_minded_81 rfl (lv_at hl 1 rfl) ?_
          refine xr_Ti (b := b) F hW (by omega) 2 (by decide) fl_RX4_26 dX4_minded_82 ?_
          refine lv_iconst (v := 2) hx hb dX4_minded_85 (by decide) ?_
          refine lv_irem hx hb dX4_minded_86 (by decide) ?_
          refine lv_if_ne (tgt := 96) hx hb dX4_minded_87 (by decide) (fun c_6 => ?_) (fun c_6 => ?_)
          ·
            refine lv_sipush (v := 682) hx hb dX4_minded_96 (by decide) ?_
            refine lv_iand hx hb dX4_minded_99 ?_
            exact hret ((bredS (TT b q) 0) &&& 682) _ _ _ _ _ _ hW rfl rfl (by (try simp only [i32_le, Decidable.not_not] at c_2); (try simp only [i32_le, Decidable.not_not] at c_3); (try simp only [i32_le, Decidable.not_not] at c_4); (try simp only [i32_le, Decidable.not_not] at c_5); (try simp only [i32_le, Decidable.not_not] at c_6); first | (simp only [mindS, timS, remS, i32_le, c_2, c_3, c_4, c_5, c_6, if_true, if_false, not_false_eq_true, not_true_eq_false]; done) | simp [mindS, timS, remS, c_2, c_3, c_4, c_5, c_6, i32_le]) dX4_minded_100
          ·
            refine lv_sipush (v := 341) hx hb dX4_minded_90 (by decide) ?_
            refine lv_goto (tgt := 99) hx hb dX4_minded_93 (by decide) ?_
            refine lv_iand hx hb dX4_minded_99 ?_
            exact hret ((bredS (TT b q) 0) &&& 341) _ _ _ _ _ _ hW rfl rfl (by (try simp only [i32_le, Decidable.not_not] at c_2); (try simp only [i32_le, Decidable.not_not] at c_3); (try simp only [i32_le, Decidable.not_not] at c_4); (try simp only [i32_le, Decidable.not_not] at c_5); (try simp only [i32_le, Decidable.not_not] at c_6); first | (simp only [mindS, timS, remS, i32_le, c_2, c_3, c_4, c_5, c_6, if_true, if_false, not_false_eq_true, not_true_eq_false]; done) | simp [mindS, timS, remS, c_2, c_3, c_4, c_5, c_6, i32_le]) dX4_minded_100
        ·
          by_cases c_7 : TT b q 0 = 4
          ·
            refine lv_tableIn (off := 71) (tgt := 101) hx hb dX4_minded_30 (by rw [c_7]; decide) (by rw [c_7]; decide) (by rw [c_7]; rfl) (by decide) ?_
            refine lv_aload_n hx hb dX4_minded_101 rfl (lv_at hl 1 rfl) ?_
            refine xr_Ti (b := b) F hW (by omega) 2 (by decide) fl_RX4_26 dX4_minded_102 ?_
            refine lv_aload_n hx hb dX4_minded_105 rfl (lv_at hl 2 rfl) ?_
            refine xr_G (b := b) (q := q) F hW (by omega) (by omega) 1 (by decide) fl_RX4_52 dX4_minded_106 ?_
            refine lv_icmp_ge (tgt := 120) hx hb dX4_minded_109 (by decide) (fun c_8 => ?_) (fun c_8 => ?_)
            ·
              refine lv_iconst (v := 0) hx hb dX4_minded_120 (by decide) ?_
              exact hret 0 _ _ _ _ _ _ hW rfl rfl (by (try simp only [i32_le, Decidable.not_not] at c_2); (try simp only [i32_le, Decidable.not_not] at c_3); (try simp only [i32_le, Decidable.not_not] at c_4); (try simp only [i32_le, Decidable.not_not] at c_5); (try simp only [i32_le, Decidable.not_not] at c_7); (try simp only [i32_le, Decidable.not_not] at c_8); first | (simp only [mindS, timS, remS, i32_le, c_2, c_3, c_4, c_5, c_7, c_8, if_true, if_false, not_false_eq_true, not_true_eq_false]; done) | simp [mindS, timS, remS, c_2, c_3, c_4, c_5, c_7, c_8, i32_le]) dX4_minded_121
            ·
              refine lv_aload_n hx hb dX4_minded_112 rfl (lv_at hl 2 rfl) ?_
              refine lv_iload_n hx hb dX4_minded_113 rfl (lv_at hl 0 rfl) ?_
              refine gw_callSi (As := [.ref (ad (9 + 8 * b + 1 + 1 + q)), .int 0]) (rest := []) F hl.1 hW (fun _ _ hw => va_Nw.warmM hw hE) XE_E (kX4_mindedByHungry (b := b) (q := q) (by omega) (by omega)) pd_yX4_mindedByHungry ml_RX4_49 st_yX4_mindedByHungry ini_RX4 cd_yX4_mindedByHungry ⟨rfl, rfl⟩ ⟨Nat.le_of_ble_eq_true rfl, Nat.le_of_ble_eq_true rfl⟩ rfl rfl (Nat.le_of_ble_eq_true rfl) ⟨Nat.zero_le _, Nat.zero_le _⟩ dX4_minded_114 (fun r u H locs hp hW _ _ => ?_)
              subst hp
              refine lv_goto (tgt := 121) hx hb dX4_minded_117 (by decide) ?_
              exact hret (hungS (TT b q) 0) _ _ _ _ _ _ hW rfl rfl (by (try simp only [i32_le, Decidable.not_not] at c_2); (try simp only [i32_le, Decidable.not_not] at c_3); (try simp only [i32_le, Decidable.not_not] at c_4); (try simp only [i32_le, Decidable.not_not] at c_5); (try simp only [i32_le, Decidable.not_not] at c_7); (try simp only [i32_le, Decidable.not_not] at c_8); first | (simp only [mindS, timS, remS, i32_le, c_2, c_3, c_4, c_5, c_7, c_8, if_true, if_false, not_false_eq_true, not_true_eq_false]; done) | simp [mindS, timS, remS, c_2, c_3, c_4, c_5, c_7, c_8, i32_le]) dX4_minded_121
          ·
            by_cases c_9 : TT b q 0 = 5
            ·
              refine lv_tableIn (off := 92) (tgt := 122) hx hb dX4_minded_30 (by rw [c_9]; decide) (by rw [c_9]; decide) (by rw [c_9]; rfl) (by decide) ?_
              refine lv_sipush (v := 1023) hx hb dX4_minded_122 (by decide) ?_
              exact hret 1023 _ _ _ _ _ _ hW rfl rfl (by (try simp only [i32_le, Decidable.not_not] at c_2); (try simp only [i32_le, Decidable.not_not] at c_3); (try simp only [i32_le, Decidable.not_not] at c_4); (try simp only [i32_le, Decidable.not_not] at c_5); (try simp only [i32_le, Decidable.not_not] at c_7); (try simp only [i32_le, Decidable.not_not] at c_9); first | (simp only [mindS, timS, remS, i32_le, c_2, c_3, c_4, c_5, c_7, c_9, if_true, if_false, not_false_eq_true, not_true_eq_false]; done) | simp [mindS, timS, remS, c_2, c_3, c_4, c_5, c_7, c_9, i32_le]) dX4_minded_125
            ·
              refine lv_tableOut (tgt := 126) hx hb dX4_minded_30 (tb_out5_1 c_3 c_4 c_5 c_7 c_9) (by decide) ?_
              refine lv_iload_n hx hb dX4_minded_126 rfl (lv_at hl 0 rfl) ?_
              refine lv_if_eq (tgt := 136) hx hb dX4_minded_127 (by decide) (fun c_10 => ?_) (fun c_10 => ?_)
              ·
                refine lv_aload_n hx hb dX4_minded_136 rfl (lv_at hl 2 rfl) ?_
                refine xr_G (b := b) (q := q) F hW (by omega) (by omega) 2 (by decide) fl_RX4_55 dX4_minded_137 ?_
                exact hret (TT b q 2) _ _ _ _ _ _ hW rfl rfl (by (try simp only [i32_le, Decidable.not_not] at c_2); (try simp only [i32_le, Decidable.not_not] at c_3); (try simp only [i32_le, Decidable.not_not] at c_4); (try simp only [i32_le, Decidable.not_not] at c_5); (try simp only [i32_le, Decidable.not_not] at c_7); (try simp only [i32_le, Decidable.not_not] at c_9); first | (simp only [mindS, timS, remS, i32_le, c_2, c_3, c_4, c_5, c_7, c_9, if_true, if_false, not_false_eq_true, not_true_eq_false]; done) | simp [mindS, timS, remS, c_2, c_3, c_4, c_5, c_7, c_9, i32_le]) dX4_minded_140
              ·
                exact absurd c_10 (by decide)
  ·
    refine lv_iconst (v := 1) hx hb dX4_minded_20 (by decide) ?_
    refine lv_goto (tgt := 25) hx hb dX4_minded_21 (by decide) ?_
    refine lv_istore_n (lv' := [(2, .int 1), (0, .ref (ad (9 + 8 * b))), (1, .ref (ad (9 + 8 * b + 1 + 1 + q)))]) hx hb dX4_minded_25 rfl hl (by decide) rfl (fun ls hl => ?_)
    refine lv_aload_n hx hb dX4_minded_26 rfl (lv_at hl 2 rfl) ?_
    refine xr_G (b := b) (q := q) F hW (by omega) (by omega) 0 (by decide) fl_RX4_42 dX4_minded_27 ?_
    by_cases c_11 : TT b q 0 = 1
    ·
      refine lv_tableIn (off := 34) (tgt := 64) hx hb dX4_minded_30 (by rw [c_11]; decide) (by rw [c_11]; decide) (by rw [c_11]; rfl) (by decide) ?_
      refine lv_aload_n hx hb dX4_minded_64 rfl (lv_at hl 2 rfl) ?_
      refine lv_iload_n hx hb dX4_minded_65 rfl (lv_at hl 0 rfl) ?_
      refine gw_callSi (As := [.ref (ad (9 + 8 * b + 1 + 1 + q)), .int 1]) (rest := []) F hl.1 hW (fun _ _ hw => va_Nw.warmM hw hE) XE_E (kX4_mindedByBred (b := b) (q := q) (by omega) (by omega)) pd_yX4_mindedByBred ml_RX4_45 st_yX4_mindedByBred ini_RX4 cd_yX4_mindedByBred ⟨rfl, rfl⟩ ⟨Nat.le_of_ble_eq_true rfl, Nat.le_of_ble_eq_true rfl⟩ rfl rfl (Nat.le_of_ble_eq_true rfl) ⟨Nat.zero_le _, Nat.zero_le _⟩ dX4_minded_66 (fun r u H locs hp hW _ _ => ?_)
      subst hp
      exact hret (bredS (TT b q) 1) _ _ _ _ _ _ hW rfl rfl (by (try simp only [i32_le, Decidable.not_not] at c_2); (try simp only [i32_le, Decidable.not_not] at c_11); first | (simp only [mindS, timS, remS, i32_le, c_2, c_11, if_true, if_false, not_false_eq_true, not_true_eq_false]; done) | simp [mindS, timS, remS, c_2, c_11, i32_le]) dX4_minded_69
    ·
      by_cases c_12 : TT b q 0 = 2
      ·
        refine lv_tableIn (off := 40) (tgt := 70) hx hb dX4_minded_30 (by rw [c_12]; decide) (by rw [c_12]; decide) (by rw [c_12]; rfl) (by decide) ?_
        refine lv_aload_n hx hb dX4_minded_70 rfl (lv_at hl 2 rfl) ?_
        refine lv_iload_n hx hb dX4_minded_71 rfl (lv_at hl 0 rfl) ?_
        refine gw_callSi (As := [.ref (ad (9 + 8 * b + 1 + 1 + q)), .int 1]) (rest := []) F hl.1 hW (fun _ _ hw => va_Nw.warmM hw hE) XE_E (kX4_mindedByHungry (b := b) (q := q) (by omega) (by omega)) pd_yX4_mindedByHungry ml_RX4_49 st_yX4_mindedByHungry ini_RX4 cd_yX4_mindedByHungry ⟨rfl, rfl⟩ ⟨Nat.le_of_ble_eq_true rfl, Nat.le_of_ble_eq_true rfl⟩ rfl rfl (Nat.le_of_ble_eq_true rfl) ⟨Nat.zero_le _, Nat.zero_le _⟩ dX4_minded_72 (fun r u H locs hp hW _ _ => ?_)
        subst hp
        exact hret (hungS (TT b q) 1) _ _ _ _ _ _ hW rfl rfl (by (try simp only [i32_le, Decidable.not_not] at c_2); (try simp only [i32_le, Decidable.not_not] at c_11); (try simp only [i32_le, Decidable.not_not] at c_12); first | (simp only [mindS, timS, remS, i32_le, c_2, c_11, c_12, if_true, if_false, not_false_eq_true, not_true_eq_false]; done) | simp [mindS, timS, remS, c_2, c_11, c_12, i32_le]) dX4_minded_75
      ·
        by_cases c_13 : TT b q 0 = 3
        ·
          refine lv_tableIn (off := 46) (tgt := 76) hx hb dX4_minded_30 (by rw [c_13]; decide) (by rw [c_13]; decide) (by rw [c_13]; rfl) (by decide) ?_
          refine lv_aload_n hx hb dX4_minded_76 rfl (lv_at hl 2 rfl) ?_
          refine lv_iload_n hx hb dX4_minded_77 rfl (lv_at hl 0 rfl) ?_
          refine gw_callSi (As := [.ref (ad (9 + 8 * b + 1 + 1 + q)), .int 1]) (rest := []) F hl.1 hW (fun _ _ hw => va_Nw.warmM hw hE) XE_E (kX4_mindedByBred (b := b) (q := q) (by omega) (by omega)) pd_yX4_mindedByBred ml_RX4_45 st_yX4_mindedByBred ini_RX4 cd_yX4_mindedByBred ⟨rfl, rfl⟩ ⟨Nat.le_of_ble_eq_true rfl, Nat.le_of_ble_eq_true rfl⟩ rfl rfl (Nat.le_of_ble_eq_true rfl) ⟨Nat.zero_le _, Nat.zero_le _⟩ dX4_minded_78 (fun r u H locs hp hW _ _ => ?_)
          subst hp
          refine lv_aload_n hx hb dX4_minded_81 rfl (lv_at hl 1 rfl) ?_
          refine xr_Ti (b := b) F hW (by omega) 2 (by decide) fl_RX4_26 dX4_minded_82 ?_
          refine lv_iconst (v := 2) hx hb dX4_minded_85 (by decide) ?_
          refine lv_irem hx hb dX4_minded_86 (by decide) ?_
          refine lv_if_ne (tgt := 96) hx hb dX4_minded_87 (by decide) (fun c_14 => ?_) (fun c_14 => ?_)
          ·
            refine lv_sipush (v := 682) hx hb dX4_minded_96 (by decide) ?_
            refine lv_iand hx hb dX4_minded_99 ?_
            exact hret ((bredS (TT b q) 1) &&& 682) _ _ _ _ _ _ hW rfl rfl (by (try simp only [i32_le, Decidable.not_not] at c_2); (try simp only [i32_le, Decidable.not_not] at c_11); (try simp only [i32_le, Decidable.not_not] at c_12); (try simp only [i32_le, Decidable.not_not] at c_13); (try simp only [i32_le, Decidable.not_not] at c_14); first | (simp only [mindS, timS, remS, i32_le, c_2, c_11, c_12, c_13, c_14, if_true, if_false, not_false_eq_true, not_true_eq_false]; done) | simp [mindS, timS, remS, c_2, c_11, c_12, c_13, c_14, i32_le]) dX4_minded_100
          ·
            refine lv_sipush (v := 341) hx hb dX4_minded_90 (by decide) ?_
            refine lv_goto (tgt := 99) hx hb dX4_minded_93 (by decide) ?_
            refine lv_iand hx hb dX4_minded_99 ?_
            exact hret ((bredS (TT b q) 1) &&& 341) _ _ _ _ _ _ hW rfl rfl (by (try simp only [i32_le, Decidable.not_not] at c_2); (try simp only [i32_le, Decidable.not_not] at c_11); (try simp only [i32_le, Decidable.not_not] at c_12); (try simp only [i32_le, Decidable.not_not] at c_13); (try simp only [i32_le, Decidable.not_not] at c_14); first | (simp only [mindS, timS, remS, i32_le, c_2, c_11, c_12, c_13, c_14, if_true, if_false, not_false_eq_true, not_true_eq_false]; done) | simp [mindS, timS, remS, c_2, c_11, c_12, c_13, c_14, i32_le]) dX4_minded_100
        ·
          by_cases c_15 : TT b q 0 = 4
          ·
            refine lv_tableIn (off := 71) (tgt := 101) hx hb dX4_minded_30 (by rw [c_15]; decide) (by rw [c_15]; decide) (by rw [c_15]; rfl) (by decide) ?_
            refine lv_aload_n hx hb dX4_minded_101 rfl (lv_at hl 1 rfl) ?_
            refine xr_Ti (b := b) F hW (by omega) 2 (by decide) fl_RX4_26 dX4_minded_102 ?_
            refine lv_aload_n hx hb dX4_minded_105 rfl (lv_at hl 2 rfl) ?_
            refine xr_G (b := b) (q := q) F hW (by omega) (by omega) 1 (by decide) fl_RX4_52 dX4_minded_106 ?_
            refine lv_icmp_ge (tgt := 120) hx hb dX4_minded_109 (by decide) (fun c_16 => ?_) (fun c_16 => ?_)
            ·
              refine lv_iconst (v := 0) hx hb dX4_minded_120 (by decide) ?_
              exact hret 0 _ _ _ _ _ _ hW rfl rfl (by (try simp only [i32_le, Decidable.not_not] at c_2); (try simp only [i32_le, Decidable.not_not] at c_11); (try simp only [i32_le, Decidable.not_not] at c_12); (try simp only [i32_le, Decidable.not_not] at c_13); (try simp only [i32_le, Decidable.not_not] at c_15); (try simp only [i32_le, Decidable.not_not] at c_16); first | (simp only [mindS, timS, remS, i32_le, c_2, c_11, c_12, c_13, c_15, c_16, if_true, if_false, not_false_eq_true, not_true_eq_false]; done) | simp [mindS, timS, remS, c_2, c_11, c_12, c_13, c_15, c_16, i32_le]) dX4_minded_121
            ·
              refine lv_aload_n hx hb dX4_minded_112 rfl (lv_at hl 2 rfl) ?_
              refine lv_iload_n hx hb dX4_minded_113 rfl (lv_at hl 0 rfl) ?_
              refine gw_callSi (As := [.ref (ad (9 + 8 * b + 1 + 1 + q)), .int 1]) (rest := []) F hl.1 hW (fun _ _ hw => va_Nw.warmM hw hE) XE_E (kX4_mindedByHungry (b := b) (q := q) (by omega) (by omega)) pd_yX4_mindedByHungry ml_RX4_49 st_yX4_mindedByHungry ini_RX4 cd_yX4_mindedByHungry ⟨rfl, rfl⟩ ⟨Nat.le_of_ble_eq_true rfl, Nat.le_of_ble_eq_true rfl⟩ rfl rfl (Nat.le_of_ble_eq_true rfl) ⟨Nat.zero_le _, Nat.zero_le _⟩ dX4_minded_114 (fun r u H locs hp hW _ _ => ?_)
              subst hp
              refine lv_goto (tgt := 121) hx hb dX4_minded_117 (by decide) ?_
              exact hret (hungS (TT b q) 1) _ _ _ _ _ _ hW rfl rfl (by (try simp only [i32_le, Decidable.not_not] at c_2); (try simp only [i32_le, Decidable.not_not] at c_11); (try simp only [i32_le, Decidable.not_not] at c_12); (try simp only [i32_le, Decidable.not_not] at c_13); (try simp only [i32_le, Decidable.not_not] at c_15); (try simp only [i32_le, Decidable.not_not] at c_16); first | (simp only [mindS, timS, remS, i32_le, c_2, c_11, c_12, c_13, c_15, c_16, if_true, if_false, not_false_eq_true, not_true_eq_false]; done) | simp [mindS, timS, remS, c_2, c_11, c_12, c_13, c_15, c_16, i32_le]) dX4_minded_121
          ·
            by_cases c_17 : TT b q 0 = 5
            ·
              refine lv_tableIn (off := 92) (tgt := 122) hx hb dX4_minded_30 (by rw [c_17]; decide) (by rw [c_17]; decide) (by rw [c_17]; rfl) (by decide) ?_
              refine lv_sipush (v := 1023) hx hb dX4_minded_122 (by decide) ?_
              exact hret 1023 _ _ _ _ _ _ hW rfl rfl (by (try simp only [i32_le, Decidable.not_not] at c_2); (try simp only [i32_le, Decidable.not_not] at c_11); (try simp only [i32_le, Decidable.not_not] at c_12); (try simp only [i32_le, Decidable.not_not] at c_13); (try simp only [i32_le, Decidable.not_not] at c_15); (try simp only [i32_le, Decidable.not_not] at c_17); first | (simp only [mindS, timS, remS, i32_le, c_2, c_11, c_12, c_13, c_15, c_17, if_true, if_false, not_false_eq_true, not_true_eq_false]; done) | simp [mindS, timS, remS, c_2, c_11, c_12, c_13, c_15, c_17, i32_le]) dX4_minded_125
            ·
              refine lv_tableOut (tgt := 126) hx hb dX4_minded_30 (tb_out5_1 c_11 c_12 c_13 c_15 c_17) (by decide) ?_
              refine lv_iload_n hx hb dX4_minded_126 rfl (lv_at hl 0 rfl) ?_
              refine lv_if_eq (tgt := 136) hx hb dX4_minded_127 (by decide) (fun c_18 => ?_) (fun c_18 => ?_)
              ·
                exact absurd c_18 (by decide)
              ·
                refine lv_sipush (v := 1023) hx hb dX4_minded_130 (by decide) ?_
                refine lv_goto (tgt := 140) hx hb dX4_minded_133 (by decide) ?_
                exact hret 1023 _ _ _ _ _ _ hW rfl rfl (by (try simp only [i32_le, Decidable.not_not] at c_2); (try simp only [i32_le, Decidable.not_not] at c_11); (try simp only [i32_le, Decidable.not_not] at c_12); (try simp only [i32_le, Decidable.not_not] at c_13); (try simp only [i32_le, Decidable.not_not] at c_15); (try simp only [i32_le, Decidable.not_not] at c_17); first | (simp only [mindS, timS, remS, i32_le, c_2, c_11, c_12, c_13, c_15, c_17, if_true, if_false, not_false_eq_true, not_true_eq_false]; done) | simp [mindS, timS, remS, c_2, c_11, c_12, c_13, c_15, c_17, i32_le]) dX4_minded_140
abbrev rm_yX4_eatenBy : Room := { frames := 3, cells := 0, slots := 0, locals := 68 }
set_option maxHeartbeats 800000 in
set_option maxRecDepth 100000 in
theorem kX4_eatenBy {l : Launch} {D : va_G} {cs : Nat → ClassId} {ad : Nat → Nat} {n : Nat} {ρ σ : Nat → Nat → Int32} {TT τ : Nat → Nat → Nat → Int32} {sz : Nat} {b q : Nat} {a : Int32} (hb : b < 3) (hT : okT n (TT b)) (hq : q < seatsN (TT b)) (hX : okX n τ) : XMi l yX4_eatenBy cX4_eatenBy 4 FieldType.int rm_yX4_eatenBy [.ref (ad (9 + 8 * b)), .ref (ad (9 + 8 * b + 1 + 1 + q)), .int a] D cs ad n ρ TT τ σ sz (fun (r : Int32) (u : Nat → Nat → Int32) => r = eatS (xLx n τ) (TT b) q a) (fun u : Nat → Nat → Int32 => xent ad cs n u TT τ σ) := by
  refine gw_stI (Ff := fun u : Nat → Nat → Int32 => xent ad cs n u TT τ σ) (own := RX4) (by decide +kernel) rfl (Nat.le_of_ble_eq_true rfl) ?_
  intro p e s m ar below meth c A Q F hE hsz hW hret ls hl
  obtain ⟨hx, hb, hml, hown, hts⟩ := id F
  have hl : lv_has ls 4 [(0, .ref (ad (9 + 8 * b))), (1, .ref (ad (9 + 8 * b + 1 + 1 + q))), (2, .int a)] := hl
  have hq6 : q < 6 := Nat.lt_of_lt_of_le hq hT.1
  have hG := hT.2.2.2.2 q hq
  have ht : (TT b 6 3).toNatClampNeg < n := hT.2.2.1
  have hs6 := hT.1
  have hsN := hT.2.1
  refine lv_aload_n hx hb dX4_eatenBy_0 rfl (lv_at hl 0 rfl) ?_
  refine xr_Tl (b := b) F hW (by omega) fl_RX4_9 dX4_eatenBy_1 ?_
  refine lv_iconst (v := 1) hx hb dX4_eatenBy_4 (by decide) ?_
  refine lv_aload_n hx hb dX4_eatenBy_5 rfl (lv_at hl 1 rfl) ?_
  refine lv_aload_n hx hb dX4_eatenBy_6 rfl (lv_at hl 0 rfl) ?_
  refine xr_Ti (b := b) F hW (by omega) 2 (by decide) fl_RX4_26 dX4_eatenBy_7 ?_
  refine gw_callVi (As := [.int 1, .ref (ad (9 + 8 * b + 1 + 1 + q)), .int (TT b 6 2)]) (rest := []) F hl.1 hW (fun _ _ hw => va_Nw.warmM hw hE) XE_E (by have := hT.2.2.1; unfold lawN at this; omega) (xe_X _) rfl (kX6_says (b := b) (q := q) (t := (TT b 6 3).toNatClampNeg) (pt := 1) (by omega) (by omega) hT.2.2.1 (by decide) hG.2.2.1 hX) pd_yX6_says ml_RX4_33 im_yX6_says se_yX6_says ini_RX6 cd_yX6_says ⟨rfl, rfl⟩ ⟨Nat.le_of_ble_eq_true rfl, Nat.le_of_ble_eq_true rfl⟩ rfl rfl (Nat.le_of_ble_eq_true rfl) ⟨Nat.zero_le _, Nat.zero_le _⟩ dX4_eatenBy_10 (fun r ρ_1 H locs hp hW _ _ => ?_)
  subst hp
  refine lv_as (z := saysS (xLx n τ) (TT b) 1 q) (says_x hT.2.2.1 (by decide) rfl) ?_
  refine lv_topi (fun v_2 ev_2 => ?_)
  refine lv_istore_n (lv' := [(3, .int v_2), (0, .ref (ad (9 + 8 * b))), (1, .ref (ad (9 + 8 * b + 1 + 1 + q))), (2, .int a)]) hx hb dX4_eatenBy_13 rfl hl (by decide) rfl (fun ls hl => ?_)
  refine lv_aload_n hx hb dX4_eatenBy_14 rfl (lv_at hl 2 rfl) ?_
  refine xr_G (b := b) (q := q) F hW (by omega) (by omega) 0 (by decide) fl_RX4_42 dX4_eatenBy_15 ?_
  by_cases c_3 : TT b q 0 = 1
  ·
    refine lv_tableIn (off := 34) (tgt := 52) hx hb dX4_eatenBy_18 (by rw [c_3]; decide) (by rw [c_3]; decide) (by rw [c_3]; rfl) (by decide) ?_
    refine lv_iload_n hx hb dX4_eatenBy_52 rfl (lv_at hl 0 rfl) ?_
    refine lv_iconst (v := 2) hx hb dX4_eatenBy_53 (by decide) ?_
    refine lv_idiv hx hb dX4_eatenBy_54 (by decide) ?_
    exact hret (v_2 / 2) _ _ _ _ _ _ hW rfl rfl (by subst ev_2; (try simp only [i32_le, Decidable.not_not] at c_3); first | (simp only [eatS, i32_le, c_3, if_true, if_false, not_false_eq_true, not_true_eq_false]; done) | simp [eatS, c_3, i32_le]) dX4_eatenBy_55
  ·
    by_cases c_4 : TT b q 0 = 2
    ·
      refine lv_tableIn (off := 38) (tgt := 56) hx hb dX4_eatenBy_18 (by rw [c_4]; decide) (by rw [c_4]; decide) (by rw [c_4]; rfl) (by decide) ?_
      refine lv_iload_n hx hb dX4_eatenBy_56 rfl (lv_at hl 0 rfl) ?_
      refine lv_iload_n hx hb dX4_eatenBy_57 rfl (lv_at hl 3 rfl) ?_
      refine lv_iadd hx hb dX4_eatenBy_58 ?_
      exact hret (v_2 + a) _ _ _ _ _ _ hW rfl rfl (by subst ev_2; (try simp only [i32_le, Decidable.not_not] at c_3); (try simp only [i32_le, Decidable.not_not] at c_4); first | (simp only [eatS, i32_le, c_3, c_4, if_true, if_false, not_false_eq_true, not_true_eq_false]; done) | simp [eatS, c_3, c_4, i32_le]) dX4_eatenBy_59
    ·
      by_cases c_5 : TT b q 0 = 3
      ·
        refine lv_tableIn (off := 34) (tgt := 52) hx hb dX4_eatenBy_18 (by rw [c_5]; decide) (by rw [c_5]; decide) (by rw [c_5]; rfl) (by decide) ?_
        refine lv_iload_n hx hb dX4_eatenBy_52 rfl (lv_at hl 0 rfl) ?_
        refine lv_iconst (v := 2) hx hb dX4_eatenBy_53 (by decide) ?_
        refine lv_idiv hx hb dX4_eatenBy_54 (by decide) ?_
        exact hret (v_2 / 2) _ _ _ _ _ _ hW rfl rfl (by subst ev_2; (try simp only [i32_le, Decidable.not_not] at c_3); (try simp only [i32_le, Decidable.not_not] at c_4); (try simp only [i32_le, Decidable.not_not] at c_5); first | (simp only [eatS, i32_le, c_3, c_4, c_5, if_true, if_false, not_false_eq_true, not_true_eq_false]; done) | simp [eatS, c_3, c_4, c_5, i32_le]) dX4_eatenBy_55
      ·
        by_cases c_6 : TT b q 0 = 4
        ·
          refine lv_tableIn (off := 38) (tgt := 56) hx hb dX4_eatenBy_18 (by rw [c_6]; decide) (by rw [c_6]; decide) (by rw [c_6]; rfl) (by decide) ?_
          refine lv_iload_n hx hb dX4_eatenBy_56 rfl (lv_at hl 0 rfl) ?_
          refine lv_iload_n hx hb dX4_eatenBy_57 rfl (lv_at hl 3 rfl) ?_
          refine lv_iadd hx hb dX4_eatenBy_58 ?_
          exact hret (v_2 + a) _ _ _ _ _ _ hW rfl rfl (by subst ev_2; (try simp only [i32_le, Decidable.not_not] at c_3); (try simp only [i32_le, Decidable.not_not] at c_4); (try simp only [i32_le, Decidable.not_not] at c_5); (try simp only [i32_le, Decidable.not_not] at c_6); first | (simp only [eatS, i32_le, c_3, c_4, c_5, c_6, if_true, if_false, not_false_eq_true, not_true_eq_false]; done) | simp [eatS, c_3, c_4, c_5, c_6, i32_le]) dX4_eatenBy_59
        ·
          by_cases c_7 : TT b q 0 = 5
          ·
            refine lv_tableIn (off := 42) (tgt := 60) hx hb dX4_eatenBy_18 (by rw [c_7]; decide) (by rw [c_7]; decide) (by rw [c_7]; rfl) (by decide) ?_
            refine lv_iconst (v := 0) hx hb dX4_eatenBy_60 (by decide) ?_
            exact hret 0 _ _ _ _ _ _ hW rfl rfl (by subst ev_2; (try simp only [i32_le, Decidable.not_not] at c_3); (try simp only [i32_le, Decidable.not_not] at c_4); (try simp only [i32_le, Decidable.not_not] at c_5); (try simp only [i32_le, Decidable.not_not] at c_6); (try simp only [i32_le, Decidable.not_not] at c_7); first | (simp only [eatS, i32_le, c_3, c_4, c_5, c_6, c_7, if_true, if_false, not_false_eq_true, not_true_eq_false]; done) | simp [eatS, c_3, c_4, c_5, c_6, c_7, i32_le]) dX4_eatenBy_61
          ·
            refine lv_tableOut (tgt := 62) hx hb dX4_eatenBy_18 (tb_out5_1 c_3 c_4 c_5 c_6 c_7) (by decide) ?_
            refine lv_iload_n hx hb dX4_eatenBy_62 rfl (lv_at hl 0 rfl) ?_
            exact hret v_2 _ _ _ _ _ _ hW rfl rfl (by subst ev_2; (try simp only [i32_le, Decidable.not_not] at c_3); (try simp only [i32_le, Decidable.not_not] at c_4); (try simp only [i32_le, Decidable.not_not] at c_5); (try simp only [i32_le, Decidable.not_not] at c_6); (try simp only [i32_le, Decidable.not_not] at c_7); first | (simp only [eatS, i32_le, c_3, c_4, c_5, c_6, c_7, if_true, if_false, not_false_eq_true, not_true_eq_false]; done) | simp [eatS, c_3, c_4, c_5, c_6, c_7, i32_le]) dX4_eatenBy_63
abbrev rm_yX4_toldBy : Room := { frames := 3, cells := 0, slots := 0, locals := 68 }
set_option maxHeartbeats 800000 in
set_option maxRecDepth 100000 in
theorem kX4_toldBy {l : Launch} {D : va_G} {cs : Nat → ClassId} {ad : Nat → Nat} {n : Nat} {ρ σ : Nat → Nat → Int32} {TT τ : Nat → Nat → Nat → Int32} {sz : Nat} {b q : Nat} (hb : b < 3) (hT : okT n (TT b)) (hq : q < seatsN (TT b)) (hX : okX n τ) : XMi l yX4_toldBy cX4_toldBy 4 FieldType.int rm_yX4_toldBy [.ref (ad (9 + 8 * b)), .int (nI q)] D cs ad n ρ TT τ σ sz (fun (r : Int32) (u : Nat → Nat → Int32) => r = tellS (xLx n τ) (TT b) q) (fun u : Nat → Nat → Int32 => xent ad cs n u TT τ σ) := by
  refine gw_stI (Ff := fun u : Nat → Nat → Int32 => xent ad cs n u TT τ σ) (own := RX4) (by decide +kernel) rfl (Nat.le_of_ble_eq_true rfl) ?_
  intro p e s m ar below meth c A Q F hE hsz hW hret ls hl
  obtain ⟨hx, hb, hml, hown, hts⟩ := id F
  have hl : lv_has ls 4 [(0, .ref (ad (9 + 8 * b))), (1, .int (nI q))] := hl
  have hq6 : q < 6 := Nat.lt_of_lt_of_le hq hT.1
  have hG := hT.2.2.2.2 q hq
  have ht : (TT b 6 3).toNatClampNeg < n := hT.2.2.1
  have hs6 := hT.1
  have hsN := hT.2.1
  have hz0 : ¬ TT b 6 1 = 0 := by rw [hsN]; exact nI_ne0 (by omega) (by omega)
  have hfm : ∀ x, fmS x (TT b 6 1) = modS x (TT b 6 1) := fun x => by rw [hsN]; exact fm_mod x (by omega) (by omega)
  refine lv_aload_n hx hb dX4_toldBy_0 rfl (lv_at hl 0 rfl) ?_
  refine lv_iload_n hx hb dX4_toldBy_1 rfl (lv_at hl 1 rfl) ?_
  refine gw_callVi (As := [.int (nI q)]) (rest := []) F hl.1 hW (fun _ _ hw => va_Nw.warmM hw hE) XE_E (by omega) (xe_T (b := b) (by omega)) rfl (kX4_seatsOne (b := b) (by omega)) pd_yX4_seatsOne ml_RX4_58 im_yX4_seatsOne se_yX4_seatsOne ini_RX4 cd_yX4_seatsOne ⟨rfl, rfl⟩ ⟨Nat.le_of_ble_eq_true rfl, Nat.le_of_ble_eq_true rfl⟩ rfl rfl (Nat.le_of_ble_eq_true rfl) ⟨Nat.zero_le _, Nat.zero_le _⟩ dX4_toldBy_2 (fun r u H locs hp hW _ _ => ?_)
  subst hp
  refine lv_as (z := 1) (seat_1 hT hq) ?_
  refine lv_if_ne (tgt := 10) hx hb dX4_toldBy_5 (by decide) (fun c_1 => ?_) (fun c_1 => ?_)
  ·
    refine lv_aload_n hx hb dX4_toldBy_10 rfl (lv_at hl 0 rfl) ?_
    refine xr_Tg (b := b) F hW (by omega) fl_RX4_17 dX4_toldBy_11 ?_
    refine lv_iload_n hx hb dX4_toldBy_14 rfl (lv_at hl 1 rfl) ?_
    refine xr_Rn (b := b) (q := q) rfl (by omega) F hW (by omega) dX4_toldBy_15 ?_
    refine lv_astore_n (lv' := [(2, .ref (ad (9 + 8 * b + 1 + 1 + q))), (0, .ref (ad (9 + 8 * b))), (1, .int (nI q))]) hx hb dX4_toldBy_16 rfl hl (by decide) rfl (fun ls hl => ?_)
    refine lv_aload_n hx hb dX4_toldBy_17 rfl (lv_at hl 1 rfl) ?_
    refine xr_Tl (b := b) F hW (by omega) fl_RX4_9 dX4_toldBy_18 ?_
    refine lv_iconst (v := 2) hx hb dX4_toldBy_21 (by decide) ?_
    refine lv_aload_n hx hb dX4_toldBy_22 rfl (lv_at hl 0 rfl) ?_
    refine lv_aload_n hx hb dX4_toldBy_23 rfl (lv_at hl 1 rfl) ?_
    refine xr_Ti (b := b) F hW (by omega) 2 (by decide) fl_RX4_26 dX4_toldBy_24 ?_
    refine gw_callVi (As := [.int 2, .ref (ad (9 + 8 * b + 1 + 1 + q)), .int (TT b 6 2)]) (rest := []) F hl.1 hW (fun _ _ hw => va_Nw.warmM hw hE) XE_E (by have := hT.2.2.1; unfold lawN at this; omega) (xe_X _) rfl (kX6_says (b := b) (q := q) (t := (TT b 6 3).toNatClampNeg) (pt := 2) (by omega) (by omega) hT.2.2.1 (by decide) hG.2.2.1 hX) pd_yX6_says ml_RX4_33 im_yX6_says se_yX6_says ini_RX6 cd_yX6_says ⟨rfl, rfl⟩ ⟨Nat.le_of_ble_eq_true rfl, Nat.le_of_ble_eq_true rfl⟩ rfl rfl (Nat.le_of_ble_eq_true rfl) ⟨Nat.zero_le _, Nat.zero_le _⟩ dX4_toldBy_27 (fun r ρ_2 H locs hp hW _ _ => ?_)
    subst hp
    refine lv_as (z := saysS (xLx n τ) (TT b) 2 q) (says_x hT.2.2.1 (by decide) rfl) ?_
    refine lv_topi (fun v_3 ev_3 => ?_)
    refine lv_istore_n (lv' := [(3, .int v_3), (2, .ref (ad (9 + 8 * b + 1 + 1 + q))), (0, .ref (ad (9 + 8 * b))), (1, .int (nI q))]) hx hb dX4_toldBy_30 rfl hl (by decide) rfl (fun ls hl => ?_)
    refine lv_aload_n hx hb dX4_toldBy_31 rfl (lv_at hl 1 rfl) ?_
    refine xr_G (b := b) (q := q) F hW (by omega) (by omega) 0 (by decide) fl_RX4_42 dX4_toldBy_32 ?_
    refine lv_iconst (v := 3) hx hb dX4_toldBy_35 (by decide) ?_
    refine lv_icmp_ne (tgt := 42) hx hb dX4_toldBy_36 (by decide) (fun c_4 => ?_) (fun c_4 => ?_)
    ·
      refine lv_aload_n hx hb dX4_toldBy_42 rfl (lv_at hl 1 rfl) ?_
      refine xr_G (b := b) (q := q) F hW (by omega) (by omega) 0 (by decide) fl_RX4_42 dX4_toldBy_43 ?_
      refine lv_iconst (v := 4) hx hb dX4_toldBy_46 (by decide) ?_
      refine lv_icmp_ne (tgt := 57) hx hb dX4_toldBy_47 (by decide) (fun c_5 => ?_) (fun c_5 => ?_)
      ·
        refine lv_iload_n hx hb dX4_toldBy_57 rfl (lv_at hl 3 rfl) ?_
        refine lv_iload_n hx hb dX4_toldBy_58 rfl (lv_at hl 0 rfl) ?_
        refine lv_iadd hx hb dX4_toldBy_59 ?_
        refine lv_aload_n hx hb dX4_toldBy_60 rfl (lv_at hl 2 rfl) ?_
        refine xr_Ti (b := b) F hW (by omega) 1 (by decide) fl_RX4_22 dX4_toldBy_61 ?_
        refine gw_callP (As := [.int ((nI q) + v_3), .int (TT b 6 1)]) (rest := []) F hl.1 (kJ9_floorMod_7cf53 hz0) pd_yJ9_floorMod_7cf53 ml_RX4_62 st_yJ9_floorMod_7cf53 ini_RJ9 cd_yJ9_floorMod_7cf53 ⟨rfl, rfl⟩ ⟨Nat.le_of_ble_eq_true rfl, Nat.le_of_ble_eq_true rfl⟩ rfl rfl (Nat.le_of_ble_eq_true rfl) ⟨Nat.zero_le _, Nat.zero_le _⟩ dX4_toldBy_64 ?_
        exact hret (fmS ((nI q) + v_3) (TT b 6 1)) _ _ _ _ _ _ hW rfl rfl (by rw [hfm]; subst ev_3; (try simp only [i32_le, Decidable.not_not] at c_4); (try simp only [i32_le, Decidable.not_not] at c_5); first | (simp only [onS, tellS, i32_le, c_4, c_5, if_true, if_false, not_false_eq_true, not_true_eq_false]; done) | simp [onS, tellS, c_4, c_5, i32_le]) dX4_toldBy_67
      ·
        refine lv_iload_n hx hb dX4_toldBy_50 rfl (lv_at hl 0 rfl) ?_
        refine lv_aload_n hx hb dX4_toldBy_51 rfl (lv_at hl 1 rfl) ?_
        refine xr_G (b := b) (q := q) F hW (by omega) (by omega) 1 (by decide) fl_RX4_52 dX4_toldBy_52 ?_
        refine lv_iadd hx hb dX4_toldBy_55 ?_
        refine lv_topi (fun v_6 ev_6 => ?_)
        refine lv_istore_n (lv' := [(3, .int v_6), (2, .ref (ad (9 + 8 * b + 1 + 1 + q))), (0, .ref (ad (9 + 8 * b))), (1, .int (nI q))]) hx hb dX4_toldBy_56 rfl hl (by decide) rfl (fun ls hl => ?_)
        refine lv_iload_n hx hb dX4_toldBy_57 rfl (lv_at hl 3 rfl) ?_
        refine lv_iload_n hx hb dX4_toldBy_58 rfl (lv_at hl 0 rfl) ?_
        refine lv_iadd hx hb dX4_toldBy_59 ?_
        refine lv_aload_n hx hb dX4_toldBy_60 rfl (lv_at hl 2 rfl) ?_
        refine xr_Ti (b := b) F hW (by omega) 1 (by decide) fl_RX4_22 dX4_toldBy_61 ?_
        refine gw_callP (As := [.int ((nI q) + v_6), .int (TT b 6 1)]) (rest := []) F hl.1 (kJ9_floorMod_7cf53 hz0) pd_yJ9_floorMod_7cf53 ml_RX4_62 st_yJ9_floorMod_7cf53 ini_RJ9 cd_yJ9_floorMod_7cf53 ⟨rfl, rfl⟩ ⟨Nat.le_of_ble_eq_true rfl, Nat.le_of_ble_eq_true rfl⟩ rfl rfl (Nat.le_of_ble_eq_true rfl) ⟨Nat.zero_le _, Nat.zero_le _⟩ dX4_toldBy_64 ?_
        exact hret (fmS ((nI q) + v_6) (TT b 6 1)) _ _ _ _ _ _ hW rfl rfl (by rw [hfm]; subst ev_6 ev_3; (try simp only [i32_le, Decidable.not_not] at c_4); (try simp only [i32_le, Decidable.not_not] at c_5); first | (simp only [onS, tellS, i32_le, c_4, c_5, if_true, if_false, not_false_eq_true, not_true_eq_false]; done) | simp [onS, tellS, c_4, c_5, i32_le]) dX4_toldBy_67
    ·
      refine lv_iload_n hx hb dX4_toldBy_39 rfl (lv_at hl 0 rfl) ?_
      refine lv_ineg hx hb dX4_toldBy_40 ?_
      refine lv_istore_n (lv' := [(3, .int (-v_3)), (2, .ref (ad (9 + 8 * b + 1 + 1 + q))), (0, .ref (ad (9 + 8 * b))), (1, .int (nI q))]) hx hb dX4_toldBy_41 rfl hl (by decide) rfl (fun ls hl => ?_)
      refine lv_aload_n hx hb dX4_toldBy_42 rfl (lv_at hl 1 rfl) ?_
      refine xr_G (b := b) (q := q) F hW (by omega) (by omega) 0 (by decide) fl_RX4_42 dX4_toldBy_43 ?_
      refine lv_iconst (v := 4) hx hb dX4_toldBy_46 (by decide) ?_
      refine lv_icmp_ne (tgt := 57) hx hb dX4_toldBy_47 (by decide) (fun c_7 => ?_) (fun c_7 => ?_)
      ·
        refine lv_iload_n hx hb dX4_toldBy_57 rfl (lv_at hl 3 rfl) ?_
        refine lv_iload_n hx hb dX4_toldBy_58 rfl (lv_at hl 0 rfl) ?_
        refine lv_iadd hx hb dX4_toldBy_59 ?_
        refine lv_aload_n hx hb dX4_toldBy_60 rfl (lv_at hl 2 rfl) ?_
        refine xr_Ti (b := b) F hW (by omega) 1 (by decide) fl_RX4_22 dX4_toldBy_61 ?_
        refine gw_callP (As := [.int ((nI q) + (-v_3)), .int (TT b 6 1)]) (rest := []) F hl.1 (kJ9_floorMod_7cf53 hz0) pd_yJ9_floorMod_7cf53 ml_RX4_62 st_yJ9_floorMod_7cf53 ini_RJ9 cd_yJ9_floorMod_7cf53 ⟨rfl, rfl⟩ ⟨Nat.le_of_ble_eq_true rfl, Nat.le_of_ble_eq_true rfl⟩ rfl rfl (Nat.le_of_ble_eq_true rfl) ⟨Nat.zero_le _, Nat.zero_le _⟩ dX4_toldBy_64 ?_
        exact hret (fmS ((nI q) + (-v_3)) (TT b 6 1)) _ _ _ _ _ _ hW rfl rfl (by rw [hfm]; subst ev_3; (try simp only [i32_le, Decidable.not_not] at c_4); (try simp only [i32_le, Decidable.not_not] at c_7); first | (simp only [onS, tellS, i32_le, c_4, c_7, if_true, if_false, not_false_eq_true, not_true_eq_false]; done) | simp [onS, tellS, c_4, c_7, i32_le]) dX4_toldBy_67
      ·
        refine lv_iload_n hx hb dX4_toldBy_50 rfl (lv_at hl 0 rfl) ?_
        refine lv_aload_n hx hb dX4_toldBy_51 rfl (lv_at hl 1 rfl) ?_
        refine xr_G (b := b) (q := q) F hW (by omega) (by omega) 1 (by decide) fl_RX4_52 dX4_toldBy_52 ?_
        refine lv_iadd hx hb dX4_toldBy_55 ?_
        refine lv_topi (fun v_8 ev_8 => ?_)
        refine lv_istore_n (lv' := [(3, .int v_8), (2, .ref (ad (9 + 8 * b + 1 + 1 + q))), (0, .ref (ad (9 + 8 * b))), (1, .int (nI q))]) hx hb dX4_toldBy_56 rfl hl (by decide) rfl (fun ls hl => ?_)
        refine lv_iload_n hx hb dX4_toldBy_57 rfl (lv_at hl 3 rfl) ?_
        refine lv_iload_n hx hb dX4_toldBy_58 rfl (lv_at hl 0 rfl) ?_
        refine lv_iadd hx hb dX4_toldBy_59 ?_
        refine lv_aload_n hx hb dX4_toldBy_60 rfl (lv_at hl 2 rfl) ?_
        refine xr_Ti (b := b) F hW (by omega) 1 (by decide) fl_RX4_22 dX4_toldBy_61 ?_
        refine gw_callP (As := [.int ((nI q) + v_8), .int (TT b 6 1)]) (rest := []) F hl.1 (kJ9_floorMod_7cf53 hz0) pd_yJ9_floorMod_7cf53 ml_RX4_62 st_yJ9_floorMod_7cf53 ini_RJ9 cd_yJ9_floorMod_7cf53 ⟨rfl, rfl⟩ ⟨Nat.le_of_ble_eq_true rfl, Nat.le_of_ble_eq_true rfl⟩ rfl rfl (Nat.le_of_ble_eq_true rfl) ⟨Nat.zero_le _, Nat.zero_le _⟩ dX4_toldBy_64 ?_
        exact hret (fmS ((nI q) + v_8) (TT b 6 1)) _ _ _ _ _ _ hW rfl rfl (absurd ((c_4).symm.trans c_7) (by decide)) dX4_toldBy_67
  ·
    exact absurd c_1 (by decide)
theorem first_hold {m : Int32} {f a : Nat} (h : ¬ holdS m (nI a) = 0) : firstS m (f + 1) a = firstS m f (a + 1) := by
  show (if bitS m (nI a) = 1 then _ else _) = _
  rw [if_pos]
  apply Decidable.byContradiction
  intro z
  exact h (if_neg z)
theorem first_free {m : Int32} {f a : Nat} (h : holdS m (nI a) = 0) : firstS m (f + 1) a = nI a := by
  show (if bitS m (nI a) = 1 then _ else _) = _
  rw [if_neg]
  intro z
  rw [show holdS m (nI a) = 1 from if_pos z] at h
  exact absurd h (by decide)
abbrev rm_yX4_actOf : Room := { frames := 4, cells := 0, slots := 0, locals := 90 }
set_option maxHeartbeats 800000 in
set_option maxRecDepth 100000 in
theorem kX4_actOf {l : Launch} {D : va_G} {cs : Nat → ClassId} {ad : Nat → Nat} {n : Nat} {ρ σ : Nat → Nat → Int32} {TT τ : Nat → Nat → Nat → Int32} {sz : Nat} {b q : Nat} (hb : b < 3) (hT : okT n (TT b)) (hq : q < seatsN (TT b)) (hX : okX n τ) : XMi l yX4_actOf cX4_actOf 4 FieldType.int rm_yX4_actOf [.ref (ad (9 + 8 * b)), .ref (ad (9 + 8 * b + 1 + 1 + q))] D cs ad n ρ TT τ σ sz (fun (r : Int32) (u : Nat → Nat → Int32) => r = actS (xLx n τ) (TT b) q) (fun u : Nat → Nat → Int32 => xent ad cs n u TT τ σ) := by
  refine gw_stI (Ff := fun u : Nat → Nat → Int32 => xent ad cs n u TT τ σ) (own := RX4) (by decide +kernel) rfl (Nat.le_of_ble_eq_true rfl) ?_
  intro p e s m ar below meth c A Q F hE hsz hW hret ls hl
  obtain ⟨hx, hb, hml, hown, hts⟩ := id F
  have hl : lv_has ls 4 [(0, .ref (ad (9 + 8 * b))), (1, .ref (ad (9 + 8 * b + 1 + 1 + q)))] := hl
  have hq6 : q < 6 := Nat.lt_of_lt_of_le hq hT.1
  have hG := hT.2.2.2.2 q hq
  have ht : (TT b 6 3).toNatClampNeg < n := hT.2.2.1
  have hs6 := hT.1
  have hsN := hT.2.1
  refine lv_aload_n hx hb dX4_actOf_0 rfl (lv_at hl 1 rfl) ?_
  refine xr_G (b := b) (q := q) F hW (by omega) (by omega) 6 (by decide) fl_RX4_68 dX4_actOf_1 ?_
  refine lv_if_eq (tgt := 9) hx hb dX4_actOf_4 (by decide) (fun c_1 => ?_) (fun c_1 => ?_)
  ·
    refine lv_aload_n hx hb dX4_actOf_9 rfl (lv_at hl 0 rfl) ?_
    refine lv_aload_n hx hb dX4_actOf_10 rfl (lv_at hl 1 rfl) ?_
    refine gw_callVi (As := [.ref (ad (9 + 8 * b + 1 + 1 + q))]) (rest := []) F hl.1 hW (fun _ _ hw => va_Nw.warmM hw hE) XE_E (by omega) (xe_T (b := b) (by omega)) rfl (kX4_minded (b := b) (q := q) (by omega) hT hq hX) pd_yX4_minded ml_RX4_72 im_yX4_minded se_yX4_minded ini_RX4 cd_yX4_minded ⟨rfl, rfl⟩ ⟨Nat.le_of_ble_eq_true rfl, Nat.le_of_ble_eq_true rfl⟩ rfl rfl (Nat.le_of_ble_eq_true rfl) ⟨Nat.zero_le _, Nat.zero_le _⟩ dX4_actOf_11 (fun r ρ_2 H locs hp hW _ _ => ?_)
    subst hp
    refine lv_topi (fun v_3 ev_3 => ?_)
    refine lv_istore_n (lv' := [(2, .int v_3), (0, .ref (ad (9 + 8 * b))), (1, .ref (ad (9 + 8 * b + 1 + 1 + q)))]) hx hb dX4_actOf_14 rfl hl (by decide) rfl (fun ls hl => ?_)
    refine lv_iconst (v := 0) hx hb dX4_actOf_15 (by decide) ?_
    refine lv_istore_n (lv' := [(3, .int 0), (2, .int v_3), (0, .ref (ad (9 + 8 * b))), (1, .ref (ad (9 + 8 * b + 1 + 1 + q)))]) hx hb dX4_actOf_16 rfl hl (by decide) rfl (fun ls hl => ?_)
    generalize hR0 : firstS v_3 10 0 = RES
    have L17 : ∀ (k : Nat) (a f : Nat), (a + f = 10) → (11 ≤ a + k) → (firstS v_3 f a = RES) → ∀ (H : Heap) (locs : List Loc) (ls : Array Slot), XW D cs ad n ρ_2 TT τ σ A s s.heap H locs → lv_has ls 4 [(3, .int (nI a)), (2, .int v_3), (0, .ref (ad (9 + 8 * b))), (1, .ref (ad (9 + 8 * b + 1 + 1 + q)))] → W p l e rm_yX4_actOf s m ar below meth c H locs 0 0 Q (F0 m 17 ls []) := by
      intro k
      induction k with
      | zero => intro a f h1 h2 hv; exact absurd h2 (by omega)
      | succ k ih17 =>
        intro a f h1 h2 hv H locs ls hW hl
        refine lv_iload_n hx hb dX4_actOf_17 rfl (lv_at hl 0 rfl) ?_
        refine lv_bipush (v := 10) hx hb dX4_actOf_18 (by decide) ?_
        refine lv_icmp_ge (tgt := 39) hx hb dX4_actOf_20 (by decide) (fun c_4 => ?_) (fun c_4 => ?_)
        ·
          obtain rfl : f = 0 := by have := mi_le (a := 10) (b := a) c_4 (by decide) (by omega); omega
          refine lv_iconst (v := (-1)) hx hb dX4_actOf_39 (by decide) ?_
          exact hret (-1) _ _ _ _ _ _ hW rfl rfl (by unfold actS; rw [if_pos c_1]; rw [ev_3] at hR0; rw [hR0]; exact hv) dX4_actOf_40
        ·
          have hlt : a < 10 := mi_nle (a := 10) (b := a) c_4 (by decide) (by omega); obtain ⟨f', rfl⟩ : ∃ x, f = x + 1 := ⟨f - 1, by omega⟩
          refine lv_iload_n hx hb dX4_actOf_23 rfl (lv_at hl 1 rfl) ?_
          refine lv_iload_n hx hb dX4_actOf_24 rfl (lv_at hl 0 rfl) ?_
          refine gw_callN (As := [.int v_3, .int (nI a)]) (rest := []) F hl.1 (kX7_holds) pd_yX7_holds hE st_yX7_holds ini_RX7 cd_yX7_holds ⟨rfl, rfl⟩ ⟨Nat.le_of_ble_eq_true rfl, Nat.le_of_ble_eq_true rfl⟩ rfl rfl (Nat.le_of_ble_eq_true rfl) ⟨Nat.zero_le _, Nat.zero_le _⟩ dX4_actOf_25 ?_
          refine lv_if_ne (tgt := 33) hx hb dX4_actOf_28 (by decide) (fun c_5 => ?_) (fun c_5 => ?_)
          ·
            rw [first_hold c_5] at hv
            refine lv_iinc (v := nI (a + 1)) (lv' := [(3, .int (nI (a + 1))), (2, .int v_3), (0, .ref (ad (9 + 8 * b))), (1, .ref (ad (9 + 8 * b + 1 + 1 + q)))]) hx hb dX4_actOf_33 hl (k := 0) rfl (nI_1 a) (by decide) rfl (fun ls hl => ?_)
            refine lv_goto (tgt := 17) hx hb dX4_actOf_36 (by decide) ?_
            exact ih17 (a + 1) f' (by omega) (by omega) (hv) _ _ _ hW (lv_sub hl [0, 1, 2, 3] rfl)
          ·
            rw [first_free c_5] at hv
            refine lv_iload_n hx hb dX4_actOf_31 rfl (lv_at hl 0 rfl) ?_
            exact hret (nI a) _ _ _ _ _ _ hW rfl rfl (by unfold actS; rw [if_pos c_1]; rw [ev_3] at hR0; rw [hR0]; exact hv) dX4_actOf_32
    exact L17 11 0 10 (rfl) (by omega) (hR0) _ _ _ hW (lv_sub hl [0, 1, 2, 3] rfl)
  ·
    refine lv_iconst (v := 0) hx hb dX4_actOf_7 (by decide) ?_
    exact hret 0 _ _ _ _ _ _ hW rfl rfl (by simp only [actS, c_1, if_false]) dX4_actOf_8
abbrev rm_yX4_isStuck : Room := { frames := 4, cells := 0, slots := 0, locals := 90 }
set_option maxHeartbeats 800000 in
set_option maxRecDepth 100000 in
theorem kX4_isStuck {l : Launch} {D : va_G} {cs : Nat → ClassId} {ad : Nat → Nat} {n : Nat} {ρ σ : Nat → Nat → Int32} {TT τ : Nat → Nat → Nat → Int32} {sz : Nat} {b q : Nat} (hb : b < 3) (hT : okT n (TT b)) (hq : q < seatsN (TT b)) (hX : okX n τ) : XMi l yX4_isStuck cX4_isStuck 2 FieldType.boolean rm_yX4_isStuck [.ref (ad (9 + 8 * b)), .ref (ad (9 + 8 * b + 1 + 1 + q))] D cs ad n ρ TT τ σ sz (fun (r : Int32) (u : Nat → Nat → Int32) => r = stuckS (xLx n τ) (TT b) q) (fun u : Nat → Nat → Int32 => xent ad cs n u TT τ σ) := by
  refine gw_stI (Ff := fun u : Nat → Nat → Int32 => xent ad cs n u TT τ σ) (own := RX4) (by decide +kernel) rfl (Nat.le_of_ble_eq_true rfl) ?_
  intro p e s m ar below meth c A Q F hE hsz hW hret ls hl
  obtain ⟨hx, hb, hml, hown, hts⟩ := id F
  have hl : lv_has ls 2 [(0, .ref (ad (9 + 8 * b))), (1, .ref (ad (9 + 8 * b + 1 + 1 + q)))] := hl
  have hq6 : q < 6 := Nat.lt_of_lt_of_le hq hT.1
  have hG := hT.2.2.2.2 q hq
  have ht : (TT b 6 3).toNatClampNeg < n := hT.2.2.1
  have hs6 := hT.1
  have hsN := hT.2.1
  refine lv_aload_n hx hb dX4_isStuck_0 rfl (lv_at hl 1 rfl) ?_
  refine xr_G (b := b) (q := q) F hW (by omega) (by omega) 6 (by decide) fl_RX4_68 dX4_isStuck_1 ?_
  refine lv_if_ne (tgt := 22) hx hb dX4_isStuck_4 (by decide) (fun c_1 => ?_) (fun c_1 => ?_)
  ·
    refine lv_iconst (v := 0) hx hb dX4_isStuck_22 (by decide) ?_
    exact hret 0 _ _ _ _ _ _ hW rfl rfl (by (try simp only [i32_le, Decidable.not_not] at c_1); first | (simp only [stuckS, i32_le, c_1, if_true, if_false, not_false_eq_true, not_true_eq_false]; done) | simp [stuckS, c_1, i32_le]) dX4_isStuck_23
  ·
    refine lv_aload_n hx hb dX4_isStuck_7 rfl (lv_at hl 0 rfl) ?_
    refine lv_aload_n hx hb dX4_isStuck_8 rfl (lv_at hl 1 rfl) ?_
    refine gw_callVi (As := [.ref (ad (9 + 8 * b + 1 + 1 + q))]) (rest := []) F hl.1 hW (fun _ _ hw => va_Nw.warmM hw hE) XE_E (by omega) (xe_T (b := b) (by omega)) rfl (kX4_minded (b := b) (q := q) (by omega) hT hq hX) pd_yX4_minded ml_RX4_72 im_yX4_minded se_yX4_minded ini_RX4 cd_yX4_minded ⟨rfl, rfl⟩ ⟨Nat.le_of_ble_eq_true rfl, Nat.le_of_ble_eq_true rfl⟩ rfl rfl (Nat.le_of_ble_eq_true rfl) ⟨Nat.zero_le _, Nat.zero_le _⟩ dX4_isStuck_9 (fun r ρ_2 H locs hp hW _ _ => ?_)
    subst hp
    refine lv_sipush (v := 1023) hx hb dX4_isStuck_12 (by decide) ?_
    refine lv_icmp_ne (tgt := 22) hx hb dX4_isStuck_15 (by decide) (fun c_3 => ?_) (fun c_3 => ?_)
    ·
      refine lv_iconst (v := 0) hx hb dX4_isStuck_22 (by decide) ?_
      exact hret 0 _ _ _ _ _ _ hW rfl rfl (by (try simp only [i32_le, Decidable.not_not] at c_1); (try simp only [i32_le, Decidable.not_not] at c_3); first | (simp only [stuckS, i32_le, c_1, c_3, if_true, if_false, not_false_eq_true, not_true_eq_false]; done) | simp [stuckS, c_1, c_3, i32_le]) dX4_isStuck_23
    ·
      refine lv_iconst (v := 1) hx hb dX4_isStuck_18 (by decide) ?_
      refine lv_goto (tgt := 23) hx hb dX4_isStuck_19 (by decide) ?_
      exact hret 1 _ _ _ _ _ _ hW rfl rfl (by (try simp only [i32_le, Decidable.not_not] at c_1); (try simp only [i32_le, Decidable.not_not] at c_3); first | (simp only [stuckS, i32_le, c_1, c_3, if_true, if_false, not_false_eq_true, not_true_eq_false]; done) | simp [stuckS, c_1, c_3, i32_le]) dX4_isStuck_23
