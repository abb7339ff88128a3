/-! ===== the reference: numbers ===== -/
def inP (v a b : Int32) : Int32 := if v < a then 0 else if b < v then 0 else 1
theorem in_z {v a b : Int32} : (inP v a b = 0) = (v < a ∨ b < v) := by
  unfold inP
  by_cases h1 : v < a
  · simp [h1]
  · by_cases h2 : b < v <;> simp [h1, h2]
theorem in_y {v a b : Int32} (h : ¬ inP v a b = 0) : ¬ v < a ∧ ¬ b < v := by rw [in_z] at h; exact not_or.mp h
theorem in_ite {α : Type} {v a b : Int32} {x y : α} : (if v < a then x else if b < v then x else y) = if inP v a b = 0 then x else y := by
  unfold inP
  by_cases h1 : v < a
  · simp [h1]
  · by_cases h2 : b < v <;> simp [h1, h2]
theorem in_n (v a b : Int32) : narrow .boolean (.int (inP v a b)) = .int (inP v a b) := by
  unfold inP
  split
  · rfl
  · split <;> rfl
theorem one_in {n : Nat} {T : Tb} (hT : okT n T) (p : Int32) : inP p 0 (T 6 1 - 1) = oneP T p := by
  have h6 := hT.1
  unfold inP oneP
  by_cases h0 : p < 0
  · rw [if_pos h0, if_pos h0]
  · rw [if_neg h0, if_neg h0]
    obtain ⟨j, hj, rfl⟩ := nI_of h0
    rw [hT.2.1]
    rcases Nat.eq_zero_or_pos (seatsN T) with e | e
    · rw [e, if_pos (Int32.lt_of_lt_of_le (show nI 0 - 1 < 0 by decide) (Int32.not_lt.mp h0)), if_pos (show nI 0 ≤ nI j from Int32.not_lt.mp h0)]
    · obtain ⟨w, hw⟩ : ∃ w, seatsN T = w + 1 := ⟨seatsN T - 1, by omega⟩
      rw [hw, nI_pred]
      by_cases hl : w < j
      · rw [if_pos ((nI_ltI (by omega) hj).mpr hl), if_pos ((nI_leI (by omega) hj).mpr hl)]
      · rw [if_neg (fun q => hl ((nI_ltI (by omega) hj).mp q)), if_neg (fun q => hl ((nI_leI (by omega) hj).mp q))]
theorem within_clamp {lo v : Int32} : (if v < lo then lo else if 99 < v then 99 else v) = clampS lo v := rfl
def twoS (s a b : Int32) : Int32 := if s = 11 then (if a ≠ 0 ∨ b ≠ 0 then 1 else 0) else if s = 12 then (if a ≠ 0 ∧ b ≠ 0 then 1 else 0) else if s = 14 then (if a < b then 1 else 0) else if s = 15 then (if a = b then 1 else 0) else if s = 16 then a + b else if s = 17 then a - b else a * b
/-- a code's number at the reference -/
def encM (c : Int32) : Int32 := if 0 ≤ c then 100000 + c else if -6 ≤ c then -c - 1 else if c = -7 then 11 else if c = -8 then 12 else if c = -9 then 13 else if c = -13 then 14 else if c = -14 then 15 else if c = -15 then 16 else if c = -16 then 17 else if c = -17 then 18 else 19
/-- a code that stands in a text -/
def okC (c : Int32) : Prop := (∃ j, j < 10000 ∧ c = nI j) ∨ (∃ j, j < 6 ∧ c = -(nI (j + 1))) ∨ c = -7 ∨ c = -8 ∨ c = -9 ∨ c = -13 ∨ c = -14 ∨ c = -15 ∨ c = -16 ∨ c = -17 ∨ c = -18
abbrev rm_yX8_isByte : Room := { frames := 1, cells := 0, slots := 0, locals := 22 }
set_option maxHeartbeats 800000 in
set_option maxRecDepth 100000 in
theorem kX8_isByte {l : Launch} {v : Int32}  : PM l yX8_isByte cX8_isByte 1 FieldType.boolean rm_yX8_isByte [.int v] (byteP v) := by
  refine gw_stS (own := RX8) (by decide +kernel) rfl (Nat.le_of_ble_eq_true rfl) ?_
  intro p e s m ar below meth c Q F hret ls hl
  obtain ⟨hx, hb, hml, hown, hts⟩ := id F
  have hl : lv_has ls 1 [(0, .int v)] := hl
  refine lv_iload_n hx hb dX8_isByte_0 rfl (lv_at hl 0 rfl) ?_
  refine lv_iconst (v := 0) hx hb dX8_isByte_1 (by decide) ?_
  refine lv_sipush (v := 255) hx hb dX8_isByte_2 (by decide) ?_
  refine gw_callP (As := [.int v, .int 0, .int 255]) (rest := []) F hl.1 (kX8_in) pd_yX8_in ml_RX8_72 st_yX8_in ini_RX8 cd_yX8_in ⟨rfl, rfl⟩ ⟨Nat.le_of_ble_eq_true rfl, Nat.le_of_ble_eq_true rfl⟩ rfl rfl (Nat.le_of_ble_eq_true rfl) ⟨Nat.zero_le _, Nat.zero_le _⟩ dX8_isByte_5 ?_
  refine lv_as (z := inP v 0 255) rfl ?_
  exact hret (inP v 0 255) _ _ (in_n _ _ _) (rfl) dX8_isByte_8
abbrev rm_yX8_onesOf : Room := { frames := 0, cells := 0, slots := 0, locals := 0 }
set_option maxHeartbeats 800000 in
set_option maxRecDepth 100000 in
theorem kX8_onesOf {l : Launch} {x : Int32}  : PM l yX8_onesOf cX8_onesOf 3 FieldType.int rm_yX8_onesOf [.int x] (onesS x) := by
  refine gw_stS (own := RX8) (by decide +kernel) rfl (Nat.le_of_ble_eq_true rfl) ?_
  intro p e s m ar below meth c Q F hret ls hl
  obtain ⟨hx, hb, hml, hown, hts⟩ := id F
  have hl : lv_has ls 3 [(0, .int x)] := hl
  refine lv_iconst (v := 0) hx hb dX8_onesOf_0 (by decide) ?_
  refine lv_istore_n (lv' := [(1, .int 0), (0, .int x)]) hx hb dX8_onesOf_1 rfl hl (by decide) rfl (fun ls hl => ?_)
  refine lv_iconst (v := 0) hx hb dX8_onesOf_2 (by decide) ?_
  refine lv_istore_n (lv' := [(2, .int 0), (1, .int 0), (0, .int x)]) hx hb dX8_onesOf_3 rfl hl (by decide) rfl (fun ls hl => ?_)
  have L4 : ∀ (k : Nat) (i : Nat) (a : Int32), (i ≤ 10) → (11 ≤ i + k) → (a = onesK x i) → ∀ (ls : Array Slot), lv_has ls 3 [(2, .int (nI i)), (1, .int a), (0, .int x)] → W p l e rm_yX8_onesOf s m ar below meth c s.heap [] 0 0 Q (F0 m 4 ls []) := by
    intro k
    induction k with
    | zero => intro i a h1 h2 hxx; exact absurd h2 (by omega)
    | succ k ih4 =>
      intro i a h1 h2 hxx ls hl
      refine lv_iload_n hx hb dX8_onesOf_4 rfl (lv_at hl 0 rfl) ?_
      refine lv_bipush (v := 10) hx hb dX8_onesOf_5 (by decide) ?_
      refine lv_icmp_ge (tgt := 24) hx hb dX8_onesOf_7 (by decide) (fun c_1 => ?_) (fun c_1 => ?_)
      ·
        obtain rfl : i = 10 := by have := mi_le (a := 10) (b := i) c_1 (by decide) (by omega); omega
        refine lv_iload_n hx hb dX8_onesOf_24 rfl (lv_at hl 1 rfl) ?_
        exact hret a _ _ rfl (hxx) dX8_onesOf_25
      ·
        have hlt : i < 10 := mi_nle (a := 10) (b := i) c_1 (by decide) (by omega)
        refine lv_iload_n hx hb dX8_onesOf_10 rfl (lv_at hl 1 rfl) ?_
        refine lv_iload_n hx hb dX8_onesOf_11 rfl (lv_at hl 2 rfl) ?_
        refine lv_iload_n hx hb dX8_onesOf_12 rfl (lv_at hl 0 rfl) ?_
        refine lv_ishr hx hb dX8_onesOf_13 ?_
        refine lv_iconst (v := 1) hx hb dX8_onesOf_14 (by decide) ?_
        refine lv_iand hx hb dX8_onesOf_15 ?_
        refine lv_iadd hx hb dX8_onesOf_16 ?_
        refine lv_topi (fun v_2 ev_2 => ?_)
        refine lv_istore_n (lv' := [(1, .int v_2), (2, .int (nI i)), (0, .int x)]) hx hb dX8_onesOf_17 rfl hl (by decide) rfl (fun ls hl => ?_)
        refine lv_iinc (v := nI (i + 1)) (lv' := [(2, .int (nI (i + 1))), (1, .int v_2), (0, .int x)]) hx hb dX8_onesOf_18 hl (k := 1) rfl (nI_1 i) (by decide) rfl (fun ls hl => ?_)
        refine lv_goto (tgt := 4) hx hb dX8_onesOf_21 (by decide) ?_
        exact ih4 (i + 1) _ (by omega) (by omega) (by subst ev_2; rw [hxx]; rfl) _ (lv_sub hl [0, 1, 2] rfl)
  exact L4 11 0 0 (by omega) (by omega) (rfl) _ (lv_sub hl [0, 1, 2] rfl)
abbrev rm_yX8_two : Room := { frames := 0, cells := 0, slots := 0, locals := 0 }
set_option maxHeartbeats 800000 in
set_option maxRecDepth 100000 in
theorem kX8_two {l : Launch} {c0 a0 b0 : Int32}  : PM l yX8_two cX8_two 3 FieldType.int rm_yX8_two [.int c0, .int a0, .int b0] (twoS c0 a0 b0) := by
  refine gw_stS (own := RX8) (by decide +kernel) rfl (Nat.le_of_ble_eq_true rfl) ?_
  intro p e s m ar below meth c Q F hret ls hl
  obtain ⟨hx, hb, hml, hown, hts⟩ := id F
  have hl : lv_has ls 3 [(0, .int c0), (1, .int a0), (2, .int b0)] := hl
  refine lv_iload_n hx hb dX8_two_0 rfl (lv_at hl 0 rfl) ?_
  by_cases c_1 : c0 = 11
  ·
    refine lv_tableIn (off := 43) (tgt := 44) hx hb dX8_two_1 (by rw [c_1]; decide) (by rw [c_1]; decide) (by rw [c_1]; rfl) (by decide) ?_
    refine lv_iload_n hx hb dX8_two_44 rfl (lv_at hl 1 rfl) ?_
    refine lv_if_ne (tgt := 52) hx hb dX8_two_45 (by decide) (fun c_2 => ?_) (fun c_2 => ?_)
    ·
      refine lv_iconst (v := 1) hx hb dX8_two_52 (by decide) ?_
      refine lv_goto (tgt := 57) hx hb dX8_two_53 (by decide) ?_
      exact hret 1 _ _ rfl (by (try simp only [i32_le, Decidable.not_not] at c_1); (try simp only [i32_le, Decidable.not_not] at c_2); first | (simp only [twoS, i32_le, c_1, c_2, if_true, if_false, not_false_eq_true, not_true_eq_false]; done) | simp [twoS, c_1, c_2, i32_le]) dX8_two_57
    ·
      refine lv_iload_n hx hb dX8_two_48 rfl (lv_at hl 2 rfl) ?_
      refine lv_if_eq (tgt := 56) hx hb dX8_two_49 (by decide) (fun c_3 => ?_) (fun c_3 => ?_)
      ·
        refine lv_iconst (v := 0) hx hb dX8_two_56 (by decide) ?_
        exact hret 0 _ _ rfl (by (try simp only [i32_le, Decidable.not_not] at c_1); (try simp only [i32_le, Decidable.not_not] at c_2); (try simp only [i32_le, Decidable.not_not] at c_3); first | (simp only [twoS, i32_le, c_1, c_2, c_3, if_true, if_false, not_false_eq_true, not_true_eq_false]; done) | simp [twoS, c_1, c_2, c_3, i32_le]) dX8_two_57
      ·
        refine lv_iconst (v := 1) hx hb dX8_two_52 (by decide) ?_
        refine lv_goto (tgt := 57) hx hb dX8_two_53 (by decide) ?_
        exact hret 1 _ _ rfl (by (try simp only [i32_le, Decidable.not_not] at c_1); (try simp only [i32_le, Decidable.not_not] at c_2); (try simp only [i32_le, Decidable.not_not] at c_3); first | (simp only [twoS, i32_le, c_1, c_2, c_3, if_true, if_false, not_false_eq_true, not_true_eq_false]; done) | simp [twoS, c_1, c_2, c_3, i32_le]) dX8_two_57
  ·
    by_cases c_4 : c0 = 12
    ·
      refine lv_tableIn (off := 57) (tgt := 58) hx hb dX8_two_1 (by rw [c_4]; decide) (by rw [c_4]; decide) (by rw [c_4]; rfl) (by decide) ?_
      refine lv_iload_n hx hb dX8_two_58 rfl (lv_at hl 1 rfl) ?_
      refine lv_if_eq (tgt := 70) hx hb dX8_two_59 (by decide) (fun c_5 => ?_) (fun c_5 => ?_)
      ·
        refine lv_iconst (v := 0) hx hb dX8_two_70 (by decide) ?_
        exact hret 0 _ _ rfl (by (try simp only [i32_le, Decidable.not_not] at c_1); (try simp only [i32_le, Decidable.not_not] at c_4); (try simp only [i32_le, Decidable.not_not] at c_5); first | (simp only [twoS, i32_le, c_1, c_4, c_5, if_true, if_false, not_false_eq_true, not_true_eq_false]; done) | simp [twoS, c_1, c_4, c_5, i32_le]) dX8_two_71
      ·
        refine lv_iload_n hx hb dX8_two_62 rfl (lv_at hl 2 rfl) ?_
        refine lv_if_eq (tgt := 70) hx hb dX8_two_63 (by decide) (fun c_6 => ?_) (fun c_6 => ?_)
        ·
          refine lv_iconst (v := 0) hx hb dX8_two_70 (by decide) ?_
          exact hret 0 _ _ rfl (by (try simp only [i32_le, Decidable.not_not] at c_1); (try simp only [i32_le, Decidable.not_not] at c_4); (try simp only [i32_le, Decidable.not_not] at c_5); (try simp only [i32_le, Decidable.not_not] at c_6); first | (simp only [twoS, i32_le, c_1, c_4, c_5, c_6, if_true, if_false, not_false_eq_true, not_true_eq_false]; done) | simp [twoS, c_1, c_4, c_5, c_6, i32_le]) dX8_two_71
        ·
          refine lv_iconst (v := 1) hx hb dX8_two_66 (by decide) ?_
          refine lv_goto (tgt := 71) hx hb dX8_two_67 (by decide) ?_
          exact hret 1 _ _ rfl (by (try simp only [i32_le, Decidable.not_not] at c_1); (try simp only [i32_le, Decidable.not_not] at c_4); (try simp only [i32_le, Decidable.not_not] at c_5); (try simp only [i32_le, Decidable.not_not] at c_6); first | (simp only [twoS, i32_le, c_1, c_4, c_5, c_6, if_true, if_false, not_false_eq_true, not_true_eq_false]; done) | simp [twoS, c_1, c_4, c_5, c_6, i32_le]) dX8_two_71
    ·
      by_cases c_7 : c0 = 13
      ·
        refine lv_tableIn (off := 101) (tgt := 102) hx hb dX8_two_1 (by rw [c_7]; decide) (by rw [c_7]; decide) (by rw [c_7]; rfl) (by decide) ?_
        refine lv_iload_n hx hb dX8_two_102 rfl (lv_at hl 1 rfl) ?_
        refine lv_iload_n hx hb dX8_two_103 rfl (lv_at hl 2 rfl) ?_
        refine lv_imul hx hb dX8_two_104 ?_
        exact hret (a0 * b0) _ _ rfl (by (try simp only [i32_le, Decidable.not_not] at c_1); (try simp only [i32_le, Decidable.not_not] at c_4); (try simp only [i32_le, Decidable.not_not] at c_7); first | (simp only [twoS, i32_le, c_1, c_4, c_7, if_true, if_false, not_false_eq_true, not_true_eq_false]; done) | simp [twoS, c_1, c_4, c_7, i32_le]) dX8_two_105
      ·
        by_cases c_8 : c0 = 14
        ·
          refine lv_tableIn (off := 71) (tgt := 72) hx hb dX8_two_1 (by rw [c_8]; decide) (by rw [c_8]; decide) (by rw [c_8]; rfl) (by decide) ?_
          refine lv_iload_n hx hb dX8_two_72 rfl (lv_at hl 1 rfl) ?_
          refine lv_iload_n hx hb dX8_two_73 rfl (lv_at hl 2 rfl) ?_
          refine lv_icmp_ge (tgt := 81) hx hb dX8_two_74 (by decide) (fun c_9 => ?_) (fun c_9 => ?_)
          ·
            refine lv_iconst (v := 0) hx hb dX8_two_81 (by decide) ?_
            exact hret 0 _ _ rfl (by (try simp only [i32_le, Decidable.not_not] at c_1); (try simp only [i32_le, Decidable.not_not] at c_4); (try simp only [i32_le, Decidable.not_not] at c_7); (try simp only [i32_le, Decidable.not_not] at c_8); (try simp only [i32_le, Decidable.not_not] at c_9); first | (simp only [twoS, i32_le, c_1, c_4, c_7, c_8, c_9, if_true, if_false, not_false_eq_true, not_true_eq_false]; done) | simp [twoS, c_1, c_4, c_7, c_8, c_9, i32_le]) dX8_two_82
          ·
            refine lv_iconst (v := 1) hx hb dX8_two_77 (by decide) ?_
            refine lv_goto (tgt := 82) hx hb dX8_two_78 (by decide) ?_
            exact hret 1 _ _ rfl (by (try simp only [i32_le, Decidable.not_not] at c_1); (try simp only [i32_le, Decidable.not_not] at c_4); (try simp only [i32_le, Decidable.not_not] at c_7); (try simp only [i32_le, Decidable.not_not] at c_8); (try simp only [i32_le, Decidable.not_not] at c_9); first | (simp only [twoS, i32_le, c_1, c_4, c_7, c_8, c_9, if_true, if_false, not_false_eq_true, not_true_eq_false]; done) | simp [twoS, c_1, c_4, c_7, c_8, c_9, i32_le]) dX8_two_82
        ·
          by_cases c_10 : c0 = 15
          ·
            refine lv_tableIn (off := 82) (tgt := 83) hx hb dX8_two_1 (by rw [c_10]; decide) (by rw [c_10]; decide) (by rw [c_10]; rfl) (by decide) ?_
            refine lv_iload_n hx hb dX8_two_83 rfl (lv_at hl 1 rfl) ?_
            refine lv_iload_n hx hb dX8_two_84 rfl (lv_at hl 2 rfl) ?_
            refine lv_icmp_ne (tgt := 92) hx hb dX8_two_85 (by decide) (fun c_11 => ?_) (fun c_11 => ?_)
            ·
              refine lv_iconst (v := 0) hx hb dX8_two_92 (by decide) ?_
              exact hret 0 _ _ rfl (by (try simp only [i32_le, Decidable.not_not] at c_1); (try simp only [i32_le, Decidable.not_not] at c_4); (try simp only [i32_le, Decidable.not_not] at c_7); (try simp only [i32_le, Decidable.not_not] at c_8); (try simp only [i32_le, Decidable.not_not] at c_10); (try simp only [i32_le, Decidable.not_not] at c_11); first | (simp only [twoS, i32_le, c_1, c_4, c_7, c_8, c_10, c_11, if_true, if_false, not_false_eq_true, not_true_eq_false]; done) | simp [twoS, c_1, c_4, c_7, c_8, c_10, c_11, i32_le]) dX8_two_93
            ·
              refine lv_iconst (v := 1) hx hb dX8_two_88 (by decide) ?_
              refine lv_goto (tgt := 93) hx hb dX8_two_89 (by decide) ?_
              exact hret 1 _ _ rfl (by (try simp only [i32_le, Decidable.not_not] at c_1); (try simp only [i32_le, Decidable.not_not] at c_4); (try simp only [i32_le, Decidable.not_not] at c_7); (try simp only [i32_le, Decidable.not_not] at c_8); (try simp only [i32_le, Decidable.not_not] at c_10); (try simp only [i32_le, Decidable.not_not] at c_11); first | (simp only [twoS, i32_le, c_1, c_4, c_7, c_8, c_10, c_11, if_true, if_false, not_false_eq_true, not_true_eq_false]; done) | simp [twoS, c_1, c_4, c_7, c_8, c_10, c_11, i32_le]) dX8_two_93
          ·
            by_cases c_12 : c0 = 16
            ·
              refine lv_tableIn (off := 93) (tgt := 94) hx hb dX8_two_1 (by rw [c_12]; decide) (by rw [c_12]; decide) (by rw [c_12]; rfl) (by decide) ?_
              refine lv_iload_n hx hb dX8_two_94 rfl (lv_at hl 1 rfl) ?_
              refine lv_iload_n hx hb dX8_two_95 rfl (lv_at hl 2 rfl) ?_
              refine lv_iadd hx hb dX8_two_96 ?_
              exact hret (a0 + b0) _ _ rfl (by (try simp only [i32_le, Decidable.not_not] at c_1); (try simp only [i32_le, Decidable.not_not] at c_4); (try simp only [i32_le, Decidable.not_not] at c_7); (try simp only [i32_le, Decidable.not_not] at c_8); (try simp only [i32_le, Decidable.not_not] at c_10); (try simp only [i32_le, Decidable.not_not] at c_12); first | (simp only [twoS, i32_le, c_1, c_4, c_7, c_8, c_10, c_12, if_true, if_false, not_false_eq_true, not_true_eq_false]; done) | simp [twoS, c_1, c_4, c_7, c_8, c_10, c_12, i32_le]) dX8_two_97
            ·
              by_cases c_13 : c0 = 17
              ·
                refine lv_tableIn (off := 97) (tgt := 98) hx hb dX8_two_1 (by rw [c_13]; decide) (by rw [c_13]; decide) (by rw [c_13]; rfl) (by decide) ?_
                refine lv_iload_n hx hb dX8_two_98 rfl (lv_at hl 1 rfl) ?_
                refine lv_iload_n hx hb dX8_two_99 rfl (lv_at hl 2 rfl) ?_
                refine lv_isub hx hb dX8_two_100 ?_
                exact hret (a0 - b0) _ _ rfl (by (try simp only [i32_le, Decidable.not_not] at c_1); (try simp only [i32_le, Decidable.not_not] at c_4); (try simp only [i32_le, Decidable.not_not] at c_7); (try simp only [i32_le, Decidable.not_not] at c_8); (try simp only [i32_le, Decidable.not_not] at c_10); (try simp only [i32_le, Decidable.not_not] at c_12); (try simp only [i32_le, Decidable.not_not] at c_13); first | (simp only [twoS, i32_le, c_1, c_4, c_7, c_8, c_10, c_12, c_13, if_true, if_false, not_false_eq_true, not_true_eq_false]; done) | simp [twoS, c_1, c_4, c_7, c_8, c_10, c_12, c_13, i32_le]) dX8_two_101
              ·
                refine lv_tableOut (tgt := 102) hx hb dX8_two_1 (tb_out7_11 c_1 c_4 c_7 c_8 c_10 c_12 c_13) (by decide) ?_
                refine lv_iload_n hx hb dX8_two_102 rfl (lv_at hl 1 rfl) ?_
                refine lv_iload_n hx hb dX8_two_103 rfl (lv_at hl 2 rfl) ?_
                refine lv_imul hx hb dX8_two_104 ?_
                exact hret (a0 * b0) _ _ rfl (by (try simp only [i32_le, Decidable.not_not] at c_1); (try simp only [i32_le, Decidable.not_not] at c_4); (try simp only [i32_le, Decidable.not_not] at c_7); (try simp only [i32_le, Decidable.not_not] at c_8); (try simp only [i32_le, Decidable.not_not] at c_10); (try simp only [i32_le, Decidable.not_not] at c_12); (try simp only [i32_le, Decidable.not_not] at c_13); first | (simp only [twoS, i32_le, c_1, c_4, c_7, c_8, c_10, c_12, c_13, if_true, if_false, not_false_eq_true, not_true_eq_false]; done) | simp [twoS, c_1, c_4, c_7, c_8, c_10, c_12, c_13, i32_le]) dX8_two_105
abbrev rm_yX8_isOne : Room := { frames := 1, cells := 0, slots := 0, locals := 22 }
set_option maxHeartbeats 800000 in
set_option maxRecDepth 100000 in
theorem kX8_isOne {l : Launch} {D : va_G} {cA : ClassId} {ad : Nat → Nat} {ρ T σ : Nat → Nat → Int32} {sz : Nat} {n : Nat} {pp : Int32} (hT : okT n T) : MMi l yX8_isOne cX8_isOne 2 FieldType.boolean rm_yX8_isOne [.ref (ad 0), .int pp] D cA ad ρ T σ sz (fun (r : Int32) (u : Unit) => r = oneP T pp) (fun u : Unit => ment ad cA ρ T σ) := by
  refine gw_stI (Ff := fun u : Unit => ment ad cA ρ T σ) (own := RX8) (by decide +kernel) rfl (Nat.le_of_ble_eq_true rfl) ?_
  intro p e s m ar below meth c A Q F hE hsz hW hret ls hl
  obtain ⟨hx, hb, hml, hown, hts⟩ := id F
  have hl : lv_has ls 2 [(0, .ref (ad 0)), (1, .int pp)] := hl
  refine lv_iload_n hx hb dX8_isOne_0 rfl (lv_at hl 1 rfl) ?_
  refine lv_iconst (v := 0) hx hb dX8_isOne_1 (by decide) ?_
  refine lv_aload_n hx hb dX8_isOne_2 rfl (lv_at hl 0 rfl) ?_
  refine mr_f F hW 0 (by decide) rfl fl_RX8_69 dX8_isOne_3 ?_
  refine lv_iconst (v := 1) hx hb dX8_isOne_6 (by decide) ?_
  refine lv_isub hx hb dX8_isOne_7 ?_
  refine gw_callP (As := [.int pp, .int 0, .int ((T 6 1) - 1)]) (rest := []) F hl.1 (kX8_in) pd_yX8_in ml_RX8_72 st_yX8_in ini_RX8 cd_yX8_in ⟨rfl, rfl⟩ ⟨Nat.le_of_ble_eq_true rfl, Nat.le_of_ble_eq_true rfl⟩ rfl rfl (Nat.le_of_ble_eq_true rfl) ⟨Nat.zero_le _, Nat.zero_le _⟩ dX8_isOne_8 ?_
  refine lv_as (z := inP pp 0 ((T 6 1) - 1)) rfl ?_
  exact hret (inP pp 0 ((T 6 1) - 1)) () _ _ _ _ _ hW rfl (in_n _ _ _) (one_in hT _) dX8_isOne_11
