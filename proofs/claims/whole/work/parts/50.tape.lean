/-! ===== tape and reader: small ===== -/
def byteP (v : Int32) : Int32 := if v < 0 then 0 else if 255 < v then 0 else 1
def letS (v : Int32) : Int32 := if v < 97 then 0 else if 122 < v then 0 else 1
def digS (v : Int32) : Int32 := if v < 48 then 0 else if 57 < v then 0 else 1
def sigS (v : Int32) : Int32 := if v = 40 ∨ v = 41 ∨ v = 42 ∨ v = 43 ∨ v = 45 ∨ v = 59 ∨ v = 60 ∨ v = 61 then v else 1
def addS (σ : Nat → Nat → Int32) (b : Int32) : Nat → Nat → Int32 := if σ 1 1 < 0 then σ else if 160 ≤ σ 1 1 then σ else upR (upR σ 2 (iN (σ 1 1)) b) 1 1 (σ 1 1 + 1)
def wriS (σ : Nat → Nat → Int32) (b : Int32) : Nat → Nat → Int32 := if σ 3 3 < 0 then σ else if 160 ≤ σ 3 3 then σ else upR (upR σ 4 (iN (σ 3 3)) b) 3 3 (σ 3 3 + 1)
def pickF (a b c d f i : Int32) : Int32 := if i = 0 then a else if i = 1 then b else if i = 2 then c else if i = 3 then d else f
def feedK (σ : Nat → Nat → Int32) (a b c d f : Int32) : Nat → Nat → Nat → Int32
  | 0 => σ
  | i + 1 => addS (feedK σ a b c d f i) (pickF a b c d f (nI i))
def feedP (σ : Nat → Nat → Int32) (m a b c d f : Int32) : Int32 × (Nat → Nat → Int32) := if m < 1 then (-2, σ) else if 5 < m then (-2, σ) else if byteP a = 0 then (-2, σ) else if byteP b = 0 then (-2, σ) else if byteP c = 0 then (-2, σ) else if byteP d = 0 then (-2, σ) else if byteP f = 0 then (-2, σ) else if 160 < σ 1 1 + m then (-4, σ) else (feedK σ a b c d f (iN m) 1 1, feedK σ a b c d f (iN m))
set_option maxHeartbeats 800000 in
set_option maxRecDepth 100000 in
theorem kX5_isLetter {l : Launch} {v : Int32}  : PM l yX5_isLetter cX5_isLetter 1 FieldType.boolean { frames := 0, cells := 0, slots := 0, locals := 0 } [.int v] (letS v) := by
  refine gw_stS (own := RX5) (by decide +kernel) rfl (Nat.le_of_ble_eq_true rfl) ?_
  intro p e s m ar below meth c Q F hret ls hl
  obtain ⟨hx, hb, hml, hown, hts⟩ := id F
  have hl : lv_has ls 1 [(0, .int v)] := hl
  refine lv_iload_n hx hb dX5_isLetter_0 rfl (lv_at hl 0 rfl) ?_
  refine lv_bipush (v := 97) hx hb dX5_isLetter_1 (by decide) ?_
  refine lv_icmp_lt (tgt := 16) hx hb dX5_isLetter_3 (by decide) (fun c_1 => ?_) (fun c_1 => ?_)
  ·
    refine lv_iconst (v := 0) hx hb dX5_isLetter_16 (by decide) ?_
    exact hret 0 _ _ rfl (by (try simp only [i32_le, Decidable.not_not] at c_1); first | (simp only [letS, i32_le, c_1, if_true, if_false, not_false_eq_true, not_true_eq_false]; done) | simp [letS, c_1, i32_le]) dX5_isLetter_17
  ·
    refine lv_iload_n hx hb dX5_isLetter_6 rfl (lv_at hl 0 rfl) ?_
    refine lv_bipush (v := 122) hx hb dX5_isLetter_7 (by decide) ?_
    refine lv_icmp_gt (tgt := 16) hx hb dX5_isLetter_9 (by decide) (fun c_2 => ?_) (fun c_2 => ?_)
    ·
      refine lv_iconst (v := 0) hx hb dX5_isLetter_16 (by decide) ?_
      exact hret 0 _ _ rfl (by (try simp only [i32_le, Decidable.not_not] at c_1); (try simp only [i32_le, Decidable.not_not] at c_2); first | (simp only [letS, i32_le, c_1, c_2, if_true, if_false, not_false_eq_true, not_true_eq_false]; done) | simp [letS, c_1, c_2, i32_le]) dX5_isLetter_17
    ·
      refine lv_iconst (v := 1) hx hb dX5_isLetter_12 (by decide) ?_
      refine lv_goto (tgt := 17) hx hb dX5_isLetter_13 (by decide) ?_
      exact hret 1 _ _ rfl (by (try simp only [i32_le, Decidable.not_not] at c_1); (try simp only [i32_le, Decidable.not_not] at c_2); first | (simp only [letS, i32_le, c_1, c_2, if_true, if_false, not_false_eq_true, not_true_eq_false]; done) | simp [letS, c_1, c_2, i32_le]) dX5_isLetter_17
set_option maxHeartbeats 800000 in
set_option maxRecDepth 100000 in
theorem kX5_isDigit {l : Launch} {v : Int32}  : PM l yX5_isDigit cX5_isDigit 1 FieldType.boolean { frames := 0, cells := 0, slots := 0, locals := 0 } [.int v] (digS v) := by
  refine gw_stS (own := RX5) (by decide +kernel) rfl (Nat.le_of_ble_eq_true rfl) ?_
  intro p e s m ar below meth c Q F hret ls hl
  obtain ⟨hx, hb, hml, hown, hts⟩ := id F
  have hl : lv_has ls 1 [(0, .int v)] := hl
  refine lv_iload_n hx hb dX5_isDigit_0 rfl (lv_at hl 0 rfl) ?_
  refine lv_bipush (v := 48) hx hb dX5_isDigit_1 (by decide) ?_
  refine lv_icmp_lt (tgt := 16) hx hb dX5_isDigit_3 (by decide) (fun c_1 => ?_) (fun c_1 => ?_)
  ·
    refine lv_iconst (v := 0) hx hb dX5_isDigit_16 (by decide) ?_
    exact hret 0 _ _ rfl (by (try simp only [i32_le, Decidable.not_not] at c_1); first | (simp only [digS, i32_le, c_1, if_true, if_false, not_false_eq_true, not_true_eq_false]; done) | simp [digS, c_1, i32_le]) dX5_isDigit_17
  ·
    refine lv_iload_n hx hb dX5_isDigit_6 rfl (lv_at hl 0 rfl) ?_
    refine lv_bipush (v := 57) hx hb dX5_isDigit_7 (by decide) ?_
    refine lv_icmp_gt (tgt := 16) hx hb dX5_isDigit_9 (by decide) (fun c_2 => ?_) (fun c_2 => ?_)
    ·
      refine lv_iconst (v := 0) hx hb dX5_isDigit_16 (by decide) ?_
      exact hret 0 _ _ rfl (by (try simp only [i32_le, Decidable.not_not] at c_1); (try simp only [i32_le, Decidable.not_not] at c_2); first | (simp only [digS, i32_le, c_1, c_2, if_true, if_false, not_false_eq_true, not_true_eq_false]; done) | simp [digS, c_1, c_2, i32_le]) dX5_isDigit_17
    ·
      refine lv_iconst (v := 1) hx hb dX5_isDigit_12 (by decide) ?_
      refine lv_goto (tgt := 17) hx hb dX5_isDigit_13 (by decide) ?_
      exact hret 1 _ _ rfl (by (try simp only [i32_le, Decidable.not_not] at c_1); (try simp only [i32_le, Decidable.not_not] at c_2); first | (simp only [digS, i32_le, c_1, c_2, if_true, if_false, not_false_eq_true, not_true_eq_false]; done) | simp [digS, c_1, c_2, i32_le]) dX5_isDigit_17
abbrev rm_yX5_add : Room := { frames := 0, cells := 0, slots := 0, locals := 0 }
set_option maxHeartbeats 800000 in
set_option maxRecDepth 100000 in
theorem kX5_add {l : Launch} {D : va_G} {cs : Nat → ClassId} {ad : Nat → Nat} {n : Nat} {ρ σ : Nat → Nat → Int32} {TT τ : Nat → Nat → Nat → Int32} {sz : Nat} {z0 : Int32}  : XMv l yX5_add cX5_add 2 rm_yX5_add [.ref (ad 1), .int z0] D cs ad n ρ TT τ σ sz (fun (u : Nat → Nat → Int32) => u = addS σ z0) (fun u : Nat → Nat → Int32 => xent ad cs n ρ TT τ u) := by
  refine gw_stV (Ff := fun u : Nat → Nat → Int32 => xent ad cs n ρ TT τ u) (own := RX5) (by decide +kernel) rfl (Nat.le_of_ble_eq_true rfl) ?_
  intro p e s m ar below meth c A Q F hE hsz hW hret ls hl
  obtain ⟨hx, hb, hml, hown, hts⟩ := id F
  have hl : lv_has ls 2 [(0, .ref (ad 1)), (1, .int z0)] := hl
  refine lv_aload_n hx hb dX5_add_0 rfl (lv_at hl 0 rfl) ?_
  refine xr_P F hW 1 (by decide) rfl fl_RX5_15 dX5_add_1 ?_
  refine lv_if_lt (tgt := 39) hx hb dX5_add_4 (by decide) (fun c_1 => ?_) (fun c_1 => ?_)
  ·
    exact hret σ _ _ _ _ _ hW rfl (by unfold addS; rw [if_pos c_1]) dX5_add_39
  ·
    refine lv_aload_n hx hb dX5_add_7 rfl (lv_at hl 0 rfl) ?_
    refine xr_P F hW 1 (by decide) rfl fl_RX5_15 dX5_add_8 ?_
    refine lv_aload_n hx hb dX5_add_11 rfl (lv_at hl 0 rfl) ?_
    refine xr_P F hW 0 (by decide) rfl fl_RX5_9 dX5_add_12 ?_
    refine xr_Bl F hW dX5_add_15 ?_
    refine lv_icmp_ge (tgt := 39) hx hb dX5_add_16 (by decide) (fun c_2 => ?_) (fun c_2 => ?_)
    ·
      exact hret σ _ _ _ _ _ hW rfl (by unfold addS; rw [if_neg c_1, if_pos c_2]) dX5_add_39
    ·
      obtain ⟨zz, hzz, ez⟩ := ge_nat (N := 160) c_1 c_2 (by decide)
      refine lv_aload_n hx hb dX5_add_19 rfl (lv_at hl 0 rfl) ?_
      refine xr_P F hW 0 (by decide) rfl fl_RX5_9 dX5_add_20 ?_
      refine lv_aload_n hx hb dX5_add_23 rfl (lv_at hl 0 rfl) ?_
      refine xr_P F hW 1 (by decide) rfl fl_RX5_15 dX5_add_24 ?_
      refine lv_iload_n hx hb dX5_add_27 rfl (lv_at hl 1 rfl) ?_
      refine xw_Be F hW (by rw [ez]; exact vp_in_nI hzz (by decide)) dX5_add_28 (fun H locs hW => ?_)
      refine lv_aload_n hx hb dX5_add_29 rfl (lv_at hl 0 rfl) ?_
      refine lv_dup hx hb dX5_add_30 rfl ?_
      refine xr_P F hW 1 (by decide) rfl fl_RX5_15 dX5_add_31 ?_
      refine lv_iconst (v := 1) hx hb dX5_add_34 (by decide) ?_
      refine lv_iadd hx hb dX5_add_35 ?_
      refine xw_P F hW 1 (by decide) fl_RX5_15 rfl (ty := .int) rfl rfl rfl rfl dX5_add_36 (fun H locs hW => ?_)
      exact hret (upR (upR σ 2 ((σ 1 1).toNatClampNeg) z0) 1 1 (((upR σ 2 ((σ 1 1).toNatClampNeg) z0) 1 1) + 1)) _ _ _ _ _ hW rfl (by unfold addS; rw [if_neg c_1, if_neg c_2]; rfl) dX5_add_39
abbrev rm_yX2_write : Room := { frames := 0, cells := 0, slots := 0, locals := 0 }
set_option maxHeartbeats 800000 in
set_option maxRecDepth 100000 in
theorem kX2_write {l : Launch} {D : va_G} {cs : Nat → ClassId} {ad : Nat → Nat} {n : Nat} {ρ σ : Nat → Nat → Int32} {TT τ : Nat → Nat → Nat → Int32} {sz : Nat} {z0 : Int32}  : XMv l yX2_write cX2_write 2 rm_yX2_write [.ref (ad 3), .int z0] D cs ad n ρ TT τ σ sz (fun (u : Nat → Nat → Int32) => u = wriS σ z0) (fun u : Nat → Nat → Int32 => xent ad cs n ρ TT τ u) := by
  refine gw_stV (Ff := fun u : Nat → Nat → Int32 => xent ad cs n ρ TT τ u) (own := RX2) (by decide +kernel) rfl (Nat.le_of_ble_eq_true rfl) ?_
  intro p e s m ar below meth c A Q F hE hsz hW hret ls hl
  obtain ⟨hx, hb, hml, hown, hts⟩ := id F
  have hl : lv_has ls 2 [(0, .ref (ad 3)), (1, .int z0)] := hl
  refine lv_aload_n hx hb dX2_write_0 rfl (lv_at hl 0 rfl) ?_
  refine xr_D F hW 3 (by decide) rfl fl_RX2_22 dX2_write_1 ?_
  refine lv_if_lt (tgt := 39) hx hb dX2_write_4 (by decide) (fun c_1 => ?_) (fun c_1 => ?_)
  ·
    exact hret σ _ _ _ _ _ hW rfl (by unfold wriS; rw [if_pos c_1]) dX2_write_39
  ·
    refine lv_aload_n hx hb dX2_write_7 rfl (lv_at hl 0 rfl) ?_
    refine xr_D F hW 3 (by decide) rfl fl_RX2_22 dX2_write_8 ?_
    refine lv_aload_n hx hb dX2_write_11 rfl (lv_at hl 0 rfl) ?_
    refine xr_D F hW 1 (by decide) rfl fl_RX2_15 dX2_write_12 ?_
    refine xr_Kl F hW dX2_write_15 ?_
    refine lv_icmp_ge (tgt := 39) hx hb dX2_write_16 (by decide) (fun c_2 => ?_) (fun c_2 => ?_)
    ·
      exact hret σ _ _ _ _ _ hW rfl (by unfold wriS; rw [if_neg c_1, if_pos c_2]) dX2_write_39
    ·
      obtain ⟨zz, hzz, ez⟩ := ge_nat (N := 160) c_1 c_2 (by decide)
      refine lv_aload_n hx hb dX2_write_19 rfl (lv_at hl 0 rfl) ?_
      refine xr_D F hW 1 (by decide) rfl fl_RX2_15 dX2_write_20 ?_
      refine lv_aload_n hx hb dX2_write_23 rfl (lv_at hl 0 rfl) ?_
      refine xr_D F hW 3 (by decide) rfl fl_RX2_22 dX2_write_24 ?_
      refine lv_iload_n hx hb dX2_write_27 rfl (lv_at hl 1 rfl) ?_
      refine xw_Ke F hW (by rw [ez]; exact vp_in_nI hzz (by decide)) dX2_write_28 (fun H locs hW => ?_)
      refine lv_aload_n hx hb dX2_write_29 rfl (lv_at hl 0 rfl) ?_
      refine lv_dup hx hb dX2_write_30 rfl ?_
      refine xr_D F hW 3 (by decide) rfl fl_RX2_22 dX2_write_31 ?_
      refine lv_iconst (v := 1) hx hb dX2_write_34 (by decide) ?_
      refine lv_iadd hx hb dX2_write_35 ?_
      refine xw_D F hW 3 (by decide) fl_RX2_22 rfl (ty := .int) rfl rfl rfl rfl dX2_write_36 (fun H locs hW => ?_)
      exact hret (upR (upR σ 4 ((σ 3 3).toNatClampNeg) z0) 3 3 (((upR σ 4 ((σ 3 3).toNatClampNeg) z0) 3 3) + 1)) _ _ _ _ _ hW rfl (by unfold wriS; rw [if_neg c_1, if_neg c_2]; rfl) dX2_write_39
abbrev rm_yX7_feed : Room := { frames := 1, cells := 0, slots := 0, locals := 21 }
set_option maxHeartbeats 800000 in
set_option maxRecDepth 100000 in
theorem kX7_feed {l : Launch} {D : va_G} {cs : Nat → ClassId} {ad : Nat → Nat} {n : Nat} {ρ σ : Nat → Nat → Int32} {TT τ : Nat → Nat → Nat → Int32} {sz : Nat} {m0 a0 b0 c0 d0 f0 : Int32}  : XMi l yX7_feed cX7_feed 8 FieldType.int rm_yX7_feed [.ref (ad 0), .int m0, .int a0, .int b0, .int c0, .int d0, .int f0] D cs ad n ρ TT τ σ sz (fun (r : Int32) (u : Nat → Nat → Int32) => r = (feedP σ m0 a0 b0 c0 d0 f0).1 ∧ u = (feedP σ m0 a0 b0 c0 d0 f0).2) (fun u : Nat → Nat → Int32 => xent ad cs n ρ TT τ u) := by
  refine gw_stI (Ff := fun u : Nat → Nat → Int32 => xent ad cs n ρ TT τ u) (own := RX7) (by decide +kernel) rfl (Nat.le_of_ble_eq_true rfl) ?_
  intro p e s m ar below meth c A Q F hE hsz hW hret ls hl
  obtain ⟨hx, hb, hml, hown, hts⟩ := id F
  have hl : lv_has ls 8 [(0, .ref (ad 0)), (1, .int m0), (2, .int a0), (3, .int b0), (4, .int c0), (5, .int d0), (6, .int f0)] := hl
  refine lv_iload_n hx hb dX7_feed_0 rfl (lv_at hl 1 rfl) ?_
  refine lv_iconst (v := 1) hx hb dX7_feed_1 (by decide) ?_
  refine lv_icmp_lt (tgt := 48) hx hb dX7_feed_2 (by decide) (fun c_1 => ?_) (fun c_1 => ?_)
  ·
    refine lv_bipush (v := (-2)) hx hb dX7_feed_48 (by decide) ?_
    exact hret (-2) σ _ _ _ _ _ hW rfl rfl (by unfold feedP; rw [if_pos c_1]; exact ⟨rfl, rfl⟩) dX7_feed_50
  ·
    refine lv_iload_n hx hb dX7_feed_5 rfl (lv_at hl 1 rfl) ?_
    refine lv_iconst (v := 5) hx hb dX7_feed_6 (by decide) ?_
    refine lv_icmp_gt (tgt := 48) hx hb dX7_feed_7 (by decide) (fun c_2 => ?_) (fun c_2 => ?_)
    ·
      refine lv_bipush (v := (-2)) hx hb dX7_feed_48 (by decide) ?_
      exact hret (-2) σ _ _ _ _ _ hW rfl rfl (by unfold feedP; rw [if_neg c_1, if_pos c_2]; exact ⟨rfl, rfl⟩) dX7_feed_50
    ·
      have c7n := c_2; obtain ⟨mq, hmq, rfl⟩ : ∃ w, w ≤ 5 ∧ m0 = nI w := nI_of2 rfl (fun z => c_1 (Int32.lt_of_lt_of_le z (by decide))) (by rw [i32_le]; exact c_2); have himq : iN (nI mq) = mq := iN_nI (by omega)
      refine lv_iload_n hx hb dX7_feed_10 rfl (lv_at hl 2 rfl) ?_
      refine gw_callP (As := [.int a0]) (rest := []) F hl.1 (kX7_isByte) pd_yX7_isByte ml_RX7_93 st_yX7_isByte ini_RX7 cd_yX7_isByte ⟨rfl, rfl⟩ ⟨Nat.le_of_ble_eq_true rfl, Nat.le_of_ble_eq_true rfl⟩ rfl rfl (Nat.le_of_ble_eq_true rfl) ⟨Nat.zero_le _, Nat.zero_le _⟩ dX7_feed_11 ?_
      refine lv_as (z := byteP a0) rfl ?_
      refine lv_if_eq (tgt := 48) hx hb dX7_feed_14 (by decide) (fun c_3 => ?_) (fun c_3 => ?_)
      ·
        refine lv_bipush (v := (-2)) hx hb dX7_feed_48 (by decide) ?_
        exact hret (-2) σ _ _ _ _ _ hW rfl rfl (by unfold feedP; rw [if_neg c_1, if_neg c7n, if_pos c_3]; exact ⟨rfl, rfl⟩) dX7_feed_50
      ·
        refine lv_iload_n hx hb dX7_feed_17 rfl (lv_at hl 3 rfl) ?_
        refine gw_callP (As := [.int b0]) (rest := []) F hl.1 (kX7_isByte) pd_yX7_isByte ml_RX7_93 st_yX7_isByte ini_RX7 cd_yX7_isByte ⟨rfl, rfl⟩ ⟨Nat.le_of_ble_eq_true rfl, Nat.le_of_ble_eq_true rfl⟩ rfl rfl (Nat.le_of_ble_eq_true rfl) ⟨Nat.zero_le _, Nat.zero_le _⟩ dX7_feed_18 ?_
        refine lv_as (z := byteP b0) rfl ?_
        refine lv_if_eq (tgt := 48) hx hb dX7_feed_21 (by decide) (fun c_4 => ?_) (fun c_4 => ?_)
        ·
          refine lv_bipush (v := (-2)) hx hb dX7_feed_48 (by decide) ?_
          exact hret (-2) σ _ _ _ _ _ hW rfl rfl (by unfold feedP; rw [if_neg c_1, if_neg c7n, if_neg c_3, if_pos c_4]; exact ⟨rfl, rfl⟩) dX7_feed_50
        ·
          refine lv_iload hx hb dX7_feed_24 (lv_at hl 4 rfl) ?_
          refine gw_callP (As := [.int c0]) (rest := []) F hl.1 (kX7_isByte) pd_yX7_isByte ml_RX7_93 st_yX7_isByte ini_RX7 cd_yX7_isByte ⟨rfl, rfl⟩ ⟨Nat.le_of_ble_eq_true rfl, Nat.le_of_ble_eq_true rfl⟩ rfl rfl (Nat.le_of_ble_eq_true rfl) ⟨Nat.zero_le _, Nat.zero_le _⟩ dX7_feed_26 ?_
          refine lv_as (z := byteP c0) rfl ?_
          refine lv_if_eq (tgt := 48) hx hb dX7_feed_29 (by decide) (fun c_5 => ?_) (fun c_5 => ?_)
          ·
            refine lv_bipush (v := (-2)) hx hb dX7_feed_48 (by decide) ?_
            exact hret (-2) σ _ _ _ _ _ hW rfl rfl (by unfold feedP; rw [if_neg c_1, if_neg c7n, if_neg c_3, if_neg c_4, if_pos c_5]; exact ⟨rfl, rfl⟩) dX7_feed_50
          ·
            refine lv_iload hx hb dX7_feed_32 (lv_at hl 5 rfl) ?_
            refine gw_callP (As := [.int d0]) (rest := []) F hl.1 (kX7_isByte) pd_yX7_isByte ml_RX7_93 st_yX7_isByte ini_RX7 cd_yX7_isByte ⟨rfl, rfl⟩ ⟨Nat.le_of_ble_eq_true rfl, Nat.le_of_ble_eq_true rfl⟩ rfl rfl (Nat.le_of_ble_eq_true rfl) ⟨Nat.zero_le _, Nat.zero_le _⟩ dX7_feed_34 ?_
            refine lv_as (z := byteP d0) rfl ?_
            refine lv_if_eq (tgt := 48) hx hb dX7_feed_37 (by decide) (fun c_6 => ?_) (fun c_6 => ?_)
            ·
              refine lv_bipush (v := (-2)) hx hb dX7_feed_48 (by decide) ?_
              exact hret (-2) σ _ _ _ _ _ hW rfl rfl (by unfold feedP; rw [if_neg c_1, if_neg c7n, if_neg c_3, if_neg c_4, if_neg c_5, if_pos c_6]; exact ⟨rfl, rfl⟩) dX7_feed_50
            ·
              refine lv_iload hx hb dX7_feed_40 (lv_at hl 6 rfl) ?_
              refine gw_callP (As := [.int f0]) (rest := []) F hl.1 (kX7_isByte) pd_yX7_isByte ml_RX7_93 st_yX7_isByte ini_RX7 cd_yX7_isByte ⟨rfl, rfl⟩ ⟨Nat.le_of_ble_eq_true rfl, Nat.le_of_ble_eq_true rfl⟩ rfl rfl (Nat.le_of_ble_eq_true rfl) ⟨Nat.zero_le _, Nat.zero_le _⟩ dX7_feed_42 ?_
              refine lv_as (z := byteP f0) rfl ?_
              refine lv_if_ne (tgt := 51) hx hb dX7_feed_45 (by decide) (fun c_7 => ?_) (fun c_7 => ?_)
              ·
                refine lv_aload_n hx hb dX7_feed_51 rfl (lv_at hl 0 rfl) ?_
                refine xr_O F hW 0 (by decide) rfl fl_RX7_10 dX7_feed_52 ?_
                refine xr_P F hW 1 (by decide) rfl fl_RX7_90 dX7_feed_55 ?_
                refine lv_iload_n hx hb dX7_feed_58 rfl (lv_at hl 1 rfl) ?_
                refine lv_iadd hx hb dX7_feed_59 ?_
                refine lv_sipush (v := 160) hx hb dX7_feed_60 (by decide) ?_
                refine lv_icmp_le (tgt := 69) hx hb dX7_feed_63 (by decide) (fun c_8 => ?_) (fun c_8 => ?_)
                ·
                  refine lv_iconst (v := 0) hx hb dX7_feed_69 (by decide) ?_
                  refine lv_istore (lv' := [(7, .int 0), (0, .ref (ad 0)), (1, .int (nI mq)), (2, .int a0), (3, .int b0), (4, .int c0), (5, .int d0), (6, .int f0)]) hx hb dX7_feed_70 hl (by decide) rfl (fun ls hl => ?_)
                  have L72 : ∀ (k : Nat) (i : Nat) (σ' : Nat → Nat → Int32), (i ≤ mq) → (mq + 1 ≤ i + k) → (σ' = feedK σ a0 b0 c0 d0 f0 i) → ∀ (H : Heap) (locs : List Loc) (ls : Array Slot), XW D cs ad n ρ TT τ σ' A s s.heap H locs → lv_has ls 8 [(7, .int (nI i)), (0, .ref (ad 0)), (1, .int (nI mq)), (2, .int a0), (3, .int b0), (4, .int c0), (5, .int d0), (6, .int f0)] → W p l e rm_yX7_feed s m ar below meth c H locs 0 0 Q (F0 m 72 ls []) := by
                    intro k
                    induction k with
                    | zero => intro i σ' h1 h2 hσ; exact absurd h2 (by omega)
                    | succ k ih72 =>
                      intro i σ' h1 h2 hσ H locs ls hW hl
                      refine lv_iload hx hb dX7_feed_72 (lv_at hl 0 rfl) ?_
                      refine lv_iload_n hx hb dX7_feed_74 rfl (lv_at hl 2 rfl) ?_
                      refine lv_icmp_ge (tgt := 134) hx hb dX7_feed_75 (by decide) (fun c_9 => ?_) (fun c_9 => ?_)
                      ·
                        obtain rfl : mq = i := by have := mi_le c_9 (by omega) (by omega); omega
                        refine lv_aload_n hx hb dX7_feed_134 rfl (lv_at hl 1 rfl) ?_
                        refine xr_O F hW 0 (by decide) rfl fl_RX7_10 dX7_feed_135 ?_
                        refine xr_P F hW 1 (by decide) rfl fl_RX7_90 dX7_feed_138 ?_
                        exact hret (σ' 1 1) σ' _ _ _ _ _ hW rfl rfl (by unfold feedP; rw [if_neg c_1, if_neg c7n, if_neg c_3, if_neg c_4, if_neg c_5, if_neg c_6, if_neg c_7, if_neg (Int32.not_lt.mpr c_8), himq, hσ]; exact ⟨rfl, rfl⟩) dX7_feed_141
                      ·
                        have hlt : i < mq := mi_nle c_9 (by omega) (by omega)
                        refine lv_aload_n hx hb dX7_feed_78 rfl (lv_at hl 1 rfl) ?_
                        refine xr_O F hW 0 (by decide) rfl fl_RX7_10 dX7_feed_79 ?_
                        refine lv_iload hx hb dX7_feed_82 (lv_at hl 0 rfl) ?_
                        refine lv_if_ne (tgt := 91) hx hb dX7_feed_84 (by decide) (fun c_10 => ?_) (fun c_10 => ?_)
                        ·
                          refine lv_iload hx hb dX7_feed_91 (lv_at hl 0 rfl) ?_
                          refine lv_iconst (v := 1) hx hb dX7_feed_93 (by decide) ?_
                          refine lv_icmp_ne (tgt := 101) hx hb dX7_feed_94 (by decide) (fun c_11 => ?_) (fun c_11 => ?_)
                          ·
                            refine lv_iload hx hb dX7_feed_101 (lv_at hl 0 rfl) ?_
                            refine lv_iconst (v := 2) hx hb dX7_feed_103 (by decide) ?_
                            refine lv_icmp_ne (tgt := 112) hx hb dX7_feed_104 (by decide) (fun c_12 => ?_) (fun c_12 => ?_)
                            ·
                              refine lv_iload hx hb dX7_feed_112 (lv_at hl 0 rfl) ?_
                              refine lv_iconst (v := 3) hx hb dX7_feed_114 (by decide) ?_
                              refine lv_icmp_ne (tgt := 123) hx hb dX7_feed_115 (by decide) (fun c_13 => ?_) (fun c_13 => ?_)
                              ·
                                refine lv_iload hx hb dX7_feed_123 (lv_at hl 7 rfl) ?_
                                refine gw_callVv (As := [.int f0]) (rest := []) F hl.1 hW (fun _ _ hw => va_Nw.warmM hw hE) XE_E (by omega) xe_1 rfl (kX5_add) pd_yX5_add ml_RX7_97 im_yX5_add se_yX5_add ini_RX5 cd_yX5_add ⟨rfl, rfl⟩ ⟨Nat.le_of_ble_eq_true rfl, Nat.le_of_ble_eq_true rfl⟩ rfl rfl (Nat.le_of_ble_eq_true rfl) ⟨Nat.zero_le _, Nat.zero_le _⟩ dX7_feed_125 (fun σ_14 H locs hp hW _ _ => ?_)
                                subst hp
                                refine lv_iinc (v := nI (i + 1)) (lv' := [(7, .int (nI (i + 1))), (0, .ref (ad 0)), (1, .int (nI mq)), (2, .int a0), (3, .int b0), (4, .int c0), (5, .int d0), (6, .int f0)]) hx hb dX7_feed_128 hl (k := 0) rfl (nI_1 i) (by decide) rfl (fun ls hl => ?_)
                                refine lv_goto (tgt := 72) hx hb dX7_feed_131 (by decide) ?_
                                exact ih72 (i + 1) _ (by omega) (by omega) (by show _ = addS (feedK σ a0 b0 c0 d0 f0 i) (pickF a0 b0 c0 d0 f0 (nI i)); unfold pickF; rw [if_neg c_10, if_neg c_11, if_neg c_12, if_neg c_13, hσ]) _ _ _ hW (lv_sub hl [0, 1, 2, 3, 4, 5, 6, 7] rfl)
                              ·
                                refine lv_iload hx hb dX7_feed_118 (lv_at hl 6 rfl) ?_
                                refine lv_goto (tgt := 125) hx hb dX7_feed_120 (by decide) ?_
                                refine gw_callVv (As := [.int d0]) (rest := []) F hl.1 hW (fun _ _ hw => va_Nw.warmM hw hE) XE_E (by omega) xe_1 rfl (kX5_add) pd_yX5_add ml_RX7_97 im_yX5_add se_yX5_add ini_RX5 cd_yX5_add ⟨rfl, rfl⟩ ⟨Nat.le_of_ble_eq_true rfl, Nat.le_of_ble_eq_true rfl⟩ rfl rfl (Nat.le_of_ble_eq_true rfl) ⟨Nat.zero_le _, Nat.zero_le _⟩ dX7_feed_125 (fun σ_15 H locs hp hW _ _ => ?_)
                                subst hp
                                refine lv_iinc (v := nI (i + 1)) (lv' := [(7, .int (nI (i + 1))), (0, .ref (ad 0)), (1, .int (nI mq)), (2, .int a0), (3, .int b0), (4, .int c0), (5, .int d0), (6, .int f0)]) hx hb dX7_feed_128 hl (k := 0) rfl (nI_1 i) (by decide) rfl (fun ls hl => ?_)
                                refine lv_goto (tgt := 72) hx hb dX7_feed_131 (by decide) ?_
                                exact ih72 (i + 1) _ (by omega) (by omega) (by show _ = addS (feedK σ a0 b0 c0 d0 f0 i) (pickF a0 b0 c0 d0 f0 (nI i)); unfold pickF; rw [if_neg c_10, if_neg c_11, if_neg c_12, if_pos c_13, hσ]) _ _ _ hW (lv_sub hl [0, 1, 2, 3, 4, 5, 6, 7] rfl)
                            ·
                              refine lv_iload hx hb dX7_feed_107 (lv_at hl 5 rfl) ?_
                              refine lv_goto (tgt := 125) hx hb dX7_feed_109 (by decide) ?_
                              refine gw_callVv (As := [.int c0]) (rest := []) F hl.1 hW (fun _ _ hw => va_Nw.warmM hw hE) XE_E (by omega) xe_1 rfl (kX5_add) pd_yX5_add ml_RX7_97 im_yX5_add se_yX5_add ini_RX5 cd_yX5_add ⟨rfl, rfl⟩ ⟨Nat.le_of_ble_eq_true rfl, Nat.le_of_ble_eq_true rfl⟩ rfl rfl (Nat.le_of_ble_eq_true rfl) ⟨Nat.zero_le _, Nat.zero_le _⟩ dX7_feed_125 (fun σ_16 H locs hp hW _ _ => ?_)
                              subst hp
                              refine lv_iinc (v := nI (i + 1)) (lv' := [(7, .int (nI (i + 1))), (0, .ref (ad 0)), (1, .int (nI mq)), (2, .int a0), (3, .int b0), (4, .int c0), (5, .int d0), (6, .int f0)]) hx hb dX7_feed_128 hl (k := 0) rfl (nI_1 i) (by decide) rfl (fun ls hl => ?_)
                              refine lv_goto (tgt := 72) hx hb dX7_feed_131 (by decide) ?_
                              exact ih72 (i + 1) _ (by omega) (by omega) (by show _ = addS (feedK σ a0 b0 c0 d0 f0 i) (pickF a0 b0 c0 d0 f0 (nI i)); unfold pickF; rw [if_neg c_10, if_neg c_11, if_pos c_12, hσ]) _ _ _ hW (lv_sub hl [0, 1, 2, 3, 4, 5, 6, 7] rfl)
                          ·
                            refine lv_iload_n hx hb dX7_feed_97 rfl (lv_at hl 4 rfl) ?_
                            refine lv_goto (tgt := 125) hx hb dX7_feed_98 (by decide) ?_
                            refine gw_callVv (As := [.int b0]) (rest := []) F hl.1 hW (fun _ _ hw => va_Nw.warmM hw hE) XE_E (by omega) xe_1 rfl (kX5_add) pd_yX5_add ml_RX7_97 im_yX5_add se_yX5_add ini_RX5 cd_yX5_add ⟨rfl, rfl⟩ ⟨Nat.le_of_ble_eq_true rfl, Nat.le_of_ble_eq_true rfl⟩ rfl rfl (Nat.le_of_ble_eq_true rfl) ⟨Nat.zero_le _, Nat.zero_le _⟩ dX7_feed_125 (fun σ_17 H locs hp hW _ _ => ?_)
                            subst hp
                            refine lv_iinc (v := nI (i + 1)) (lv' := [(7, .int (nI (i + 1))), (0, .ref (ad 0)), (1, .int (nI mq)), (2, .int a0), (3, .int b0), (4, .int c0), (5, .int d0), (6, .int f0)]) hx hb dX7_feed_128 hl (k := 0) rfl (nI_1 i) (by decide) rfl (fun ls hl => ?_)
                            refine lv_goto (tgt := 72) hx hb dX7_feed_131 (by decide) ?_
                            exact ih72 (i + 1) _ (by omega) (by omega) (by show _ = addS (feedK σ a0 b0 c0 d0 f0 i) (pickF a0 b0 c0 d0 f0 (nI i)); unfold pickF; rw [if_neg c_10, if_pos c_11, hσ]) _ _ _ hW (lv_sub hl [0, 1, 2, 3, 4, 5, 6, 7] rfl)
                        ·
                          refine lv_iload_n hx hb dX7_feed_87 rfl (lv_at hl 3 rfl) ?_
                          refine lv_goto (tgt := 125) hx hb dX7_feed_88 (by decide) ?_
                          refine gw_callVv (As := [.int a0]) (rest := []) F hl.1 hW (fun _ _ hw => va_Nw.warmM hw hE) XE_E (by omega) xe_1 rfl (kX5_add) pd_yX5_add ml_RX7_97 im_yX5_add se_yX5_add ini_RX5 cd_yX5_add ⟨rfl, rfl⟩ ⟨Nat.le_of_ble_eq_true rfl, Nat.le_of_ble_eq_true rfl⟩ rfl rfl (Nat.le_of_ble_eq_true rfl) ⟨Nat.zero_le _, Nat.zero_le _⟩ dX7_feed_125 (fun σ_18 H locs hp hW _ _ => ?_)
                          subst hp
                          refine lv_iinc (v := nI (i + 1)) (lv' := [(7, .int (nI (i + 1))), (0, .ref (ad 0)), (1, .int (nI mq)), (2, .int a0), (3, .int b0), (4, .int c0), (5, .int d0), (6, .int f0)]) hx hb dX7_feed_128 hl (k := 0) rfl (nI_1 i) (by decide) rfl (fun ls hl => ?_)
                          refine lv_goto (tgt := 72) hx hb dX7_feed_131 (by decide) ?_
                          exact ih72 (i + 1) _ (by omega) (by omega) (by show _ = addS (feedK σ a0 b0 c0 d0 f0 i) (pickF a0 b0 c0 d0 f0 (nI i)); unfold pickF; rw [if_pos c_10, hσ]) _ _ _ hW (lv_sub hl [0, 1, 2, 3, 4, 5, 6, 7] rfl)
                  exact L72 (mq + 1) 0 _ (Nat.zero_le _) (by omega) (rfl) _ _ _ hW (lv_sub hl [0, 1, 2, 3, 4, 5, 6, 7] rfl)
                ·
                  refine lv_bipush (v := (-4)) hx hb dX7_feed_66 (by decide) ?_
                  exact hret (-4) σ _ _ _ _ _ hW rfl rfl (by unfold feedP; rw [if_neg c_1, if_neg c7n, if_neg c_3, if_neg c_4, if_neg c_5, if_neg c_6, if_neg c_7, if_pos (Int32.not_le.mp c_8)]; exact ⟨rfl, rfl⟩) dX7_feed_68
              ·
                refine lv_bipush (v := (-2)) hx hb dX7_feed_48 (by decide) ?_
                exact hret (-2) σ _ _ _ _ _ hW rfl rfl (by unfold feedP; rw [if_neg c_1, if_neg c7n, if_neg c_3, if_neg c_4, if_neg c_5, if_neg c_6, if_pos c_7]; exact ⟨rfl, rfl⟩) dX7_feed_50
