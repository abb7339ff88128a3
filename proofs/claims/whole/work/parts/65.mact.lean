/-! ===== the reference: one's acts, a minute ===== -/
theorem nm_all {g r : Nat → Int32} {mn : Int32} (h0 : r 0 = g 3) (h1 : r 1 = g 4) (h2 : r 2 = g 5) (h3 : r 3 = mn) (h4 : r 4 = onesS (g 2)) (h5 : r 5 = g 1) : ∀ j, j < 6 → r j = nameS g mn (-(nI (j + 1))) := by
  intro j hj
  unfold nameS
  rcases (show j = 0 ∨ j = 1 ∨ j = 2 ∨ j = 3 ∨ j = 4 ∨ j = 5 by omega) with rfl | rfl | rfl | rfl | rfl | rfl
  · rw [if_pos (by decide), h0]
  · rw [if_neg (by decide), if_pos (by decide), h1]
  · rw [if_neg (by decide), if_neg (by decide), if_pos (by decide), h2]
  · rw [if_neg (by decide), if_neg (by decide), if_neg (by decide), if_pos (by decide), h3]
  · rw [if_neg (by decide), if_neg (by decide), if_neg (by decide), if_neg (by decide), if_pos (by decide), h4]
  · rw [if_neg (by decide), if_neg (by decide), if_neg (by decide), if_neg (by decide), if_neg (by decide), h5]
theorem clamp_min {k : Nat} {v : Int32} (h : upto k v) (hk : k < 2 ^ 31) : clampS 0 v = min99 v := by
  obtain ⟨j, hj, rfl⟩ := h
  unfold clampS min99
  rw [if_neg (nI_pos (by omega))]
  by_cases h9 : 99 < nI j
  · rw [if_pos h9, if_neg (Int32.not_le.mpr h9)]
  · rw [if_neg h9, if_pos (Int32.not_lt.mp h9)]
theorem or_all {x : Int32} (h : ∃ j, j < 10 ∧ x = nI j) : (1023 : Int32) ||| (1 : Int32) <<< (x &&& 31) = 1023 := by
  have key : ∀ j, j < 10 → (1023 : Int32) ||| (1 : Int32) <<< (nI j &&& 31) = 1023 := by decide +kernel
  obtain ⟨j, hj, rfl⟩ := h
  exact key j hj
theorem bit_0 {x a : Int32} : bitS x a = 0 ∨ bitS x a = 1 := by
  unfold bitS
  generalize x >>> (a &&& 31) = z
  have h : ∀ w : BitVec 32, w &&& 1#32 = 0#32 ∨ w &&& 1#32 = 1#32 := by
    intro w
    by_cases hb : w.getLsbD 0
    · right
      apply BitVec.eq_of_getLsbD_eq
      intro i hi
      rw [BitVec.getLsbD_and]
      by_cases h0 : i = 0
      · subst h0; rw [hb]; rfl
      · have : (1#32).getLsbD i = false := by
          rw [BitVec.getLsbD_one]; simp; omega
        rw [this, Bool.and_false]
    · left
      apply BitVec.eq_of_getLsbD_eq
      intro i hi
      rw [BitVec.getLsbD_and]
      by_cases h0 : i = 0
      · subst h0; simp at hb; rw [BitVec.getLsbD_eq_getElem (by omega)]; simp [hb]
      · have : (1#32).getLsbD i = false := by
          rw [BitVec.getLsbD_one]; simp; omega
        rw [this, Bool.and_false]; simp
  rcases h z.toBitVec with e | e
  · left; apply Int32.toBitVec_inj.1; exact e
  · right; apply Int32.toBitVec_inj.1; exact e
abbrev rm_yX8_asksOf : Room := { frames := 2, cells := 0, slots := 0, locals := 46 }
set_option maxHeartbeats 800000 in
set_option maxRecDepth 100000 in
theorem kX8_asksOf {l : Launch} {D : va_G} {cA : ClassId} {ad : Nat → Nat} {ρ T σ : Nat → Nat → Int32} {sz : Nat} {n q pt : Nat} {Lx : Lw} (hT : okT n T) (hM : okML n σ Lx) (hq : q < seatsN T) (hpt : pt < 3) : MMi l yX8_asksOf cX8_asksOf 3 FieldType.int rm_yX8_asksOf [.ref (ad 0), .int (nI pt), .int (nI q)] D cA ad ρ T σ sz (fun (r : Int32) (u : Nat → Nat → Int32) => r = saysS Lx T pt q ∧ Kp ρ u) (fun u : Nat → Nat → Int32 => ment ad cA u T σ) := by
  refine gw_stI (Ff := fun u : Nat → Nat → Int32 => ment ad cA u T σ) (own := RX8) (by decide +kernel) rfl (Nat.le_of_ble_eq_true rfl) ?_
  intro p e s m ar below meth c A Q F hE hsz hW hret ls hl
  obtain ⟨hx, hb, hml, hown, hts⟩ := id F
  have hl : lv_has ls 3 [(0, .ref (ad 0)), (1, .int (nI pt)), (2, .int (nI q))] := hl
  have hq6 : q < 6 := seats_le hT hq
  have hs6 := hT.1
  have hsN := hT.2.1
  have hG := hT.2.2.2.2 q hq
  refine lv_aload_n hx hb dX8_asksOf_0 rfl (lv_at hl 0 rfl) ?_
  refine mr_f F hW 28 (by decide) rfl fl_RX8_55 dX8_asksOf_1 ?_
  refine lv_iconst (v := 0) hx hb dX8_asksOf_4 (by decide) ?_
  refine lv_aload_n hx hb dX8_asksOf_5 rfl (lv_at hl 0 rfl) ?_
  refine mr_f F hW 3 (by decide) rfl fl_RX8_16 dX8_asksOf_6 ?_
  refine lv_iconst (v := 5) hx hb dX8_asksOf_9 (by decide) ?_
  refine lv_iload_n hx hb dX8_asksOf_10 rfl (lv_at hl 2 rfl) ?_
  refine lv_imul hx hb dX8_asksOf_11 ?_
  refine lv_iconst (v := 1) hx hb dX8_asksOf_12 (by decide) ?_
  refine lv_iadd hx hb dX8_asksOf_13 ?_
  refine mr_rows q 1 (by omega) (by decide) (mi_5k q 1) F hW dX8_asksOf_14 ?_
  refine mw_named F hW (vp_in_nI (n := 0) (by decide) (by decide)) dX8_asksOf_15 (fun H locs hW => ?_)
  have hW : MW D cA ad (upR ρ 16 0 (T q 3)) T σ A s s.heap H locs := hW
  refine lv_aload_n hx hb dX8_asksOf_16 rfl (lv_at hl 0 rfl) ?_
  refine mr_f F hW 28 (by decide) rfl fl_RX8_55 dX8_asksOf_17 ?_
  refine lv_iconst (v := 1) hx hb dX8_asksOf_20 (by decide) ?_
  refine lv_aload_n hx hb dX8_asksOf_21 rfl (lv_at hl 0 rfl) ?_
  refine mr_f F hW 3 (by decide) rfl fl_RX8_16 dX8_asksOf_22 ?_
  refine lv_iconst (v := 5) hx hb dX8_asksOf_25 (by decide) ?_
  refine lv_iload_n hx hb dX8_asksOf_26 rfl (lv_at hl 2 rfl) ?_
  refine lv_imul hx hb dX8_asksOf_27 ?_
  refine lv_iconst (v := 2) hx hb dX8_asksOf_28 (by decide) ?_
  refine lv_iadd hx hb dX8_asksOf_29 ?_
  refine mr_rows q 2 (by omega) (by decide) (mi_5k q 2) F hW dX8_asksOf_30 ?_
  refine mw_named F hW (vp_in_nI (n := 1) (by decide) (by decide)) dX8_asksOf_31 (fun H locs hW => ?_)
  have hW : MW D cA ad (upR (upR ρ 16 0 (T q 3)) 16 1 (T q 4)) T σ A s s.heap H locs := hW
  refine lv_aload_n hx hb dX8_asksOf_32 rfl (lv_at hl 0 rfl) ?_
  refine mr_f F hW 28 (by decide) rfl fl_RX8_55 dX8_asksOf_33 ?_
  refine lv_iconst (v := 2) hx hb dX8_asksOf_36 (by decide) ?_
  refine lv_aload_n hx hb dX8_asksOf_37 rfl (lv_at hl 0 rfl) ?_
  refine mr_f F hW 3 (by decide) rfl fl_RX8_16 dX8_asksOf_38 ?_
  refine lv_iconst (v := 5) hx hb dX8_asksOf_41 (by decide) ?_
  refine lv_iload_n hx hb dX8_asksOf_42 rfl (lv_at hl 2 rfl) ?_
  refine lv_imul hx hb dX8_asksOf_43 ?_
  refine lv_iconst (v := 3) hx hb dX8_asksOf_44 (by decide) ?_
  refine lv_iadd hx hb dX8_asksOf_45 ?_
  refine mr_rows q 3 (by omega) (by decide) (mi_5k q 3) F hW dX8_asksOf_46 ?_
  refine mw_named F hW (vp_in_nI (n := 2) (by decide) (by decide)) dX8_asksOf_47 (fun H locs hW => ?_)
  have hW : MW D cA ad (upR (upR (upR ρ 16 0 (T q 3)) 16 1 (T q 4)) 16 2 (T q 5)) T σ A s s.heap H locs := hW
  refine lv_aload_n hx hb dX8_asksOf_48 rfl (lv_at hl 0 rfl) ?_
  refine mr_f F hW 28 (by decide) rfl fl_RX8_55 dX8_asksOf_49 ?_
  refine lv_iconst (v := 3) hx hb dX8_asksOf_52 (by decide) ?_
  refine lv_aload_n hx hb dX8_asksOf_53 rfl (lv_at hl 0 rfl) ?_
  refine mr_f F hW 4 (by decide) rfl fl_RX8_76 dX8_asksOf_54 ?_
  refine mw_named F hW (vp_in_nI (n := 3) (by decide) (by decide)) dX8_asksOf_57 (fun H locs hW => ?_)
  have hW : MW D cA ad (upR (upR (upR (upR ρ 16 0 (T q 3)) 16 1 (T q 4)) 16 2 (T q 5)) 16 3 (T 6 2)) T σ A s s.heap H locs := hW
  refine lv_aload_n hx hb dX8_asksOf_58 rfl (lv_at hl 0 rfl) ?_
  refine mr_f F hW 28 (by decide) rfl fl_RX8_55 dX8_asksOf_59 ?_
  refine lv_iconst (v := 4) hx hb dX8_asksOf_62 (by decide) ?_
  refine lv_aload_n hx hb dX8_asksOf_63 rfl (lv_at hl 0 rfl) ?_
  refine mr_f F hW 3 (by decide) rfl fl_RX8_16 dX8_asksOf_64 ?_
  refine lv_iconst (v := 5) hx hb dX8_asksOf_67 (by decide) ?_
  refine lv_iload_n hx hb dX8_asksOf_68 rfl (lv_at hl 2 rfl) ?_
  refine lv_imul hx hb dX8_asksOf_69 ?_
  refine mr_rows q 0 (by omega) (by decide) (mi_50 q) F hW dX8_asksOf_70 ?_
  refine gw_callP (As := [.int (T q 2)]) (rest := [.int 4, .ref (ad 16)]) F hl.1 (kX8_onesOf) pd_yX8_onesOf ml_RX8_82 st_yX8_onesOf ini_RX8 cd_yX8_onesOf ⟨rfl, rfl⟩ ⟨Nat.le_of_ble_eq_true rfl, Nat.le_of_ble_eq_true rfl⟩ rfl rfl (Nat.le_of_ble_eq_true rfl) ⟨Nat.zero_le _, Nat.zero_le _⟩ dX8_asksOf_71 ?_
  refine lv_as (z := onesS (T q 2)) rfl ?_
  refine mw_named F hW (vp_in_nI (n := 4) (by decide) (by decide)) dX8_asksOf_74 (fun H locs hW => ?_)
  have hW : MW D cA ad (upR (upR (upR (upR (upR ρ 16 0 (T q 3)) 16 1 (T q 4)) 16 2 (T q 5)) 16 3 (T 6 2)) 16 4 (onesS (T q 2))) T σ A s s.heap H locs := hW
  refine lv_aload_n hx hb dX8_asksOf_75 rfl (lv_at hl 0 rfl) ?_
  refine mr_f F hW 28 (by decide) rfl fl_RX8_55 dX8_asksOf_76 ?_
  refine lv_iconst (v := 5) hx hb dX8_asksOf_79 (by decide) ?_
  refine lv_aload_n hx hb dX8_asksOf_80 rfl (lv_at hl 0 rfl) ?_
  refine mr_f F hW 2 (by decide) rfl fl_RX8_13 dX8_asksOf_81 ?_
  refine lv_iload_n hx hb dX8_asksOf_84 rfl (lv_at hl 2 rfl) ?_
  refine mr_more q (by omega) rfl F hW dX8_asksOf_85 ?_
  refine mw_named F hW (vp_in_nI (n := 5) (by decide) (by decide)) dX8_asksOf_86 (fun H locs hW => ?_)
  have hW : MW D cA ad (upR (upR (upR (upR (upR (upR ρ 16 0 (T q 3)) 16 1 (T q 4)) 16 2 (T q 5)) 16 3 (T 6 2)) 16 4 (onesS (T q 2))) 16 5 (T q 1)) T σ A s s.heap H locs := hW
  refine lv_aload_n hx hb dX8_asksOf_87 rfl (lv_at hl 0 rfl) ?_
  refine lv_iload_n hx hb dX8_asksOf_88 rfl (lv_at hl 1 rfl) ?_
  refine gw_callVi (As := [.int (nI pt)]) (rest := []) F hl.1 hW (fun _ _ _ => trivial) gw_T_E (by decide) (rfl : ment ad cA _ _ _ 0 = _) rfl (kX8_says (n := n) (pt := pt) (Lx := Lx) (g := T q) (mn := T 6 2) hT hM hpt (nm_all rfl rfl rfl rfl rfl rfl)) pd_yX8_says ml_RX8_155 im_yX8_says se_yX8_says ini_RX8 cd_yX8_says ⟨rfl, rfl⟩ ⟨Nat.le_of_ble_eq_true rfl, Nat.le_of_ble_eq_true rfl⟩ rfl rfl (Nat.le_of_ble_eq_true rfl) ⟨Nat.zero_le _, Nat.zero_le _⟩ dX8_asksOf_89 (fun r ρ_2 H locs hp hW _ _ => ?_)
  obtain ⟨rfl, hk_1⟩ := hp
  refine lv_as (z := evalS (Lx (lawN T) pt) (T q) (T 6 2)) rfl ?_
  refine lv_iload_n hx hb dX8_asksOf_92 rfl (lv_at hl 1 rfl) ?_
  refine lv_iconst (v := 2) hx hb dX8_asksOf_93 (by decide) ?_
  refine lv_icmp_ne (tgt := 102) hx hb dX8_asksOf_94 (by decide) (fun c_3 => ?_) (fun c_3 => ?_)
  ·
    refine lv_iconst (v := 0) hx hb dX8_asksOf_102 (by decide) ?_
    refine lv_bipush (v := 99) hx hb dX8_asksOf_103 (by decide) ?_
    refine gw_callP (As := [.int (evalS (Lx (lawN T) pt) (T q) (T 6 2)), .int 0, .int 99]) (rest := []) F hl.1 (kX8_within) pd_yX8_within ml_RX8_158 st_yX8_within ini_RX8 cd_yX8_within ⟨rfl, rfl⟩ ⟨Nat.le_of_ble_eq_true rfl, Nat.le_of_ble_eq_true rfl⟩ rfl rfl (Nat.le_of_ble_eq_true rfl) ⟨Nat.zero_le _, Nat.zero_le _⟩ dX8_asksOf_105 ?_
    exact hret (if evalS (Lx (lawN T) pt) (T q) (T 6 2) < 0 then 0 else if 99 < evalS (Lx (lawN T) pt) (T q) (T 6 2) then 99 else evalS (Lx (lawN T) pt) (T q) (T 6 2)) ρ_2 _ _ _ _ _ hW rfl rfl (by exact ⟨by rw [within_clamp]; unfold saysS saysG lawN; rw [if_neg (fun z => c_3 (by rw [z]; rfl))], (Kp.trans Kp.rf hk_1)⟩) dX8_asksOf_108
  ·
    refine lv_bipush (v := (-99)) hx hb dX8_asksOf_97 (by decide) ?_
    refine lv_goto (tgt := 103) hx hb dX8_asksOf_99 (by decide) ?_
    refine lv_bipush (v := 99) hx hb dX8_asksOf_103 (by decide) ?_
    refine gw_callP (As := [.int (evalS (Lx (lawN T) pt) (T q) (T 6 2)), .int (-99), .int 99]) (rest := []) F hl.1 (kX8_within) pd_yX8_within ml_RX8_158 st_yX8_within ini_RX8 cd_yX8_within ⟨rfl, rfl⟩ ⟨Nat.le_of_ble_eq_true rfl, Nat.le_of_ble_eq_true rfl⟩ rfl rfl (Nat.le_of_ble_eq_true rfl) ⟨Nat.zero_le _, Nat.zero_le _⟩ dX8_asksOf_105 ?_
    exact hret (if evalS (Lx (lawN T) pt) (T q) (T 6 2) < (-99) then (-99) else if 99 < evalS (Lx (lawN T) pt) (T q) (T 6 2) then 99 else evalS (Lx (lawN T) pt) (T q) (T 6 2)) ρ_2 _ _ _ _ _ hW rfl rfl (by exact ⟨by rw [within_clamp]; unfold saysS saysG lawN; rw [if_pos (nI_i (a := pt) (b := 2) (by omega) (by decide) c_3)], (Kp.trans Kp.rf hk_1)⟩) dX8_asksOf_108
abbrev rm_yX8_mindSet : Room := { frames := 3, cells := 0, slots := 0, locals := 68 }
set_option maxHeartbeats 800000 in
set_option maxRecDepth 100000 in
theorem kX8_mindSet {l : Launch} {D : va_G} {cA : ClassId} {ad : Nat → Nat} {ρ T σ : Nat → Nat → Int32} {sz : Nat} {n q : Nat} {Lx : Lw} (hT : okT n T) (hM : okML n σ Lx) (hq : q < seatsN T) : MMi l yX8_mindSet cX8_mindSet 7 FieldType.int rm_yX8_mindSet [.ref (ad 0), .int (nI q)] D cA ad ρ T σ sz (fun (r : Int32) (u : Nat → Nat → Int32) => r = mindS Lx T q ∧ Kp ρ u) (fun u : Nat → Nat → Int32 => ment ad cA u T σ) := by
  refine gw_stI (Ff := fun u : Nat → Nat → Int32 => ment ad cA u T σ) (own := RX8) (by decide +kernel) rfl (Nat.le_of_ble_eq_true rfl) ?_
  intro p e s m ar below meth c A Q F hE hsz hW hret ls hl
  obtain ⟨hx, hb, hml, hown, hts⟩ := id F
  have hl : lv_has ls 7 [(0, .ref (ad 0)), (1, .int (nI q))] := hl
  have hq6 : q < 6 := seats_le hT hq
  have hs6 := hT.1
  have hsN := hT.2.1
  have hG := hT.2.2.2.2 q hq
  have hor := or_all hG.2.1
  refine lv_aload_n hx hb dX8_mindSet_0 rfl (lv_at hl 0 rfl) ?_
  refine mr_f F hW 1 (by decide) rfl fl_RX8_7 dX8_mindSet_1 ?_
  refine lv_iload_n hx hb dX8_mindSet_4 rfl (lv_at hl 1 rfl) ?_
  refine mr_kind q (by omega) rfl F hW dX8_mindSet_5 ?_
  refine lv_iconst (v := 5) hx hb dX8_mindSet_6 (by decide) ?_
  refine lv_icmp_ne (tgt := 14) hx hb dX8_mindSet_7 (by decide) (fun c_1 => ?_) (fun c_1 => ?_)
  ·
    refine lv_aload_n hx hb dX8_mindSet_14 rfl (lv_at hl 0 rfl) ?_
    refine mr_f F hW 3 (by decide) rfl fl_RX8_16 dX8_mindSet_15 ?_
    refine lv_iconst (v := 5) hx hb dX8_mindSet_18 (by decide) ?_
    refine lv_iload_n hx hb dX8_mindSet_19 rfl (lv_at hl 1 rfl) ?_
    refine lv_imul hx hb dX8_mindSet_20 ?_
    refine mr_rows q 0 (by omega) (by decide) (mi_50 q) F hW dX8_mindSet_21 ?_
    refine lv_istore_n (lv' := [(2, .int (T q 2)), (0, .ref (ad 0)), (1, .int (nI q))]) hx hb dX8_mindSet_22 rfl hl (by decide) rfl (fun ls hl => ?_)
    refine lv_aload_n hx hb dX8_mindSet_23 rfl (lv_at hl 1 rfl) ?_
    refine lv_iconst (v := 0) hx hb dX8_mindSet_24 (by decide) ?_
    refine lv_iload_n hx hb dX8_mindSet_25 rfl (lv_at hl 2 rfl) ?_
    refine gw_callVi (As := [.int 0, .int (nI q)]) (rest := []) F hl.1 hW (fun _ _ _ => trivial) gw_T_E (by decide) (rfl : ment ad cA _ _ _ 0 = _) rfl (kX8_asksOf (n := n) (q := q) (pt := 0) (Lx := Lx) hT hM hq (by decide)) pd_yX8_asksOf ml_RX8_164 im_yX8_asksOf se_yX8_asksOf ini_RX8 cd_yX8_asksOf ⟨rfl, rfl⟩ ⟨Nat.le_of_ble_eq_true rfl, Nat.le_of_ble_eq_true rfl⟩ rfl rfl (Nat.le_of_ble_eq_true rfl) ⟨Nat.zero_le _, Nat.zero_le _⟩ dX8_mindSet_26 (fun r ρ_3 H locs hp hW _ _ => ?_)
    obtain ⟨rfl, hk_2⟩ := hp
    refine lv_as (z := saysS Lx T 0 q) rfl ?_
    refine lv_aload_n hx hb dX8_mindSet_29 rfl (lv_at hl 1 rfl) ?_
    refine mr_f F hW 3 (by decide) rfl fl_RX8_16 dX8_mindSet_30 ?_
    refine lv_iconst (v := 5) hx hb dX8_mindSet_33 (by decide) ?_
    refine lv_iload_n hx hb dX8_mindSet_34 rfl (lv_at hl 2 rfl) ?_
    refine lv_imul hx hb dX8_mindSet_35 ?_
    refine lv_iconst (v := 1) hx hb dX8_mindSet_36 (by decide) ?_
    refine lv_iadd hx hb dX8_mindSet_37 ?_
    refine mr_rows q 1 (by omega) (by decide) (mi_5k q 1) F hW dX8_mindSet_38 ?_
    refine lv_icmp_ge (tgt := 46) hx hb dX8_mindSet_39 (by decide) (fun c_4 => ?_) (fun c_4 => ?_)
    ·
      refine lv_iconst (v := 0) hx hb dX8_mindSet_46 (by decide) ?_
      refine lv_istore_n (lv' := [(3, .int 0), (2, .int (T q 2)), (0, .ref (ad 0)), (1, .int (nI q))]) hx hb dX8_mindSet_47 rfl hl (by decide) rfl (fun ls hl => ?_)
      refine lv_iload_n hx hb dX8_mindSet_48 rfl (lv_at hl 0 rfl) ?_
      refine lv_if_eq (tgt := 58) hx hb dX8_mindSet_49 (by decide) (fun c_5 => ?_) (fun c_5 => ?_)
      ·
        refine lv_iload_n hx hb dX8_mindSet_58 rfl (lv_at hl 1 rfl) ?_
        refine lv_istore (lv' := [(4, .int (T q 2)), (3, .int 0), (2, .int (T q 2)), (0, .ref (ad 0)), (1, .int (nI q))]) hx hb dX8_mindSet_59 hl (by decide) rfl (fun ls hl => ?_)
        refine lv_iload_n hx hb dX8_mindSet_61 rfl (lv_at hl 1 rfl) ?_
        refine lv_if_eq (tgt := 69) hx hb dX8_mindSet_62 (by decide) (fun c_6 => ?_) (fun c_6 => ?_)
        ·
          refine lv_iconst (v := 0) hx hb dX8_mindSet_69 (by decide) ?_
          refine lv_istore (lv' := [(5, .int 0), (4, .int (T q 2)), (3, .int 0), (2, .int (T q 2)), (0, .ref (ad 0)), (1, .int (nI q))]) hx hb dX8_mindSet_70 hl (by decide) rfl (fun ls hl => ?_)
          refine lv_aload_n hx hb dX8_mindSet_72 rfl (lv_at hl 4 rfl) ?_
          refine mr_f F hW 4 (by decide) rfl fl_RX8_76 dX8_mindSet_73 ?_
          refine lv_iconst (v := 2) hx hb dX8_mindSet_76 (by decide) ?_
          refine lv_irem hx hb dX8_mindSet_77 (by decide) ?_
          refine lv_if_ne (tgt := 87) hx hb dX8_mindSet_78 (by decide) (fun c_7 => ?_) (fun c_7 => ?_)
          ·
            refine lv_sipush (v := 682) hx hb dX8_mindSet_87 (by decide) ?_
            refine lv_istore (lv' := [(6, .int 682), (5, .int 0), (4, .int (T q 2)), (3, .int 0), (2, .int (T q 2)), (0, .ref (ad 0)), (1, .int (nI q))]) hx hb dX8_mindSet_90 hl (by decide) rfl (fun ls hl => ?_)
            refine lv_aload_n hx hb dX8_mindSet_92 rfl (lv_at hl 5 rfl) ?_
            refine mr_f F hW 1 (by decide) rfl fl_RX8_7 dX8_mindSet_93 ?_
            refine lv_iload_n hx hb dX8_mindSet_96 rfl (lv_at hl 6 rfl) ?_
            refine mr_kind q (by omega) rfl F hW dX8_mindSet_97 ?_
            by_cases c_8 : T q 0 = 1
            ·
              refine lv_tableIn (off := 30) (tgt := 128) hx hb dX8_mindSet_98 (by rw [c_8]; decide) (by rw [c_8]; decide) (by rw [c_8]; rfl) (by decide) ?_
              refine lv_iload hx hb dX8_mindSet_128 (lv_at hl 2 rfl) ?_
              refine lv_iconst (v := 1) hx hb dX8_mindSet_130 (by decide) ?_
              refine lv_aload_n hx hb dX8_mindSet_131 rfl (lv_at hl 5 rfl) ?_
              refine mr_f F hW 2 (by decide) rfl fl_RX8_13 dX8_mindSet_132 ?_
              refine lv_iload_n hx hb dX8_mindSet_135 rfl (lv_at hl 6 rfl) ?_
              refine mr_more q (by omega) rfl F hW dX8_mindSet_136 ?_
              refine lv_ishl hx hb dX8_mindSet_137 ?_
              refine lv_ior hx hb dX8_mindSet_138 ?_
              exact hret ((T q 2) ||| ((1 : Int32) <<< ((T q 1) &&& 31))) ρ_3 _ _ _ _ _ hW rfl rfl (by exact ⟨by (try simp only [i32_le, Decidable.not_not] at c_1); (try simp only [i32_le, Decidable.not_not] at c_4); (try simp only [i32_le, Decidable.not_not] at c_7); (try simp only [i32_le, Decidable.not_not] at c_8); first | (simp only [mindS, timS, bredS, hungS, remS, oneS, hor, i32_le, c_1, c_4, c_7, c_8, if_true, if_false, not_false_eq_true, not_true_eq_false]; done) | simp [mindS, timS, bredS, hungS, remS, oneS, hor, c_1, c_4, c_7, c_8, i32_le], (Kp.trans Kp.rf hk_2)⟩) dX8_mindSet_139
            ·
              by_cases c_9 : T q 0 = 2
              ·
                refine lv_tableIn (off := 42) (tgt := 140) hx hb dX8_mindSet_98 (by rw [c_9]; decide) (by rw [c_9]; decide) (by rw [c_9]; rfl) (by decide) ?_
                refine lv_iload hx hb dX8_mindSet_140 (lv_at hl 1 rfl) ?_
                exact hret 0 ρ_3 _ _ _ _ _ hW rfl rfl (by exact ⟨by (try simp only [i32_le, Decidable.not_not] at c_1); (try simp only [i32_le, Decidable.not_not] at c_4); (try simp only [i32_le, Decidable.not_not] at c_7); (try simp only [i32_le, Decidable.not_not] at c_8); (try simp only [i32_le, Decidable.not_not] at c_9); first | (simp only [mindS, timS, bredS, hungS, remS, oneS, hor, i32_le, c_1, c_4, c_7, c_8, c_9, if_true, if_false, not_false_eq_true, not_true_eq_false]; done) | simp [mindS, timS, bredS, hungS, remS, oneS, hor, c_1, c_4, c_7, c_8, c_9, i32_le], (Kp.trans Kp.rf hk_2)⟩) dX8_mindSet_142
              ·
                by_cases c_10 : T q 0 = 3
                ·
                  refine lv_tableIn (off := 45) (tgt := 143) hx hb dX8_mindSet_98 (by rw [c_10]; decide) (by rw [c_10]; decide) (by rw [c_10]; rfl) (by decide) ?_
                  refine lv_iload hx hb dX8_mindSet_143 (lv_at hl 2 rfl) ?_
                  refine lv_iconst (v := 1) hx hb dX8_mindSet_145 (by decide) ?_
                  refine lv_aload_n hx hb dX8_mindSet_146 rfl (lv_at hl 5 rfl) ?_
                  refine mr_f F hW 2 (by decide) rfl fl_RX8_13 dX8_mindSet_147 ?_
                  refine lv_iload_n hx hb dX8_mindSet_150 rfl (lv_at hl 6 rfl) ?_
                  refine mr_more q (by omega) rfl F hW dX8_mindSet_151 ?_
                  refine lv_ishl hx hb dX8_mindSet_152 ?_
                  refine lv_ior hx hb dX8_mindSet_153 ?_
                  refine lv_iload hx hb dX8_mindSet_154 (lv_at hl 0 rfl) ?_
                  refine lv_iand hx hb dX8_mindSet_156 ?_
                  exact hret (((T q 2) ||| ((1 : Int32) <<< ((T q 1) &&& 31))) &&& 682) ρ_3 _ _ _ _ _ hW rfl rfl (by exact ⟨by (try simp only [i32_le, Decidable.not_not] at c_1); (try simp only [i32_le, Decidable.not_not] at c_4); (try simp only [i32_le, Decidable.not_not] at c_7); (try simp only [i32_le, Decidable.not_not] at c_8); (try simp only [i32_le, Decidable.not_not] at c_9); (try simp only [i32_le, Decidable.not_not] at c_10); first | (simp only [mindS, timS, bredS, hungS, remS, oneS, hor, i32_le, c_1, c_4, c_7, c_8, c_9, c_10, if_true, if_false, not_false_eq_true, not_true_eq_false]; done) | simp [mindS, timS, bredS, hungS, remS, oneS, hor, c_1, c_4, c_7, c_8, c_9, c_10, i32_le], (Kp.trans Kp.rf hk_2)⟩) dX8_mindSet_157
                ·
                  by_cases c_11 : T q 0 = 4
                  ·
                    refine lv_tableIn (off := 60) (tgt := 158) hx hb dX8_mindSet_98 (by rw [c_11]; decide) (by rw [c_11]; decide) (by rw [c_11]; rfl) (by decide) ?_
                    refine lv_aload_n hx hb dX8_mindSet_158 rfl (lv_at hl 5 rfl) ?_
                    refine mr_f F hW 4 (by decide) rfl fl_RX8_76 dX8_mindSet_159 ?_
                    refine lv_aload_n hx hb dX8_mindSet_162 rfl (lv_at hl 5 rfl) ?_
                    refine mr_f F hW 2 (by decide) rfl fl_RX8_13 dX8_mindSet_163 ?_
                    refine lv_iload_n hx hb dX8_mindSet_166 rfl (lv_at hl 6 rfl) ?_
                    refine mr_more q (by omega) rfl F hW dX8_mindSet_167 ?_
                    refine lv_icmp_ge (tgt := 176) hx hb dX8_mindSet_168 (by decide) (fun c_12 => ?_) (fun c_12 => ?_)
                    ·
                      refine lv_iconst (v := 0) hx hb dX8_mindSet_176 (by decide) ?_
                      exact hret 0 ρ_3 _ _ _ _ _ hW rfl rfl (by exact ⟨by (try simp only [i32_le, Decidable.not_not] at c_1); (try simp only [i32_le, Decidable.not_not] at c_4); (try simp only [i32_le, Decidable.not_not] at c_7); (try simp only [i32_le, Decidable.not_not] at c_8); (try simp only [i32_le, Decidable.not_not] at c_9); (try simp only [i32_le, Decidable.not_not] at c_10); (try simp only [i32_le, Decidable.not_not] at c_11); (try simp only [i32_le, Decidable.not_not] at c_12); first | (simp only [mindS, timS, bredS, hungS, remS, oneS, hor, i32_le, c_1, c_4, c_7, c_8, c_9, c_10, c_11, c_12, if_true, if_false, not_false_eq_true, not_true_eq_false]; done) | simp [mindS, timS, bredS, hungS, remS, oneS, hor, c_1, c_4, c_7, c_8, c_9, c_10, c_11, c_12, i32_le], (Kp.trans Kp.rf hk_2)⟩) dX8_mindSet_177
                    ·
                      refine lv_iload hx hb dX8_mindSet_171 (lv_at hl 1 rfl) ?_
                      refine lv_goto (tgt := 177) hx hb dX8_mindSet_173 (by decide) ?_
                      exact hret 0 ρ_3 _ _ _ _ _ hW rfl rfl (by exact ⟨by (try simp only [i32_le, Decidable.not_not] at c_1); (try simp only [i32_le, Decidable.not_not] at c_4); (try simp only [i32_le, Decidable.not_not] at c_7); (try simp only [i32_le, Decidable.not_not] at c_8); (try simp only [i32_le, Decidable.not_not] at c_9); (try simp only [i32_le, Decidable.not_not] at c_10); (try simp only [i32_le, Decidable.not_not] at c_11); (try simp only [i32_le, Decidable.not_not] at c_12); first | (simp only [mindS, timS, bredS, hungS, remS, oneS, hor, i32_le, c_1, c_4, c_7, c_8, c_9, c_10, c_11, c_12, if_true, if_false, not_false_eq_true, not_true_eq_false]; done) | simp [mindS, timS, bredS, hungS, remS, oneS, hor, c_1, c_4, c_7, c_8, c_9, c_10, c_11, c_12, i32_le], (Kp.trans Kp.rf hk_2)⟩) dX8_mindSet_177
                  ·
                    refine lv_tableOut (tgt := 178) hx hb dX8_mindSet_98 (tb_out4_1 c_8 c_9 c_10 c_11) (by decide) ?_
                    refine lv_iload hx hb dX8_mindSet_178 (lv_at hl 2 rfl) ?_
                    exact hret (T q 2) ρ_3 _ _ _ _ _ hW rfl rfl (by exact ⟨by (try simp only [i32_le, Decidable.not_not] at c_1); (try simp only [i32_le, Decidable.not_not] at c_4); (try simp only [i32_le, Decidable.not_not] at c_7); (try simp only [i32_le, Decidable.not_not] at c_8); (try simp only [i32_le, Decidable.not_not] at c_9); (try simp only [i32_le, Decidable.not_not] at c_10); (try simp only [i32_le, Decidable.not_not] at c_11); first | (simp only [mindS, timS, bredS, hungS, remS, oneS, hor, i32_le, c_1, c_4, c_7, c_8, c_9, c_10, c_11, if_true, if_false, not_false_eq_true, not_true_eq_false]; done) | simp [mindS, timS, bredS, hungS, remS, oneS, hor, c_1, c_4, c_7, c_8, c_9, c_10, c_11, i32_le], (Kp.trans Kp.rf hk_2)⟩) dX8_mindSet_180
          ·
            refine lv_sipush (v := 341) hx hb dX8_mindSet_81 (by decide) ?_
            refine lv_goto (tgt := 90) hx hb dX8_mindSet_84 (by decide) ?_
            refine lv_istore (lv' := [(6, .int 341), (5, .int 0), (4, .int (T q 2)), (3, .int 0), (2, .int (T q 2)), (0, .ref (ad 0)), (1, .int (nI q))]) hx hb dX8_mindSet_90 hl (by decide) rfl (fun ls hl => ?_)
            refine lv_aload_n hx hb dX8_mindSet_92 rfl (lv_at hl 5 rfl) ?_
            refine mr_f F hW 1 (by decide) rfl fl_RX8_7 dX8_mindSet_93 ?_
            refine lv_iload_n hx hb dX8_mindSet_96 rfl (lv_at hl 6 rfl) ?_
            refine mr_kind q (by omega) rfl F hW dX8_mindSet_97 ?_
            by_cases c_13 : T q 0 = 1
            ·
              refine lv_tableIn (off := 30) (tgt := 128) hx hb dX8_mindSet_98 (by rw [c_13]; decide) (by rw [c_13]; decide) (by rw [c_13]; rfl) (by decide) ?_
              refine lv_iload hx hb dX8_mindSet_128 (lv_at hl 2 rfl) ?_
              refine lv_iconst (v := 1) hx hb dX8_mindSet_130 (by decide) ?_
              refine lv_aload_n hx hb dX8_mindSet_131 rfl (lv_at hl 5 rfl) ?_
              refine mr_f F hW 2 (by decide) rfl fl_RX8_13 dX8_mindSet_132 ?_
              refine lv_iload_n hx hb dX8_mindSet_135 rfl (lv_at hl 6 rfl) ?_
              refine mr_more q (by omega) rfl F hW dX8_mindSet_136 ?_
              refine lv_ishl hx hb dX8_mindSet_137 ?_
              refine lv_ior hx hb dX8_mindSet_138 ?_
              exact hret ((T q 2) ||| ((1 : Int32) <<< ((T q 1) &&& 31))) ρ_3 _ _ _ _ _ hW rfl rfl (by exact ⟨by (try simp only [i32_le, Decidable.not_not] at c_1); (try simp only [i32_le, Decidable.not_not] at c_4); (try simp only [i32_le, Decidable.not_not] at c_7); (try simp only [i32_le, Decidable.not_not] at c_13); first | (simp only [mindS, timS, bredS, hungS, remS, oneS, hor, i32_le, c_1, c_4, c_7, c_13, if_true, if_false, not_false_eq_true, not_true_eq_false]; done) | simp [mindS, timS, bredS, hungS, remS, oneS, hor, c_1, c_4, c_7, c_13, i32_le], (Kp.trans Kp.rf hk_2)⟩) dX8_mindSet_139
            ·
              by_cases c_14 : T q 0 = 2
              ·
                refine lv_tableIn (off := 42) (tgt := 140) hx hb dX8_mindSet_98 (by rw [c_14]; decide) (by rw [c_14]; decide) (by rw [c_14]; rfl) (by decide) ?_
                refine lv_iload hx hb dX8_mindSet_140 (lv_at hl 1 rfl) ?_
                exact hret 0 ρ_3 _ _ _ _ _ hW rfl rfl (by exact ⟨by (try simp only [i32_le, Decidable.not_not] at c_1); (try simp only [i32_le, Decidable.not_not] at c_4); (try simp only [i32_le, Decidable.not_not] at c_7); (try simp only [i32_le, Decidable.not_not] at c_13); (try simp only [i32_le, Decidable.not_not] at c_14); first | (simp only [mindS, timS, bredS, hungS, remS, oneS, hor, i32_le, c_1, c_4, c_7, c_13, c_14, if_true, if_false, not_false_eq_true, not_true_eq_false]; done) | simp [mindS, timS, bredS, hungS, remS, oneS, hor, c_1, c_4, c_7, c_13, c_14, i32_le], (Kp.trans Kp.rf hk_2)⟩) dX8_mindSet_142
              ·
                by_cases c_15 : T q 0 = 3
                ·
                  refine lv_tableIn (off := 45) (tgt := 143) hx hb dX8_mindSet_98 (by rw [c_15]; decide) (by rw [c_15]; decide) (by rw [c_15]; rfl) (by decide) ?_
                  refine lv_iload hx hb dX8_mindSet_143 (lv_at hl 2 rfl) ?_
                  refine lv_iconst (v := 1) hx hb dX8_mindSet_145 (by decide) ?_
                  refine lv_aload_n hx hb dX8_mindSet_146 rfl (lv_at hl 5 rfl) ?_
                  refine mr_f F hW 2 (by decide) rfl fl_RX8_13 dX8_mindSet_147 ?_
                  refine lv_iload_n hx hb dX8_mindSet_150 rfl (lv_at hl 6 rfl) ?_
                  refine mr_more q (by omega) rfl F hW dX8_mindSet_151 ?_
                  refine lv_ishl hx hb dX8_mindSet_152 ?_
                  refine lv_ior hx hb dX8_mindSet_153 ?_
                  refine lv_iload hx hb dX8_mindSet_154 (lv_at hl 0 rfl) ?_
                  refine lv_iand hx hb dX8_mindSet_156 ?_
                  exact hret (((T q 2) ||| ((1 : Int32) <<< ((T q 1) &&& 31))) &&& 341) ρ_3 _ _ _ _ _ hW rfl rfl (by exact ⟨by (try simp only [i32_le, Decidable.not_not] at c_1); (try simp only [i32_le, Decidable.not_not] at c_4); (try simp only [i32_le, Decidable.not_not] at c_7); (try simp only [i32_le, Decidable.not_not] at c_13); (try simp only [i32_le, Decidable.not_not] at c_14); (try simp only [i32_le, Decidable.not_not] at c_15); first | (simp only [mindS, timS, bredS, hungS, remS, oneS, hor, i32_le, c_1, c_4, c_7, c_13, c_14, c_15, if_true, if_false, not_false_eq_true, not_true_eq_false]; done) | simp [mindS, timS, bredS, hungS, remS, oneS, hor, c_1, c_4, c_7, c_13, c_14, c_15, i32_le], (Kp.trans Kp.rf hk_2)⟩) dX8_mindSet_157
                ·
                  by_cases c_16 : T q 0 = 4
                  ·
                    refine lv_tableIn (off := 60) (tgt := 158) hx hb dX8_mindSet_98 (by rw [c_16]; decide) (by rw [c_16]; decide) (by rw [c_16]; rfl) (by decide) ?_
                    refine lv_aload_n hx hb dX8_mindSet_158 rfl (lv_at hl 5 rfl) ?_
                    refine mr_f F hW 4 (by decide) rfl fl_RX8_76 dX8_mindSet_159 ?_
                    refine lv_aload_n hx hb dX8_mindSet_162 rfl (lv_at hl 5 rfl) ?_
                    refine mr_f F hW 2 (by decide) rfl fl_RX8_13 dX8_mindSet_163 ?_
                    refine lv_iload_n hx hb dX8_mindSet_166 rfl (lv_at hl 6 rfl) ?_
                    refine mr_more q (by omega) rfl F hW dX8_mindSet_167 ?_
                    refine lv_icmp_ge (tgt := 176) hx hb dX8_mindSet_168 (by decide) (fun c_17 => ?_) (fun c_17 => ?_)
                    ·
                      refine lv_iconst (v := 0) hx hb dX8_mindSet_176 (by decide) ?_
                      exact hret 0 ρ_3 _ _ _ _ _ hW rfl rfl (by exact ⟨by (try simp only [i32_le, Decidable.not_not] at c_1); (try simp only [i32_le, Decidable.not_not] at c_4); (try simp only [i32_le, Decidable.not_not] at c_7); (try simp only [i32_le, Decidable.not_not] at c_13); (try simp only [i32_le, Decidable.not_not] at c_14); (try simp only [i32_le, Decidable.not_not] at c_15); (try simp only [i32_le, Decidable.not_not] at c_16); (try simp only [i32_le, Decidable.not_not] at c_17); first | (simp only [mindS, timS, bredS, hungS, remS, oneS, hor, i32_le, c_1, c_4, c_7, c_13, c_14, c_15, c_16, c_17, if_true, if_false, not_false_eq_true, not_true_eq_false]; done) | simp [mindS, timS, bredS, hungS, remS, oneS, hor, c_1, c_4, c_7, c_13, c_14, c_15, c_16, c_17, i32_le], (Kp.trans Kp.rf hk_2)⟩) dX8_mindSet_177
                    ·
                      refine lv_iload hx hb dX8_mindSet_171 (lv_at hl 1 rfl) ?_
                      refine lv_goto (tgt := 177) hx hb dX8_mindSet_173 (by decide) ?_
                      exact hret 0 ρ_3 _ _ _ _ _ hW rfl rfl (by exact ⟨by (try simp only [i32_le, Decidable.not_not] at c_1); (try simp only [i32_le, Decidable.not_not] at c_4); (try simp only [i32_le, Decidable.not_not] at c_7); (try simp only [i32_le, Decidable.not_not] at c_13); (try simp only [i32_le, Decidable.not_not] at c_14); (try simp only [i32_le, Decidable.not_not] at c_15); (try simp only [i32_le, Decidable.not_not] at c_16); (try simp only [i32_le, Decidable.not_not] at c_17); first | (simp only [mindS, timS, bredS, hungS, remS, oneS, hor, i32_le, c_1, c_4, c_7, c_13, c_14, c_15, c_16, c_17, if_true, if_false, not_false_eq_true, not_true_eq_false]; done) | simp [mindS, timS, bredS, hungS, remS, oneS, hor, c_1, c_4, c_7, c_13, c_14, c_15, c_16, c_17, i32_le], (Kp.trans Kp.rf hk_2)⟩) dX8_mindSet_177
                  ·
                    refine lv_tableOut (tgt := 178) hx hb dX8_mindSet_98 (tb_out4_1 c_13 c_14 c_15 c_16) (by decide) ?_
                    refine lv_iload hx hb dX8_mindSet_178 (lv_at hl 2 rfl) ?_
                    exact hret (T q 2) ρ_3 _ _ _ _ _ hW rfl rfl (by exact ⟨by (try simp only [i32_le, Decidable.not_not] at c_1); (try simp only [i32_le, Decidable.not_not] at c_4); (try simp only [i32_le, Decidable.not_not] at c_7); (try simp only [i32_le, Decidable.not_not] at c_13); (try simp only [i32_le, Decidable.not_not] at c_14); (try simp only [i32_le, Decidable.not_not] at c_15); (try simp only [i32_le, Decidable.not_not] at c_16); first | (simp only [mindS, timS, bredS, hungS, remS, oneS, hor, i32_le, c_1, c_4, c_7, c_13, c_14, c_15, c_16, if_true, if_false, not_false_eq_true, not_true_eq_false]; done) | simp [mindS, timS, bredS, hungS, remS, oneS, hor, c_1, c_4, c_7, c_13, c_14, c_15, c_16, i32_le], (Kp.trans Kp.rf hk_2)⟩) dX8_mindSet_180
        ·
          exact absurd c_6 (by decide)
      ·
        exact absurd c_5 (by decide)
    ·
      refine lv_iconst (v := 1) hx hb dX8_mindSet_42 (by decide) ?_
      refine lv_goto (tgt := 47) hx hb dX8_mindSet_43 (by decide) ?_
      refine lv_istore_n (lv' := [(3, .int 1), (2, .int (T q 2)), (0, .ref (ad 0)), (1, .int (nI q))]) hx hb dX8_mindSet_47 rfl hl (by decide) rfl (fun ls hl => ?_)
      refine lv_iload_n hx hb dX8_mindSet_48 rfl (lv_at hl 0 rfl) ?_
      refine lv_if_eq (tgt := 58) hx hb dX8_mindSet_49 (by decide) (fun c_18 => ?_) (fun c_18 => ?_)
      ·
        exact absurd c_18 (by decide)
      ·
        refine lv_sipush (v := 1023) hx hb dX8_mindSet_52 (by decide) ?_
        refine lv_goto (tgt := 59) hx hb dX8_mindSet_55 (by decide) ?_
        refine lv_istore (lv' := [(4, .int 1023), (3, .int 1), (2, .int (T q 2)), (0, .ref (ad 0)), (1, .int (nI q))]) hx hb dX8_mindSet_59 hl (by decide) rfl (fun ls hl => ?_)
        refine lv_iload_n hx hb dX8_mindSet_61 rfl (lv_at hl 1 rfl) ?_
        refine lv_if_eq (tgt := 69) hx hb dX8_mindSet_62 (by decide) (fun c_19 => ?_) (fun c_19 => ?_)
        ·
          exact absurd c_19 (by decide)
        ·
          refine lv_iload_n hx hb dX8_mindSet_65 rfl (lv_at hl 2 rfl) ?_
          refine lv_goto (tgt := 70) hx hb dX8_mindSet_66 (by decide) ?_
          refine lv_istore (lv' := [(5, .int (T q 2)), (4, .int 1023), (3, .int 1), (2, .int (T q 2)), (0, .ref (ad 0)), (1, .int (nI q))]) hx hb dX8_mindSet_70 hl (by decide) rfl (fun ls hl => ?_)
          refine lv_aload_n hx hb dX8_mindSet_72 rfl (lv_at hl 4 rfl) ?_
          refine mr_f F hW 4 (by decide) rfl fl_RX8_76 dX8_mindSet_73 ?_
          refine lv_iconst (v := 2) hx hb dX8_mindSet_76 (by decide) ?_
          refine lv_irem hx hb dX8_mindSet_77 (by decide) ?_
          refine lv_if_ne (tgt := 87) hx hb dX8_mindSet_78 (by decide) (fun c_20 => ?_) (fun c_20 => ?_)
          ·
            refine lv_sipush (v := 682) hx hb dX8_mindSet_87 (by decide) ?_
            refine lv_istore (lv' := [(6, .int 682), (5, .int (T q 2)), (4, .int 1023), (3, .int 1), (2, .int (T q 2)), (0, .ref (ad 0)), (1, .int (nI q))]) hx hb dX8_mindSet_90 hl (by decide) rfl (fun ls hl => ?_)
            refine lv_aload_n hx hb dX8_mindSet_92 rfl (lv_at hl 5 rfl) ?_
            refine mr_f F hW 1 (by decide) rfl fl_RX8_7 dX8_mindSet_93 ?_
            refine lv_iload_n hx hb dX8_mindSet_96 rfl (lv_at hl 6 rfl) ?_
            refine mr_kind q (by omega) rfl F hW dX8_mindSet_97 ?_
            by_cases c_21 : T q 0 = 1
            ·
              refine lv_tableIn (off := 30) (tgt := 128) hx hb dX8_mindSet_98 (by rw [c_21]; decide) (by rw [c_21]; decide) (by rw [c_21]; rfl) (by decide) ?_
              refine lv_iload hx hb dX8_mindSet_128 (lv_at hl 2 rfl) ?_
              refine lv_iconst (v := 1) hx hb dX8_mindSet_130 (by decide) ?_
              refine lv_aload_n hx hb dX8_mindSet_131 rfl (lv_at hl 5 rfl) ?_
              refine mr_f F hW 2 (by decide) rfl fl_RX8_13 dX8_mindSet_132 ?_
              refine lv_iload_n hx hb dX8_mindSet_135 rfl (lv_at hl 6 rfl) ?_
              refine mr_more q (by omega) rfl F hW dX8_mindSet_136 ?_
              refine lv_ishl hx hb dX8_mindSet_137 ?_
              refine lv_ior hx hb dX8_mindSet_138 ?_
              exact hret (1023 ||| ((1 : Int32) <<< ((T q 1) &&& 31))) ρ_3 _ _ _ _ _ hW rfl rfl (by exact ⟨by (try simp only [i32_le, Decidable.not_not] at c_1); (try simp only [i32_le, Decidable.not_not] at c_4); (try simp only [i32_le, Decidable.not_not] at c_20); (try simp only [i32_le, Decidable.not_not] at c_21); first | (simp only [mindS, timS, bredS, hungS, remS, oneS, hor, i32_le, c_1, c_4, c_20, c_21, if_true, if_false, not_false_eq_true, not_true_eq_false]; done) | simp [mindS, timS, bredS, hungS, remS, oneS, hor, c_1, c_4, c_20, c_21, i32_le], (Kp.trans Kp.rf hk_2)⟩) dX8_mindSet_139
            ·
              by_cases c_22 : T q 0 = 2
              ·
                refine lv_tableIn (off := 42) (tgt := 140) hx hb dX8_mindSet_98 (by rw [c_22]; decide) (by rw [c_22]; decide) (by rw [c_22]; rfl) (by decide) ?_
                refine lv_iload hx hb dX8_mindSet_140 (lv_at hl 1 rfl) ?_
                exact hret (T q 2) ρ_3 _ _ _ _ _ hW rfl rfl (by exact ⟨by (try simp only [i32_le, Decidable.not_not] at c_1); (try simp only [i32_le, Decidable.not_not] at c_4); (try simp only [i32_le, Decidable.not_not] at c_20); (try simp only [i32_le, Decidable.not_not] at c_21); (try simp only [i32_le, Decidable.not_not] at c_22); first | (simp only [mindS, timS, bredS, hungS, remS, oneS, hor, i32_le, c_1, c_4, c_20, c_21, c_22, if_true, if_false, not_false_eq_true, not_true_eq_false]; done) | simp [mindS, timS, bredS, hungS, remS, oneS, hor, c_1, c_4, c_20, c_21, c_22, i32_le], (Kp.trans Kp.rf hk_2)⟩) dX8_mindSet_142
              ·
                by_cases c_23 : T q 0 = 3
                ·
                  refine lv_tableIn (off := 45) (tgt := 143) hx hb dX8_mindSet_98 (by rw [c_23]; decide) (by rw [c_23]; decide) (by rw [c_23]; rfl) (by decide) ?_
                  refine lv_iload hx hb dX8_mindSet_143 (lv_at hl 2 rfl) ?_
                  refine lv_iconst (v := 1) hx hb dX8_mindSet_145 (by decide) ?_
                  refine lv_aload_n hx hb dX8_mindSet_146 rfl (lv_at hl 5 rfl) ?_
                  refine mr_f F hW 2 (by decide) rfl fl_RX8_13 dX8_mindSet_147 ?_
                  refine lv_iload_n hx hb dX8_mindSet_150 rfl (lv_at hl 6 rfl) ?_
                  refine mr_more q (by omega) rfl F hW dX8_mindSet_151 ?_
                  refine lv_ishl hx hb dX8_mindSet_152 ?_
                  refine lv_ior hx hb dX8_mindSet_153 ?_
                  refine lv_iload hx hb dX8_mindSet_154 (lv_at hl 0 rfl) ?_
                  refine lv_iand hx hb dX8_mindSet_156 ?_
                  exact hret ((1023 ||| ((1 : Int32) <<< ((T q 1) &&& 31))) &&& 682) ρ_3 _ _ _ _ _ hW rfl rfl (by exact ⟨by (try simp only [i32_le, Decidable.not_not] at c_1); (try simp only [i32_le, Decidable.not_not] at c_4); (try simp only [i32_le, Decidable.not_not] at c_20); (try simp only [i32_le, Decidable.not_not] at c_21); (try simp only [i32_le, Decidable.not_not] at c_22); (try simp only [i32_le, Decidable.not_not] at c_23); first | (simp only [mindS, timS, bredS, hungS, remS, oneS, hor, i32_le, c_1, c_4, c_20, c_21, c_22, c_23, if_true, if_false, not_false_eq_true, not_true_eq_false]; done) | simp [mindS, timS, bredS, hungS, remS, oneS, hor, c_1, c_4, c_20, c_21, c_22, c_23, i32_le], (Kp.trans Kp.rf hk_2)⟩) dX8_mindSet_157
                ·
                  by_cases c_24 : T q 0 = 4
                  ·
                    refine lv_tableIn (off := 60) (tgt := 158) hx hb dX8_mindSet_98 (by rw [c_24]; decide) (by rw [c_24]; decide) (by rw [c_24]; rfl) (by decide) ?_
                    refine lv_aload_n hx hb dX8_mindSet_158 rfl (lv_at hl 5 rfl) ?_
                    refine mr_f F hW 4 (by decide) rfl fl_RX8_76 dX8_mindSet_159 ?_
                    refine lv_aload_n hx hb dX8_mindSet_162 rfl (lv_at hl 5 rfl) ?_
                    refine mr_f F hW 2 (by decide) rfl fl_RX8_13 dX8_mindSet_163 ?_
                    refine lv_iload_n hx hb dX8_mindSet_166 rfl (lv_at hl 6 rfl) ?_
                    refine mr_more q (by omega) rfl F hW dX8_mindSet_167 ?_
                    refine lv_icmp_ge (tgt := 176) hx hb dX8_mindSet_168 (by decide) (fun c_25 => ?_) (fun c_25 => ?_)
                    ·
                      refine lv_iconst (v := 0) hx hb dX8_mindSet_176 (by decide) ?_
                      exact hret 0 ρ_3 _ _ _ _ _ hW rfl rfl (by exact ⟨by (try simp only [i32_le, Decidable.not_not] at c_1); (try simp only [i32_le, Decidable.not_not] at c_4); (try simp only [i32_le, Decidable.not_not] at c_20); (try simp only [i32_le, Decidable.not_not] at c_21); (try simp only [i32_le, Decidable.not_not] at c_22); (try simp only [i32_le, Decidable.not_not] at c_23); (try simp only [i32_le, Decidable.not_not] at c_24); (try simp only [i32_le, Decidable.not_not] at c_25); first | (simp only [mindS, timS, bredS, hungS, remS, oneS, hor, i32_le, c_1, c_4, c_20, c_21, c_22, c_23, c_24, c_25, if_true, if_false, not_false_eq_true, not_true_eq_false]; done) | simp [mindS, timS, bredS, hungS, remS, oneS, hor, c_1, c_4, c_20, c_21, c_22, c_23, c_24, c_25, i32_le], (Kp.trans Kp.rf hk_2)⟩) dX8_mindSet_177
                    ·
                      refine lv_iload hx hb dX8_mindSet_171 (lv_at hl 1 rfl) ?_
                      refine lv_goto (tgt := 177) hx hb dX8_mindSet_173 (by decide) ?_
                      exact hret (T q 2) ρ_3 _ _ _ _ _ hW rfl rfl (by exact ⟨by (try simp only [i32_le, Decidable.not_not] at c_1); (try simp only [i32_le, Decidable.not_not] at c_4); (try simp only [i32_le, Decidable.not_not] at c_20); (try simp only [i32_le, Decidable.not_not] at c_21); (try simp only [i32_le, Decidable.not_not] at c_22); (try simp only [i32_le, Decidable.not_not] at c_23); (try simp only [i32_le, Decidable.not_not] at c_24); (try simp only [i32_le, Decidable.not_not] at c_25); first | (simp only [mindS, timS, bredS, hungS, remS, oneS, hor, i32_le, c_1, c_4, c_20, c_21, c_22, c_23, c_24, c_25, if_true, if_false, not_false_eq_true, not_true_eq_false]; done) | simp [mindS, timS, bredS, hungS, remS, oneS, hor, c_1, c_4, c_20, c_21, c_22, c_23, c_24, c_25, i32_le], (Kp.trans Kp.rf hk_2)⟩) dX8_mindSet_177
                  ·
                    refine lv_tableOut (tgt := 178) hx hb dX8_mindSet_98 (tb_out4_1 c_21 c_22 c_23 c_24) (by decide) ?_
                    refine lv_iload hx hb dX8_mindSet_178 (lv_at hl 2 rfl) ?_
                    exact hret 1023 ρ_3 _ _ _ _ _ hW rfl rfl (by exact ⟨by (try simp only [i32_le, Decidable.not_not] at c_1); (try simp only [i32_le, Decidable.not_not] at c_4); (try simp only [i32_le, Decidable.not_not] at c_20); (try simp only [i32_le, Decidable.not_not] at c_21); (try simp only [i32_le, Decidable.not_not] at c_22); (try simp only [i32_le, Decidable.not_not] at c_23); (try simp only [i32_le, Decidable.not_not] at c_24); first | (simp only [mindS, timS, bredS, hungS, remS, oneS, hor, i32_le, c_1, c_4, c_20, c_21, c_22, c_23, c_24, if_true, if_false, not_false_eq_true, not_true_eq_false]; done) | simp [mindS, timS, bredS, hungS, remS, oneS, hor, c_1, c_4, c_20, c_21, c_22, c_23, c_24, i32_le], (Kp.trans Kp.rf hk_2)⟩) dX8_mindSet_180
          ·
            refine lv_sipush (v := 341) hx hb dX8_mindSet_81 (by decide) ?_
            refine lv_goto (tgt := 90) hx hb dX8_mindSet_84 (by decide) ?_
            refine lv_istore (lv' := [(6, .int 341), (5, .int (T q 2)), (4, .int 1023), (3, .int 1), (2, .int (T q 2)), (0, .ref (ad 0)), (1, .int (nI q))]) hx hb dX8_mindSet_90 hl (by decide) rfl (fun ls hl => ?_)
            refine lv_aload_n hx hb dX8_mindSet_92 rfl (lv_at hl 5 rfl) ?_
            refine mr_f F hW 1 (by decide) rfl fl_RX8_7 dX8_mindSet_93 ?_
            refine lv_iload_n hx hb dX8_mindSet_96 rfl (lv_at hl 6 rfl) ?_
            refine mr_kind q (by omega) rfl F hW dX8_mindSet_97 ?_
            by_cases c_26 : T q 0 = 1
            ·
              refine lv_tableIn (off := 30) (tgt := 128) hx hb dX8_mindSet_98 (by rw [c_26]; decide) (by rw [c_26]; decide) (by rw [c_26]; rfl) (by decide) ?_
              refine lv_iload hx hb dX8_mindSet_128 (lv_at hl 2 rfl) ?_
              refine lv_iconst (v := 1) hx hb dX8_mindSet_130 (by decide) ?_
              refine lv_aload_n hx hb dX8_mindSet_131 rfl (lv_at hl 5 rfl) ?_
              refine mr_f F hW 2 (by decide) rfl fl_RX8_13 dX8_mindSet_132 ?_
              refine lv_iload_n hx hb dX8_mindSet_135 rfl (lv_at hl 6 rfl) ?_
              refine mr_more q (by omega) rfl F hW dX8_mindSet_136 ?_
              refine lv_ishl hx hb dX8_mindSet_137 ?_
              refine lv_ior hx hb dX8_mindSet_138 ?_
              exact hret (1023 ||| ((1 : Int32) <<< ((T q 1) &&& 31))) ρ_3 _ _ _ _ _ hW rfl rfl (by exact ⟨by (try simp only [i32_le, Decidable.not_not] at c_1); (try simp only [i32_le, Decidable.not_not] at c_4); (try simp only [i32_le, Decidable.not_not] at c_20); (try simp only [i32_le, Decidable.not_not] at c_26); first | (simp only [mindS, timS, bredS, hungS, remS, oneS, hor, i32_le, c_1, c_4, c_20, c_26, if_true, if_false, not_false_eq_true, not_true_eq_false]; done) | simp [mindS, timS, bredS, hungS, remS, oneS, hor, c_1, c_4, c_20, c_26, i32_le], (Kp.trans Kp.rf hk_2)⟩) dX8_mindSet_139
            ·
              by_cases c_27 : T q 0 = 2
              ·
                refine lv_tableIn (off := 42) (tgt := 140) hx hb dX8_mindSet_98 (by rw [c_27]; decide) (by rw [c_27]; decide) (by rw [c_27]; rfl) (by decide) ?_
                refine lv_iload hx hb dX8_mindSet_140 (lv_at hl 1 rfl) ?_
                exact hret (T q 2) ρ_3 _ _ _ _ _ hW rfl rfl (by exact ⟨by (try simp only [i32_le, Decidable.not_not] at c_1); (try simp only [i32_le, Decidable.not_not] at c_4); (try simp only [i32_le, Decidable.not_not] at c_20); (try simp only [i32_le, Decidable.not_not] at c_26); (try simp only [i32_le, Decidable.not_not] at c_27); first | (simp only [mindS, timS, bredS, hungS, remS, oneS, hor, i32_le, c_1, c_4, c_20, c_26, c_27, if_true, if_false, not_false_eq_true, not_true_eq_false]; done) | simp [mindS, timS, bredS, hungS, remS, oneS, hor, c_1, c_4, c_20, c_26, c_27, i32_le], (Kp.trans Kp.rf hk_2)⟩) dX8_mindSet_142
              ·
                by_cases c_28 : T q 0 = 3
                ·
                  refine lv_tableIn (off := 45) (tgt := 143) hx hb dX8_mindSet_98 (by rw [c_28]; decide) (by rw [c_28]; decide) (by rw [c_28]; rfl) (by decide) ?_
                  refine lv_iload hx hb dX8_mindSet_143 (lv_at hl 2 rfl) ?_
                  refine lv_iconst (v := 1) hx hb dX8_mindSet_145 (by decide) ?_
                  refine lv_aload_n hx hb dX8_mindSet_146 rfl (lv_at hl 5 rfl) ?_
                  refine mr_f F hW 2 (by decide) rfl fl_RX8_13 dX8_mindSet_147 ?_
                  refine lv_iload_n hx hb dX8_mindSet_150 rfl (lv_at hl 6 rfl) ?_
                  refine mr_more q (by omega) rfl F hW dX8_mindSet_151 ?_
                  refine lv_ishl hx hb dX8_mindSet_152 ?_
                  refine lv_ior hx hb dX8_mindSet_153 ?_
                  refine lv_iload hx hb dX8_mindSet_154 (lv_at hl 0 rfl) ?_
                  refine lv_iand hx hb dX8_mindSet_156 ?_
                  exact hret ((1023 ||| ((1 : Int32) <<< ((T q 1) &&& 31))) &&& 341) ρ_3 _ _ _ _ _ hW rfl rfl (by exact ⟨by (try simp only [i32_le, Decidable.not_not] at c_1); (try simp only [i32_le, Decidable.not_not] at c_4); (try simp only [i32_le, Decidable.not_not] at c_20); (try simp only [i32_le, Decidable.not_not] at c_26); (try simp only [i32_le, Decidable.not_not] at c_27); (try simp only [i32_le, Decidable.not_not] at c_28); first | (simp only [mindS, timS, bredS, hungS, remS, oneS, hor, i32_le, c_1, c_4, c_20, c_26, c_27, c_28, if_true, if_false, not_false_eq_true, not_true_eq_false]; done) | simp [mindS, timS, bredS, hungS, remS, oneS, hor, c_1, c_4, c_20, c_26, c_27, c_28, i32_le], (Kp.trans Kp.rf hk_2)⟩) dX8_mindSet_157
                ·
                  by_cases c_29 : T q 0 = 4
                  ·
                    refine lv_tableIn (off := 60) (tgt := 158) hx hb dX8_mindSet_98 (by rw [c_29]; decide) (by rw [c_29]; decide) (by rw [c_29]; rfl) (by decide) ?_
                    refine lv_aload_n hx hb dX8_mindSet_158 rfl (lv_at hl 5 rfl) ?_
                    refine mr_f F hW 4 (by decide) rfl fl_RX8_76 dX8_mindSet_159 ?_
                    refine lv_aload_n hx hb dX8_mindSet_162 rfl (lv_at hl 5 rfl) ?_
                    refine mr_f F hW 2 (by decide) rfl fl_RX8_13 dX8_mindSet_163 ?_
                    refine lv_iload_n hx hb dX8_mindSet_166 rfl (lv_at hl 6 rfl) ?_
                    refine mr_more q (by omega) rfl F hW dX8_mindSet_167 ?_
                    refine lv_icmp_ge (tgt := 176) hx hb dX8_mindSet_168 (by decide) (fun c_30 => ?_) (fun c_30 => ?_)
                    ·
                      refine lv_iconst (v := 0) hx hb dX8_mindSet_176 (by decide) ?_
                      exact hret 0 ρ_3 _ _ _ _ _ hW rfl rfl (by exact ⟨by (try simp only [i32_le, Decidable.not_not] at c_1); (try simp only [i32_le, Decidable.not_not] at c_4); (try simp only [i32_le, Decidable.not_not] at c_20); (try simp only [i32_le, Decidable.not_not] at c_26); (try simp only [i32_le, Decidable.not_not] at c_27); (try simp only [i32_le, Decidable.not_not] at c_28); (try simp only [i32_le, Decidable.not_not] at c_29); (try simp only [i32_le, Decidable.not_not] at c_30); first | (simp only [mindS, timS, bredS, hungS, remS, oneS, hor, i32_le, c_1, c_4, c_20, c_26, c_27, c_28, c_29, c_30, if_true, if_false, not_false_eq_true, not_true_eq_false]; done) | simp [mindS, timS, bredS, hungS, remS, oneS, hor, c_1, c_4, c_20, c_26, c_27, c_28, c_29, c_30, i32_le], (Kp.trans Kp.rf hk_2)⟩) dX8_mindSet_177
                    ·
                      refine lv_iload hx hb dX8_mindSet_171 (lv_at hl 1 rfl) ?_
                      refine lv_goto (tgt := 177) hx hb dX8_mindSet_173 (by decide) ?_
                      exact hret (T q 2) ρ_3 _ _ _ _ _ hW rfl rfl (by exact ⟨by (try simp only [i32_le, Decidable.not_not] at c_1); (try simp only [i32_le, Decidable.not_not] at c_4); (try simp only [i32_le, Decidable.not_not] at c_20); (try simp only [i32_le, Decidable.not_not] at c_26); (try simp only [i32_le, Decidable.not_not] at c_27); (try simp only [i32_le, Decidable.not_not] at c_28); (try simp only [i32_le, Decidable.not_not] at c_29); (try simp only [i32_le, Decidable.not_not] at c_30); first | (simp only [mindS, timS, bredS, hungS, remS, oneS, hor, i32_le, c_1, c_4, c_20, c_26, c_27, c_28, c_29, c_30, if_true, if_false, not_false_eq_true, not_true_eq_false]; done) | simp [mindS, timS, bredS, hungS, remS, oneS, hor, c_1, c_4, c_20, c_26, c_27, c_28, c_29, c_30, i32_le], (Kp.trans Kp.rf hk_2)⟩) dX8_mindSet_177
                  ·
                    refine lv_tableOut (tgt := 178) hx hb dX8_mindSet_98 (tb_out4_1 c_26 c_27 c_28 c_29) (by decide) ?_
                    refine lv_iload hx hb dX8_mindSet_178 (lv_at hl 2 rfl) ?_
                    exact hret 1023 ρ_3 _ _ _ _ _ hW rfl rfl (by exact ⟨by (try simp only [i32_le, Decidable.not_not] at c_1); (try simp only [i32_le, Decidable.not_not] at c_4); (try simp only [i32_le, Decidable.not_not] at c_20); (try simp only [i32_le, Decidable.not_not] at c_26); (try simp only [i32_le, Decidable.not_not] at c_27); (try simp only [i32_le, Decidable.not_not] at c_28); (try simp only [i32_le, Decidable.not_not] at c_29); first | (simp only [mindS, timS, bredS, hungS, remS, oneS, hor, i32_le, c_1, c_4, c_20, c_26, c_27, c_28, c_29, if_true, if_false, not_false_eq_true, not_true_eq_false]; done) | simp [mindS, timS, bredS, hungS, remS, oneS, hor, c_1, c_4, c_20, c_26, c_27, c_28, c_29, i32_le], (Kp.trans Kp.rf hk_2)⟩) dX8_mindSet_180
  ·
    refine lv_sipush (v := 1023) hx hb dX8_mindSet_10 (by decide) ?_
    exact hret 1023 ρ _ _ _ _ _ hW rfl rfl (by exact ⟨by (try simp only [i32_le, Decidable.not_not] at c_1); first | (simp only [mindS, timS, bredS, hungS, remS, oneS, hor, i32_le, c_1, if_true, if_false, not_false_eq_true, not_true_eq_false]; done) | simp [mindS, timS, bredS, hungS, remS, oneS, hor, c_1, i32_le], Kp.rf⟩) dX8_mindSet_13
abbrev rm_yX8_eatsOf : Room := { frames := 3, cells := 0, slots := 0, locals := 68 }
set_option maxHeartbeats 800000 in
set_option maxRecDepth 100000 in
theorem kX8_eatsOf {l : Launch} {D : va_G} {cA : ClassId} {ad : Nat → Nat} {ρ T σ : Nat → Nat → Int32} {sz : Nat} {n q : Nat} {Lx : Lw} {a0 : Int32} (hT : okT n T) (hM : okML n σ Lx) (hq : q < seatsN T) : MMi l yX8_eatsOf cX8_eatsOf 4 FieldType.int rm_yX8_eatsOf [.ref (ad 0), .int (nI q), .int a0] D cA ad ρ T σ sz (fun (r : Int32) (u : Nat → Nat → Int32) => r = eatS Lx T q a0 ∧ Kp ρ u) (fun u : Nat → Nat → Int32 => ment ad cA u T σ) := by
  refine gw_stI (Ff := fun u : Nat → Nat → Int32 => ment ad cA u T σ) (own := RX8) (by decide +kernel) rfl (Nat.le_of_ble_eq_true rfl) ?_
  intro p e s m ar below meth c A Q F hE hsz hW hret ls hl
  obtain ⟨hx, hb, hml, hown, hts⟩ := id F
  have hl : lv_has ls 4 [(0, .ref (ad 0)), (1, .int (nI q)), (2, .int a0)] := hl
  have hq6 : q < 6 := seats_le hT hq
  have hs6 := hT.1
  have hsN := hT.2.1
  have hG := hT.2.2.2.2 q hq
  have hk5 : T q 0 = 0 ∨ T q 0 = 1 ∨ T q 0 = 2 ∨ T q 0 = 3 ∨ T q 0 = 4 ∨ T q 0 = 5 := by obtain ⟨j, hj, e⟩ := hG.1; rw [e]; rcases (show j = 0 ∨ j = 1 ∨ j = 2 ∨ j = 3 ∨ j = 4 ∨ j = 5 by omega) with rfl | rfl | rfl | rfl | rfl | rfl <;> simp [nI]
  refine lv_aload_n hx hb dX8_eatsOf_0 rfl (lv_at hl 0 rfl) ?_
  refine mr_f F hW 1 (by decide) rfl fl_RX8_7 dX8_eatsOf_1 ?_
  refine lv_iload_n hx hb dX8_eatsOf_4 rfl (lv_at hl 1 rfl) ?_
  refine mr_kind q (by omega) rfl F hW dX8_eatsOf_5 ?_
  refine lv_iconst (v := 5) hx hb dX8_eatsOf_6 (by decide) ?_
  refine lv_icmp_ne (tgt := 12) hx hb dX8_eatsOf_7 (by decide) (fun c_1 => ?_) (fun c_1 => ?_)
  ·
    refine lv_aload_n hx hb dX8_eatsOf_12 rfl (lv_at hl 0 rfl) ?_
    refine lv_iconst (v := 1) hx hb dX8_eatsOf_13 (by decide) ?_
    refine lv_iload_n hx hb dX8_eatsOf_14 rfl (lv_at hl 1 rfl) ?_
    refine gw_callVi (As := [.int 1, .int (nI q)]) (rest := []) F hl.1 hW (fun _ _ _ => trivial) gw_T_E (by decide) (rfl : ment ad cA _ _ _ 0 = _) rfl (kX8_asksOf (n := n) (q := q) (pt := 1) (Lx := Lx) hT hM hq (by decide)) pd_yX8_asksOf ml_RX8_164 im_yX8_asksOf se_yX8_asksOf ini_RX8 cd_yX8_asksOf ⟨rfl, rfl⟩ ⟨Nat.le_of_ble_eq_true rfl, Nat.le_of_ble_eq_true rfl⟩ rfl rfl (Nat.le_of_ble_eq_true rfl) ⟨Nat.zero_le _, Nat.zero_le _⟩ dX8_eatsOf_15 (fun r ρ_3 H locs hp hW _ _ => ?_)
    obtain ⟨rfl, hk_2⟩ := hp
    refine lv_as (z := saysS Lx T 1 q) rfl ?_
    refine lv_topi (fun v_4 ev_4 => ?_)
    refine lv_istore_n (lv' := [(3, .int v_4), (0, .ref (ad 0)), (1, .int (nI q)), (2, .int a0)]) hx hb dX8_eatsOf_18 rfl hl (by decide) rfl (fun ls hl => ?_)
    refine lv_aload_n hx hb dX8_eatsOf_19 rfl (lv_at hl 1 rfl) ?_
    refine mr_f F hW 1 (by decide) rfl fl_RX8_7 dX8_eatsOf_20 ?_
    refine lv_iload_n hx hb dX8_eatsOf_23 rfl (lv_at hl 2 rfl) ?_
    refine mr_kind q (by omega) rfl F hW dX8_eatsOf_24 ?_
    refine lv_iconst (v := 1) hx hb dX8_eatsOf_25 (by decide) ?_
    refine lv_icmp_eq (tgt := 39) hx hb dX8_eatsOf_26 (by decide) (fun c_5 => ?_) (fun c_5 => ?_)
    ·
      refine lv_iload_n hx hb dX8_eatsOf_39 rfl (lv_at hl 0 rfl) ?_
      refine lv_iconst (v := 2) hx hb dX8_eatsOf_40 (by decide) ?_
      refine lv_idiv hx hb dX8_eatsOf_41 (by decide) ?_
      refine lv_goto (tgt := 61) hx hb dX8_eatsOf_42 (by decide) ?_
      exact hret (v_4 / 2) ρ_3 _ _ _ _ _ hW rfl rfl (by exact ⟨by subst ev_4; (try simp only [i32_le, Decidable.not_not] at c_1); (try simp only [i32_le, Decidable.not_not] at c_5); first | (simp only [eatS, i32_le, c_1, c_5, if_true, if_false, not_false_eq_true, not_true_eq_false]; done) | simp [eatS, c_1, c_5, i32_le], (Kp.trans Kp.rf hk_2)⟩) dX8_eatsOf_61
    ·
      refine lv_aload_n hx hb dX8_eatsOf_29 rfl (lv_at hl 1 rfl) ?_
      refine mr_f F hW 1 (by decide) rfl fl_RX8_7 dX8_eatsOf_30 ?_
      refine lv_iload_n hx hb dX8_eatsOf_33 rfl (lv_at hl 2 rfl) ?_
      refine mr_kind q (by omega) rfl F hW dX8_eatsOf_34 ?_
      refine lv_iconst (v := 3) hx hb dX8_eatsOf_35 (by decide) ?_
      refine lv_icmp_ne (tgt := 45) hx hb dX8_eatsOf_36 (by decide) (fun c_6 => ?_) (fun c_6 => ?_)
      ·
        refine lv_aload_n hx hb dX8_eatsOf_45 rfl (lv_at hl 1 rfl) ?_
        refine mr_f F hW 1 (by decide) rfl fl_RX8_7 dX8_eatsOf_46 ?_
        refine lv_iload_n hx hb dX8_eatsOf_49 rfl (lv_at hl 2 rfl) ?_
        refine mr_kind q (by omega) rfl F hW dX8_eatsOf_50 ?_
        refine lv_if_ne (tgt := 58) hx hb dX8_eatsOf_51 (by decide) (fun c_7 => ?_) (fun c_7 => ?_)
        ·
          refine lv_iload_n hx hb dX8_eatsOf_58 rfl (lv_at hl 0 rfl) ?_
          refine lv_iload_n hx hb dX8_eatsOf_59 rfl (lv_at hl 3 rfl) ?_
          refine lv_iadd hx hb dX8_eatsOf_60 ?_
          exact hret (v_4 + a0) ρ_3 _ _ _ _ _ hW rfl rfl (by have h24 : T q 0 = 2 ∨ T q 0 = 4 := (by rcases hk5 with e | e | e | e | e | e <;> first | exact Or.inl e | exact Or.inr e | exact absurd e c_1 | exact absurd e c_5 | exact absurd e c_6 | exact absurd e c_7); exact ⟨by subst ev_4; unfold eatS; rw [if_neg (fun z => z.elim c_5 c_6), if_pos h24], (Kp.trans Kp.rf hk_2)⟩) dX8_eatsOf_61
        ·
          refine lv_iload_n hx hb dX8_eatsOf_54 rfl (lv_at hl 0 rfl) ?_
          refine lv_goto (tgt := 61) hx hb dX8_eatsOf_55 (by decide) ?_
          exact hret v_4 ρ_3 _ _ _ _ _ hW rfl rfl (by exact ⟨by subst ev_4; (try simp only [i32_le, Decidable.not_not] at c_1); (try simp only [i32_le, Decidable.not_not] at c_5); (try simp only [i32_le, Decidable.not_not] at c_6); (try simp only [i32_le, Decidable.not_not] at c_7); first | (simp only [eatS, i32_le, c_1, c_5, c_6, c_7, if_true, if_false, not_false_eq_true, not_true_eq_false]; done) | simp [eatS, c_1, c_5, c_6, c_7, i32_le], (Kp.trans Kp.rf hk_2)⟩) dX8_eatsOf_61
      ·
        refine lv_iload_n hx hb dX8_eatsOf_39 rfl (lv_at hl 0 rfl) ?_
        refine lv_iconst (v := 2) hx hb dX8_eatsOf_40 (by decide) ?_
        refine lv_idiv hx hb dX8_eatsOf_41 (by decide) ?_
        refine lv_goto (tgt := 61) hx hb dX8_eatsOf_42 (by decide) ?_
        exact hret (v_4 / 2) ρ_3 _ _ _ _ _ hW rfl rfl (by exact ⟨by subst ev_4; (try simp only [i32_le, Decidable.not_not] at c_1); (try simp only [i32_le, Decidable.not_not] at c_5); (try simp only [i32_le, Decidable.not_not] at c_6); first | (simp only [eatS, i32_le, c_1, c_5, c_6, if_true, if_false, not_false_eq_true, not_true_eq_false]; done) | simp [eatS, c_1, c_5, c_6, i32_le], (Kp.trans Kp.rf hk_2)⟩) dX8_eatsOf_61
  ·
    refine lv_iconst (v := 0) hx hb dX8_eatsOf_10 (by decide) ?_
    exact hret 0 ρ _ _ _ _ _ hW rfl rfl (by exact ⟨by (try simp only [i32_le, Decidable.not_not] at c_1); first | (simp only [eatS, i32_le, c_1, if_true, if_false, not_false_eq_true, not_true_eq_false]; done) | simp [eatS, c_1, i32_le], Kp.rf⟩) dX8_eatsOf_11
abbrev rm_yX8_tellsOf : Room := { frames := 3, cells := 0, slots := 0, locals := 68 }
set_option maxHeartbeats 800000 in
set_option maxRecDepth 100000 in
theorem kX8_tellsOf {l : Launch} {D : va_G} {cA : ClassId} {ad : Nat → Nat} {ρ T σ : Nat → Nat → Int32} {sz : Nat} {n q : Nat} {Lx : Lw} (hT : okT n T) (hM : okML n σ Lx) (hq : q < seatsN T) : MMi l yX8_tellsOf cX8_tellsOf 5 FieldType.int rm_yX8_tellsOf [.ref (ad 0), .int (nI q)] D cA ad ρ T σ sz (fun (r : Int32) (u : Nat → Nat → Int32) => r = tellS Lx T q ∧ Kp ρ u) (fun u : Nat → Nat → Int32 => ment ad cA u T σ) := by
  refine gw_stI (Ff := fun u : Nat → Nat → Int32 => ment ad cA u T σ) (own := RX8) (by decide +kernel) rfl (Nat.le_of_ble_eq_true rfl) ?_
  intro p e s m ar below meth c A Q F hE hsz hW hret ls hl
  obtain ⟨hx, hb, hml, hown, hts⟩ := id F
  have hl : lv_has ls 5 [(0, .ref (ad 0)), (1, .int (nI q))] := hl
  have hq6 : q < 6 := seats_le hT hq
  have hs6 := hT.1
  have hsN := hT.2.1
  have hG := hT.2.2.2.2 q hq
  have hz0 : ¬ T 6 1 = 0 := by rw [hsN]; exact nI_ne0 (by omega) (by omega)
  refine lv_aload_n hx hb dX8_tellsOf_0 rfl (lv_at hl 0 rfl) ?_
  refine lv_iconst (v := 2) hx hb dX8_tellsOf_1 (by decide) ?_
  refine lv_iload_n hx hb dX8_tellsOf_2 rfl (lv_at hl 1 rfl) ?_
  refine gw_callVi (As := [.int 2, .int (nI q)]) (rest := []) F hl.1 hW (fun _ _ _ => trivial) gw_T_E (by decide) (rfl : ment ad cA _ _ _ 0 = _) rfl (kX8_asksOf (n := n) (q := q) (pt := 2) (Lx := Lx) hT hM hq (by decide)) pd_yX8_asksOf ml_RX8_164 im_yX8_asksOf se_yX8_asksOf ini_RX8 cd_yX8_asksOf ⟨rfl, rfl⟩ ⟨Nat.le_of_ble_eq_true rfl, Nat.le_of_ble_eq_true rfl⟩ rfl rfl (Nat.le_of_ble_eq_true rfl) ⟨Nat.zero_le _, Nat.zero_le _⟩ dX8_tellsOf_3 (fun r ρ_2 H locs hp hW _ _ => ?_)
  obtain ⟨rfl, hk_1⟩ := hp
  refine lv_as (z := saysS Lx T 2 q) rfl ?_
  refine lv_topi (fun v_3 ev_3 => ?_)
  refine lv_istore_n (lv' := [(2, .int v_3), (0, .ref (ad 0)), (1, .int (nI q))]) hx hb dX8_tellsOf_6 rfl hl (by decide) rfl (fun ls hl => ?_)
  refine lv_aload_n hx hb dX8_tellsOf_7 rfl (lv_at hl 1 rfl) ?_
  refine mr_f F hW 1 (by decide) rfl fl_RX8_7 dX8_tellsOf_8 ?_
  refine lv_iload_n hx hb dX8_tellsOf_11 rfl (lv_at hl 2 rfl) ?_
  refine mr_kind q (by omega) rfl F hW dX8_tellsOf_12 ?_
  refine lv_iconst (v := 3) hx hb dX8_tellsOf_13 (by decide) ?_
  refine lv_icmp_ne (tgt := 22) hx hb dX8_tellsOf_14 (by decide) (fun c_4 => ?_) (fun c_4 => ?_)
  ·
    refine lv_aload_n hx hb dX8_tellsOf_22 rfl (lv_at hl 1 rfl) ?_
    refine mr_f F hW 1 (by decide) rfl fl_RX8_7 dX8_tellsOf_23 ?_
    refine lv_iload_n hx hb dX8_tellsOf_26 rfl (lv_at hl 2 rfl) ?_
    refine mr_kind q (by omega) rfl F hW dX8_tellsOf_27 ?_
    refine lv_iconst (v := 4) hx hb dX8_tellsOf_28 (by decide) ?_
    refine lv_icmp_ne (tgt := 43) hx hb dX8_tellsOf_29 (by decide) (fun c_5 => ?_) (fun c_5 => ?_)
    ·
      refine lv_iload_n hx hb dX8_tellsOf_43 rfl (lv_at hl 0 rfl) ?_
      refine lv_istore_n (lv' := [(3, .int v_3), (2, .int v_3), (0, .ref (ad 0)), (1, .int (nI q))]) hx hb dX8_tellsOf_44 rfl hl (by decide) rfl (fun ls hl => ?_)
      refine lv_iload_n hx hb dX8_tellsOf_45 rfl (lv_at hl 3 rfl) ?_
      refine lv_iload_n hx hb dX8_tellsOf_46 rfl (lv_at hl 0 rfl) ?_
      refine lv_iadd hx hb dX8_tellsOf_47 ?_
      refine lv_aload_n hx hb dX8_tellsOf_48 rfl (lv_at hl 2 rfl) ?_
      refine mr_f F hW 0 (by decide) rfl fl_RX8_69 dX8_tellsOf_49 ?_
      refine lv_irem hx hb dX8_tellsOf_52 hz0 ?_
      refine lv_topi (fun v_6 ev_6 => ?_)
      refine lv_istore (lv' := [(4, .int v_6), (3, .int v_3), (2, .int v_3), (0, .ref (ad 0)), (1, .int (nI q))]) hx hb dX8_tellsOf_53 hl (by decide) rfl (fun ls hl => ?_)
      refine lv_iload hx hb dX8_tellsOf_55 (lv_at hl 0 rfl) ?_
      refine lv_if_ge (tgt := 70) hx hb dX8_tellsOf_57 (by decide) (fun c_7 => ?_) (fun c_7 => ?_)
      ·
        refine lv_iload hx hb dX8_tellsOf_70 (lv_at hl 0 rfl) ?_
        exact hret v_6 ρ_2 _ _ _ _ _ hW rfl rfl (by exact ⟨by subst ev_6 ev_3; (try simp only [i32_le, Decidable.not_not] at c_4); (try simp only [i32_le, Decidable.not_not] at c_5); (try simp only [i32_le, Decidable.not_not] at c_7); first | (simp only [tellS, onS, modS, remS, i32_le, c_4, c_5, c_7, if_true, if_false, not_false_eq_true, not_true_eq_false]; done) | simp [tellS, onS, modS, remS, c_4, c_5, c_7, i32_le], (Kp.trans Kp.rf hk_1)⟩) dX8_tellsOf_72
      ·
        refine lv_iload hx hb dX8_tellsOf_60 (lv_at hl 0 rfl) ?_
        refine lv_aload_n hx hb dX8_tellsOf_62 rfl (lv_at hl 3 rfl) ?_
        refine mr_f F hW 0 (by decide) rfl fl_RX8_69 dX8_tellsOf_63 ?_
        refine lv_iadd hx hb dX8_tellsOf_66 ?_
        refine lv_goto (tgt := 72) hx hb dX8_tellsOf_67 (by decide) ?_
        exact hret (v_6 + (T 6 1)) ρ_2 _ _ _ _ _ hW rfl rfl (by exact ⟨by subst ev_6 ev_3; (try simp only [i32_le, Decidable.not_not] at c_4); (try simp only [i32_le, Decidable.not_not] at c_5); (try simp only [i32_le, Decidable.not_not] at c_7); first | (simp only [tellS, onS, modS, remS, i32_le, c_4, c_5, c_7, if_true, if_false, not_false_eq_true, not_true_eq_false]; done) | simp [tellS, onS, modS, remS, c_4, c_5, c_7, i32_le], (Kp.trans Kp.rf hk_1)⟩) dX8_tellsOf_72
    ·
      refine lv_iload_n hx hb dX8_tellsOf_32 rfl (lv_at hl 0 rfl) ?_
      refine lv_aload_n hx hb dX8_tellsOf_33 rfl (lv_at hl 1 rfl) ?_
      refine mr_f F hW 2 (by decide) rfl fl_RX8_13 dX8_tellsOf_34 ?_
      refine lv_iload_n hx hb dX8_tellsOf_37 rfl (lv_at hl 2 rfl) ?_
      refine mr_more q (by omega) rfl F hW dX8_tellsOf_38 ?_
      refine lv_iadd hx hb dX8_tellsOf_39 ?_
      refine lv_goto (tgt := 44) hx hb dX8_tellsOf_40 (by decide) ?_
      refine lv_topi (fun v_8 ev_8 => ?_)
      refine lv_istore_n (lv' := [(3, .int v_8), (2, .int v_3), (0, .ref (ad 0)), (1, .int (nI q))]) hx hb dX8_tellsOf_44 rfl hl (by decide) rfl (fun ls hl => ?_)
      refine lv_iload_n hx hb dX8_tellsOf_45 rfl (lv_at hl 3 rfl) ?_
      refine lv_iload_n hx hb dX8_tellsOf_46 rfl (lv_at hl 0 rfl) ?_
      refine lv_iadd hx hb dX8_tellsOf_47 ?_
      refine lv_aload_n hx hb dX8_tellsOf_48 rfl (lv_at hl 2 rfl) ?_
      refine mr_f F hW 0 (by decide) rfl fl_RX8_69 dX8_tellsOf_49 ?_
      refine lv_irem hx hb dX8_tellsOf_52 hz0 ?_
      refine lv_topi (fun v_9 ev_9 => ?_)
      refine lv_istore (lv' := [(4, .int v_9), (3, .int v_8), (2, .int v_3), (0, .ref (ad 0)), (1, .int (nI q))]) hx hb dX8_tellsOf_53 hl (by decide) rfl (fun ls hl => ?_)
      refine lv_iload hx hb dX8_tellsOf_55 (lv_at hl 0 rfl) ?_
      refine lv_if_ge (tgt := 70) hx hb dX8_tellsOf_57 (by decide) (fun c_10 => ?_) (fun c_10 => ?_)
      ·
        refine lv_iload hx hb dX8_tellsOf_70 (lv_at hl 0 rfl) ?_
        exact hret v_9 ρ_2 _ _ _ _ _ hW rfl rfl (by exact ⟨by subst ev_9 ev_8 ev_3; (try simp only [i32_le, Decidable.not_not] at c_4); (try simp only [i32_le, Decidable.not_not] at c_5); (try simp only [i32_le, Decidable.not_not] at c_10); first | (simp only [tellS, onS, modS, remS, i32_le, c_4, c_5, c_10, if_true, if_false, not_false_eq_true, not_true_eq_false]; done) | simp [tellS, onS, modS, remS, c_4, c_5, c_10, i32_le], (Kp.trans Kp.rf hk_1)⟩) dX8_tellsOf_72
      ·
        refine lv_iload hx hb dX8_tellsOf_60 (lv_at hl 0 rfl) ?_
        refine lv_aload_n hx hb dX8_tellsOf_62 rfl (lv_at hl 3 rfl) ?_
        refine mr_f F hW 0 (by decide) rfl fl_RX8_69 dX8_tellsOf_63 ?_
        refine lv_iadd hx hb dX8_tellsOf_66 ?_
        refine lv_goto (tgt := 72) hx hb dX8_tellsOf_67 (by decide) ?_
        exact hret (v_9 + (T 6 1)) ρ_2 _ _ _ _ _ hW rfl rfl (by exact ⟨by subst ev_9 ev_8 ev_3; (try simp only [i32_le, Decidable.not_not] at c_4); (try simp only [i32_le, Decidable.not_not] at c_5); (try simp only [i32_le, Decidable.not_not] at c_10); first | (simp only [tellS, onS, modS, remS, i32_le, c_4, c_5, c_10, if_true, if_false, not_false_eq_true, not_true_eq_false]; done) | simp [tellS, onS, modS, remS, c_4, c_5, c_10, i32_le], (Kp.trans Kp.rf hk_1)⟩) dX8_tellsOf_72
  ·
    refine lv_iload_n hx hb dX8_tellsOf_17 rfl (lv_at hl 0 rfl) ?_
    refine lv_ineg hx hb dX8_tellsOf_18 ?_
    refine lv_goto (tgt := 44) hx hb dX8_tellsOf_19 (by decide) ?_
    refine lv_istore_n (lv' := [(3, .int (-v_3)), (2, .int v_3), (0, .ref (ad 0)), (1, .int (nI q))]) hx hb dX8_tellsOf_44 rfl hl (by decide) rfl (fun ls hl => ?_)
    refine lv_iload_n hx hb dX8_tellsOf_45 rfl (lv_at hl 3 rfl) ?_
    refine lv_iload_n hx hb dX8_tellsOf_46 rfl (lv_at hl 0 rfl) ?_
    refine lv_iadd hx hb dX8_tellsOf_47 ?_
    refine lv_aload_n hx hb dX8_tellsOf_48 rfl (lv_at hl 2 rfl) ?_
    refine mr_f F hW 0 (by decide) rfl fl_RX8_69 dX8_tellsOf_49 ?_
    refine lv_irem hx hb dX8_tellsOf_52 hz0 ?_
    refine lv_topi (fun v_11 ev_11 => ?_)
    refine lv_istore (lv' := [(4, .int v_11), (3, .int (-v_3)), (2, .int v_3), (0, .ref (ad 0)), (1, .int (nI q))]) hx hb dX8_tellsOf_53 hl (by decide) rfl (fun ls hl => ?_)
    refine lv_iload hx hb dX8_tellsOf_55 (lv_at hl 0 rfl) ?_
    refine lv_if_ge (tgt := 70) hx hb dX8_tellsOf_57 (by decide) (fun c_12 => ?_) (fun c_12 => ?_)
    ·
      refine lv_iload hx hb dX8_tellsOf_70 (lv_at hl 0 rfl) ?_
      exact hret v_11 ρ_2 _ _ _ _ _ hW rfl rfl (by exact ⟨by subst ev_11 ev_3; (try simp only [i32_le, Decidable.not_not] at c_4); (try simp only [i32_le, Decidable.not_not] at c_12); first | (simp only [tellS, onS, modS, remS, i32_le, c_4, c_12, if_true, if_false, not_false_eq_true, not_true_eq_false]; done) | simp [tellS, onS, modS, remS, c_4, c_12, i32_le], (Kp.trans Kp.rf hk_1)⟩) dX8_tellsOf_72
    ·
      refine lv_iload hx hb dX8_tellsOf_60 (lv_at hl 0 rfl) ?_
      refine lv_aload_n hx hb dX8_tellsOf_62 rfl (lv_at hl 3 rfl) ?_
      refine mr_f F hW 0 (by decide) rfl fl_RX8_69 dX8_tellsOf_63 ?_
      refine lv_iadd hx hb dX8_tellsOf_66 ?_
      refine lv_goto (tgt := 72) hx hb dX8_tellsOf_67 (by decide) ?_
      exact hret (v_11 + (T 6 1)) ρ_2 _ _ _ _ _ hW rfl rfl (by exact ⟨by subst ev_11 ev_3; (try simp only [i32_le, Decidable.not_not] at c_4); (try simp only [i32_le, Decidable.not_not] at c_12); first | (simp only [tellS, onS, modS, remS, i32_le, c_4, c_12, if_true, if_false, not_false_eq_true, not_true_eq_false]; done) | simp [tellS, onS, modS, remS, c_4, c_12, i32_le], (Kp.trans Kp.rf hk_1)⟩) dX8_tellsOf_72
abbrev rm_yX8_actOf : Room := { frames := 4, cells := 0, slots := 0, locals := 94 }
set_option maxHeartbeats 800000 in
set_option maxRecDepth 100000 in
theorem kX8_actOf {l : Launch} {D : va_G} {cA : ClassId} {ad : Nat → Nat} {ρ T σ : Nat → Nat → Int32} {sz : Nat} {n q : Nat} {Lx : Lw} (hT : okT n T) (hM : okML n σ Lx) (hq : q < seatsN T) : MMi l yX8_actOf cX8_actOf 4 FieldType.int rm_yX8_actOf [.ref (ad 0), .int (nI q)] D cA ad ρ T σ sz (fun (r : Int32) (u : Nat → Nat → Int32) => r = actS Lx T q ∧ Kp ρ u) (fun u : Nat → Nat → Int32 => ment ad cA u T σ) := by
  refine gw_stI (Ff := fun u : Nat → Nat → Int32 => ment ad cA u T σ) (own := RX8) (by decide +kernel) rfl (Nat.le_of_ble_eq_true rfl) ?_
  intro p e s m ar below meth c A Q F hE hsz hW hret ls hl
  obtain ⟨hx, hb, hml, hown, hts⟩ := id F
  have hl : lv_has ls 4 [(0, .ref (ad 0)), (1, .int (nI q))] := hl
  have hq6 : q < 6 := seats_le hT hq
  have hs6 := hT.1
  have hsN := hT.2.1
  have hG := hT.2.2.2.2 q hq
  have hd0 := hG.2.2.2.2.2.2
  refine lv_aload_n hx hb dX8_actOf_0 rfl (lv_at hl 0 rfl) ?_
  refine mr_f F hW 3 (by decide) rfl fl_RX8_16 dX8_actOf_1 ?_
  refine lv_iconst (v := 5) hx hb dX8_actOf_4 (by decide) ?_
  refine lv_iload_n hx hb dX8_actOf_5 rfl (lv_at hl 1 rfl) ?_
  refine lv_imul hx hb dX8_actOf_6 ?_
  refine lv_iconst (v := 4) hx hb dX8_actOf_7 (by decide) ?_
  refine lv_iadd hx hb dX8_actOf_8 ?_
  refine mr_rows q 4 (by omega) (by decide) (mi_5k q 4) F hW dX8_actOf_9 ?_
  refine lv_iconst (v := 1) hx hb dX8_actOf_10 (by decide) ?_
  refine lv_icmp_ne (tgt := 16) hx hb dX8_actOf_11 (by decide) (fun c_1 => ?_) (fun c_1 => ?_)
  ·
    refine lv_aload_n hx hb dX8_actOf_16 rfl (lv_at hl 0 rfl) ?_
    refine lv_iload_n hx hb dX8_actOf_17 rfl (lv_at hl 1 rfl) ?_
    refine gw_callVi (As := [.int (nI q)]) (rest := []) F hl.1 hW (fun _ _ _ => trivial) gw_T_E (by decide) (rfl : ment ad cA _ _ _ 0 = _) rfl (kX8_mindSet (n := n) (q := q) (Lx := Lx) hT hM hq) pd_yX8_mindSet ml_RX8_167 im_yX8_mindSet se_yX8_mindSet ini_RX8 cd_yX8_mindSet ⟨rfl, rfl⟩ ⟨Nat.le_of_ble_eq_true rfl, Nat.le_of_ble_eq_true rfl⟩ rfl rfl (Nat.le_of_ble_eq_true rfl) ⟨Nat.zero_le _, Nat.zero_le _⟩ dX8_actOf_18 (fun r ρ_3 H locs hp hW _ _ => ?_)
    obtain ⟨rfl, hk_2⟩ := hp
    refine lv_as (z := mindS Lx T q) rfl ?_
    refine lv_topi (fun v_4 ev_4 => ?_)
    refine lv_istore_n (lv' := [(2, .int v_4), (0, .ref (ad 0)), (1, .int (nI q))]) hx hb dX8_actOf_21 rfl hl (by decide) rfl (fun ls hl => ?_)
    refine lv_iconst (v := 0) hx hb dX8_actOf_22 (by decide) ?_
    refine lv_istore_n (lv' := [(3, .int 0), (2, .int v_4), (0, .ref (ad 0)), (1, .int (nI q))]) hx hb dX8_actOf_23 rfl hl (by decide) rfl (fun ls hl => ?_)
    have hA : actS Lx T q = firstS (mindS Lx T q) 10 0 := by unfold actS; rw [if_pos (hd0.resolve_right c_1)]
    generalize hR0 : firstS (mindS Lx T q) 10 0 = RES at hA
    rw [← ev_4] at hR0
    have L24 : ∀ (k : Nat) (i f : Nat), (i + f = 10) → (11 ≤ i + k) → (firstS v_4 f i = RES) → ∀ (H : Heap) (locs : List Loc) (ls : Array Slot), MW D cA ad ρ_3 T σ A s s.heap H locs → lv_has ls 4 [(3, .int (nI i)), (2, .int v_4), (0, .ref (ad 0)), (1, .int (nI q))] → W p l e rm_yX8_actOf s m ar below meth c H locs 0 0 Q (F0 m 24 ls []) := by
      intro k
      induction k with
      | zero => intro i f h1 h2 hRR; exact absurd h2 (by omega)
      | succ k ih24 =>
        intro i f h1 h2 hRR H locs ls hW hl
        refine lv_iload_n hx hb dX8_actOf_24 rfl (lv_at hl 0 rfl) ?_
        refine lv_bipush (v := 10) hx hb dX8_actOf_25 (by decide) ?_
        refine lv_icmp_ge (tgt := 46) hx hb dX8_actOf_27 (by decide) (fun c_5 => ?_) (fun c_5 => ?_)
        ·
          obtain rfl : f = 0 := by have := mi_le (a := 10) (b := i) c_5 (by decide) (by omega); omega
          refine lv_iconst (v := (-1)) hx hb dX8_actOf_46 (by decide) ?_
          exact hret (-1) ρ_3 _ _ _ _ _ hW rfl rfl (by rw [hA, ← hRR]; exact ⟨rfl, (Kp.trans Kp.rf hk_2)⟩) dX8_actOf_47
        ·
          have hlt : i < 10 := mi_nle (a := 10) (b := i) c_5 (by decide) (by omega); obtain ⟨f', rfl⟩ : ∃ z, f = z + 1 := ⟨f - 1, by omega⟩
          refine lv_iload_n hx hb dX8_actOf_30 rfl (lv_at hl 1 rfl) ?_
          refine lv_iload_n hx hb dX8_actOf_31 rfl (lv_at hl 0 rfl) ?_
          refine lv_ishr hx hb dX8_actOf_32 ?_
          refine lv_iconst (v := 1) hx hb dX8_actOf_33 (by decide) ?_
          refine lv_iand hx hb dX8_actOf_34 ?_
          refine lv_if_ne (tgt := 40) hx hb dX8_actOf_35 (by decide) (fun c_6 => ?_) (fun c_6 => ?_)
          ·
            refine lv_iinc (v := nI (i + 1)) (lv' := [(3, .int (nI (i + 1))), (2, .int v_4), (0, .ref (ad 0)), (1, .int (nI q))]) hx hb dX8_actOf_40 hl (k := 0) rfl (nI_1 i) (by decide) rfl (fun ls hl => ?_)
            refine lv_goto (tgt := 24) hx hb dX8_actOf_43 (by decide) ?_
            exact ih24 (i + 1) f' (by omega) (by omega) (by rw [← hRR]; exact (if_pos (bit_0.resolve_left c_6)).symm) _ _ _ hW (lv_sub hl [0, 1, 2, 3] rfl)
          ·
            refine lv_iload_n hx hb dX8_actOf_38 rfl (lv_at hl 0 rfl) ?_
            exact hret (nI i) ρ_3 _ _ _ _ _ hW rfl rfl (by rw [hA, ← hRR]; exact ⟨(if_neg (fun z => absurd ((c_6).symm.trans z) (by decide))).symm, (Kp.trans Kp.rf hk_2)⟩) dX8_actOf_39
    exact L24 11 0 10 (by omega) (by omega) (hR0) _ _ _ hW (lv_sub hl [0, 1, 2, 3] rfl)
  ·
    refine lv_iconst (v := 0) hx hb dX8_actOf_14 (by decide) ?_
    exact hret 0 ρ _ _ _ _ _ hW rfl rfl (by unfold actS; rw [if_neg (by rw [c_1]; decide)]; exact ⟨rfl, Kp.rf⟩) dX8_actOf_15
