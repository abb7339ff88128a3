/-! ===== the reference: who is stuck; a minute; what is kept and laid back ===== -/
theorem mind_upto {n q : Nat} {Lx : Lw} {T : Tb} (hT : okT n T) (hq : q < seatsN T) : upto 1024 (mindS Lx T q) := by
  have hG := hT.2.2.2.2 q hq
  have h0 : upto 1024 (0 : Int32) := ⟨0, by decide, rfl⟩
  have ha : upto 1024 (1023 : Int32) := ⟨1023, by decide, rfl⟩
  have hb : ∀ tm, upto 1024 (bredS (T q) tm) := fun tm => by
    unfold bredS
    split
    · obtain ⟨j, hj, e⟩ := hG.2.1
      rw [e]; exact or_upto hG.2.2.1 hj
    · exact ha
  have hh : ∀ tm, upto 1024 (hungS (T q) tm) := fun tm => by
    unfold hungS
    split
    · exact h0
    · exact hG.2.2.1
  unfold mindS
  split
  · exact hb _
  · split
    · exact hh _
    · split
      · exact and_upto (hb _) (any_upto _)
      · split
        · split
          · exact hh _
          · exact h0
        · split
          · exact ha
          · split
            · exact hG.2.2.1
            · exact ha
theorem first_all : ∀ j, j < 1024 → (firstS (nI j) 10 0 = -1 ↔ nI j = 1023) := by
  have h : (List.range 1024).all (fun j => decide (firstS (nI j) 10 0 = -1 ↔ nI j = 1023)) = true := by decide +kernel
  intro j hj
  exact of_decide_eq_true (List.all_eq_true.mp h j (List.mem_range.mpr hj))
theorem act_stuck {n q : Nat} {Lx : Lw} {T : Tb} (hT : okT n T) (hq : q < seatsN T) : (if actS Lx T q = -1 then (1 : Int32) else 0) = stuckS Lx T q := by
  obtain ⟨j, hj, e⟩ := mind_upto (Lx := Lx) hT hq
  unfold actS stuckS
  by_cases h6 : T q 6 = 0
  · rw [if_pos h6, if_pos h6, e]
    by_cases h : nI j = 1023
    · rw [if_pos h, if_pos ((first_all j hj).mpr h)]
    · rw [if_neg h, if_neg (fun z => h ((first_all j hj).mp z))]
  · rw [if_neg h6, if_neg h6, if_neg (by decide)]
theorem stuck_01 (Lx : Lw) (T : Tb) (q : Nat) : stuckS Lx T q = 0 ∨ stuckS Lx T q = 1 := by
  unfold stuckS
  split
  · split
    · exact Or.inr rfl
    · exact Or.inl rfl
  · exact Or.inl rfl
theorem upT_com {T : Tb} {q k q2 k2 : Nat} {v w : Int32} (h : ¬ (q = q2 ∧ k = k2)) : upT (upT T q k v) q2 k2 w = upT (upT T q2 k2 w) q k v := by
  funext z j
  by_cases h1 : z = q ∧ j = k
  · obtain ⟨rfl, rfl⟩ := h1
    rw [upT_ne h, upT_at, upT_at]
  · by_cases h2 : z = q2 ∧ j = k2
    · obtain ⟨rfl, rfl⟩ := h2
      rw [upT_at, upT_ne h1, upT_at]
    · rw [upT_ne h2, upT_ne h1, upT_ne h1, upT_ne h2]
theorem done_eq {T : Tb} {q h : Nat} {e a : Int32} (hh : h ≠ q) : upT (upT (upT (upT T q 5 (min99 (T q 5 + e))) q 2 (T q 2 ||| oneS a)) q 6 0) h 2 (T h 2 ^^^ oneS a) = doneS T q h e a := by
  unfold doneS
  dsimp only
  have e1 : ∀ v, upT T q 5 v q 2 = T q 2 := fun v => upT_ne (by omega)
  rw [if_neg hh, upT_com (by omega), e1]
  have e2 : ∀ v w, upT (upT T q 5 v) q 2 w h 2 = T h 2 := fun v w => by rw [upT_ne (by omega), upT_ne (by omega)]
  rw [e2]
theorem done_self {T : Tb} {q : Nat} {e a : Int32} : upT (upT (upT T q 5 (min99 (T q 5 + e))) q 2 (T q 2 ||| oneS a)) q 6 0 = doneS T q q e a := by
  unfold doneS
  dsimp only
  have e1 : ∀ v, upT T q 5 v q 2 = T q 2 := fun v => upT_ne (by omega)
  rw [if_pos rfl, e1]
abbrev rm_yX8_isStuck : Room := { frames := 5, cells := 0, slots := 0, locals := 117 }
set_option maxHeartbeats 800000 in
set_option maxRecDepth 100000 in
theorem kX8_isStuck {l : Launch} {D : va_G} {cA : ClassId} {ad : Nat → Nat} {ρ T σ : Nat → Nat → Int32} {sz : Nat} {n q : Nat} {Lx : Lw} (hT : okT n T) (hM : okML n σ Lx) (hq : q < seatsN T) : MMi l yX8_isStuck cX8_isStuck 2 FieldType.boolean rm_yX8_isStuck [.ref (ad 0), .int (nI q)] D cA ad ρ T σ sz (fun (r : Int32) (u : Nat → Nat → Int32) => r = stuckS Lx T q ∧ Kp ρ u) (fun u : Nat → Nat → Int32 => ment ad cA u T σ) := by
  refine gw_stI (Ff := fun u : Nat → Nat → Int32 => ment ad cA u T σ) (own := RX8) (by decide +kernel) rfl (Nat.le_of_ble_eq_true rfl) ?_
  intro p e s m ar below meth c A Q F hE hsz hW hret ls hl
  obtain ⟨hx, hb, hml, hown, hts⟩ := id F
  have hl : lv_has ls 2 [(0, .ref (ad 0)), (1, .int (nI q))] := hl
  have hq6 : q < 6 := seats_le hT hq
  have hs6 := hT.1
  have hsN := hT.2.1
  have hG := hT.2.2.2.2 q hq
  refine lv_aload_n hx hb dX8_isStuck_0 rfl (lv_at hl 0 rfl) ?_
  refine lv_iload_n hx hb dX8_isStuck_1 rfl (lv_at hl 1 rfl) ?_
  refine gw_callVi (As := [.int (nI q)]) (rest := []) F hl.1 hW (fun _ _ _ => trivial) gw_T_E (by decide) (rfl : ment ad cA _ _ _ 0 = _) rfl (kX8_actOf (n := n) (q := q) (Lx := Lx) hT hM hq) pd_yX8_actOf ml_RX8_170 im_yX8_actOf se_yX8_actOf ini_RX8 cd_yX8_actOf ⟨rfl, rfl⟩ ⟨Nat.le_of_ble_eq_true rfl, Nat.le_of_ble_eq_true rfl⟩ rfl rfl (Nat.le_of_ble_eq_true rfl) ⟨Nat.zero_le _, Nat.zero_le _⟩ dX8_isStuck_2 (fun r ρ_2 H locs hp hW _ _ => ?_)
  obtain ⟨rfl, hk_1⟩ := hp
  refine lv_as (z := actS Lx T q) rfl ?_
  refine lv_iconst (v := (-1)) hx hb dX8_isStuck_5 (by decide) ?_
  refine lv_icmp_ne (tgt := 13) hx hb dX8_isStuck_6 (by decide) (fun c_3 => ?_) (fun c_3 => ?_)
  ·
    refine lv_iconst (v := 0) hx hb dX8_isStuck_13 (by decide) ?_
    exact hret 0 ρ_2 _ _ _ _ _ hW rfl rfl (by rw [← act_stuck hT hq, if_neg c_3]; exact ⟨rfl, (Kp.trans Kp.rf hk_1)⟩) dX8_isStuck_14
  ·
    refine lv_iconst (v := 1) hx hb dX8_isStuck_9 (by decide) ?_
    refine lv_goto (tgt := 14) hx hb dX8_isStuck_10 (by decide) ?_
    exact hret 1 ρ_2 _ _ _ _ _ hW rfl rfl (by rw [← act_stuck hT hq, if_pos c_3]; exact ⟨rfl, (Kp.trans Kp.rf hk_1)⟩) dX8_isStuck_14
abbrev rm_yX8_stuckSet : Room := { frames := 6, cells := 0, slots := 0, locals := 138 }
set_option maxHeartbeats 800000 in
set_option maxRecDepth 100000 in
theorem kX8_stuckSet {l : Launch} {D : va_G} {cA : ClassId} {ad : Nat → Nat} {ρ T σ : Nat → Nat → Int32} {sz : Nat} {n : Nat} {Lx : Lw} (hT : okT n T) (hM : okML n σ Lx) : MMi l yX8_stuckSet cX8_stuckSet 3 FieldType.int rm_yX8_stuckSet [.ref (ad 0)] D cA ad ρ T σ sz (fun (r : Int32) (u : Nat → Nat → Int32) => r = stuckBS Lx T ∧ Kp ρ u) (fun u : Nat → Nat → Int32 => ment ad cA u T σ) := by
  refine gw_stI (Ff := fun u : Nat → Nat → Int32 => ment ad cA u T σ) (own := RX8) (by decide +kernel) rfl (Nat.le_of_ble_eq_true rfl) ?_
  intro p e s m ar below meth c A Q F hE hsz hW hret ls hl
  obtain ⟨hx, hb, hml, hown, hts⟩ := id F
  have hl : lv_has ls 3 [(0, .ref (ad 0))] := hl
  have hs6 := hT.1
  have hsN := hT.2.1
  refine lv_iconst (v := 0) hx hb dX8_stuckSet_0 (by decide) ?_
  refine lv_istore_n (lv' := [(1, .int 0), (0, .ref (ad 0))]) hx hb dX8_stuckSet_1 rfl hl (by decide) rfl (fun ls hl => ?_)
  refine lv_iconst (v := 0) hx hb dX8_stuckSet_2 (by decide) ?_
  refine lv_istore_n (lv' := [(2, .int 0), (1, .int 0), (0, .ref (ad 0))]) hx hb dX8_stuckSet_3 rfl hl (by decide) rfl (fun ls hl => ?_)
  have L4 : ∀ (k : Nat) (i : Nat) (ρ' : Nat → Nat → Int32) (x : Int32), (i ≤ seatsN T) → (seatsN T + 1 ≤ i + k) → (Kp ρ ρ') → (x = stuckK Lx T i) → ∀ (H : Heap) (locs : List Loc) (ls : Array Slot), MW D cA ad ρ' T σ A s s.heap H locs → lv_has ls 3 [(2, .int (nI i)), (1, .int x), (0, .ref (ad 0))] → W p l e rm_yX8_stuckSet s m ar below meth c H locs 0 0 Q (F0 m 4 ls []) := by
    intro k
    induction k with
    | zero => intro i ρ' x h1 h2 hkp hxx; exact absurd h2 (by omega)
    | succ k ih4 =>
      intro i ρ' x h1 h2 hkp hxx H locs ls hW hl
      refine lv_iload_n hx hb dX8_stuckSet_4 rfl (lv_at hl 0 rfl) ?_
      refine lv_aload_n hx hb dX8_stuckSet_5 rfl (lv_at hl 2 rfl) ?_
      refine mr_f F hW 0 (by decide) rfl fl_RX8_69 dX8_stuckSet_6 ?_
      refine lv_as (z := nI (seatsN T)) (hsN) ?_
      refine lv_icmp_ge (tgt := 36) hx hb dX8_stuckSet_9 (by decide) (fun c_1 => ?_) (fun c_1 => ?_)
      ·
        obtain rfl : i = seatsN T := by have := mi_le (a := seatsN T) (b := i) c_1 (by omega) (by omega); omega
        refine lv_iload_n hx hb dX8_stuckSet_36 rfl (lv_at hl 1 rfl) ?_
        exact hret x ρ' _ _ _ _ _ hW rfl rfl (⟨hxx, hkp⟩) dX8_stuckSet_37
      ·
        have hlt : i < seatsN T := mi_nle (a := seatsN T) (b := i) c_1 (by omega) (by omega)
        refine lv_iload_n hx hb dX8_stuckSet_12 rfl (lv_at hl 1 rfl) ?_
        refine lv_aload_n hx hb dX8_stuckSet_13 rfl (lv_at hl 2 rfl) ?_
        refine lv_iload_n hx hb dX8_stuckSet_14 rfl (lv_at hl 0 rfl) ?_
        refine gw_callVi (As := [.int (nI i)]) (rest := [.int x]) F hl.1 hW (fun _ _ _ => trivial) gw_T_E (by decide) (rfl : ment ad cA _ _ _ 0 = _) rfl (kX8_isStuck (n := n) (q := i) (Lx := Lx) hT hM hlt) pd_yX8_isStuck ml_RX8_173 im_yX8_isStuck se_yX8_isStuck ini_RX8 cd_yX8_isStuck ⟨rfl, rfl⟩ ⟨Nat.le_of_ble_eq_true rfl, Nat.le_of_ble_eq_true rfl⟩ rfl rfl (Nat.le_of_ble_eq_true rfl) ⟨Nat.zero_le _, Nat.zero_le _⟩ dX8_stuckSet_15 (fun r ρ_3 H locs hp hW _ _ => ?_)
        obtain ⟨rfl, hk_2⟩ := hp
        refine lv_as (z := stuckS Lx T i) rfl ?_
        refine lv_if_eq (tgt := 27) hx hb dX8_stuckSet_18 (by decide) (fun c_4 => ?_) (fun c_4 => ?_)
        ·
          refine lv_iconst (v := 0) hx hb dX8_stuckSet_27 (by decide) ?_
          refine lv_ior hx hb dX8_stuckSet_28 ?_
          refine lv_istore_n (lv' := [(1, .int (x ||| 0)), (2, .int (nI i)), (0, .ref (ad 0))]) hx hb dX8_stuckSet_29 rfl hl (by decide) rfl (fun ls hl => ?_)
          refine lv_iinc (v := nI (i + 1)) (lv' := [(2, .int (nI (i + 1))), (1, .int (x ||| 0)), (0, .ref (ad 0))]) hx hb dX8_stuckSet_30 hl (k := 1) rfl (nI_1 i) (by decide) rfl (fun ls hl => ?_)
          refine lv_goto (tgt := 4) hx hb dX8_stuckSet_33 (by decide) ?_
          exact ih4 (i + 1) ρ_3 _ (by omega) (by omega) ((Kp.trans hkp hk_2)) (by show _ = (if stuckS Lx T i = 0 then _ else _); rw [if_pos c_4, hxx]; exact Int32.or_zero) _ _ _ hW (lv_sub hl [0, 1, 2] rfl)
        ·
          refine lv_iconst (v := 1) hx hb dX8_stuckSet_21 (by decide) ?_
          refine lv_iload_n hx hb dX8_stuckSet_22 rfl (lv_at hl 0 rfl) ?_
          refine lv_ishl hx hb dX8_stuckSet_23 ?_
          refine lv_goto (tgt := 28) hx hb dX8_stuckSet_24 (by decide) ?_
          refine lv_ior hx hb dX8_stuckSet_28 ?_
          refine lv_topi (fun v_5 ev_5 => ?_)
          refine lv_istore_n (lv' := [(1, .int v_5), (2, .int (nI i)), (0, .ref (ad 0))]) hx hb dX8_stuckSet_29 rfl hl (by decide) rfl (fun ls hl => ?_)
          refine lv_iinc (v := nI (i + 1)) (lv' := [(2, .int (nI (i + 1))), (1, .int v_5), (0, .ref (ad 0))]) hx hb dX8_stuckSet_30 hl (k := 1) rfl (nI_1 i) (by decide) rfl (fun ls hl => ?_)
          refine lv_goto (tgt := 4) hx hb dX8_stuckSet_33 (by decide) ?_
          exact ih4 (i + 1) ρ_3 _ (by omega) (by omega) ((Kp.trans hkp hk_2)) (by subst ev_5; show _ = (if stuckS Lx T i = 0 then _ else _); rw [if_neg c_4, hxx]; rfl) _ _ _ hW (lv_sub hl [0, 1, 2] rfl)
  exact L4 (seatsN T + 1) 0 _ _ (Nat.zero_le _) (by omega) (Kp.rf) (rfl) _ _ _ hW (lv_sub hl [0, 1, 2] rfl)
abbrev rm_yX8_ateAll : Room := { frames := 0, cells := 0, slots := 0, locals := 0 }
set_option maxHeartbeats 800000 in
set_option maxRecDepth 100000 in
theorem kX8_ateAll {l : Launch} {D : va_G} {cA : ClassId} {ad : Nat → Nat} {ρ T σ : Nat → Nat → Int32} {sz : Nat} {n : Nat} (hT : okT n T) : MMi l yX8_ateAll cX8_ateAll 3 FieldType.int rm_yX8_ateAll [.ref (ad 0)] D cA ad ρ T σ sz (fun (r : Int32) (u : Unit) => r = ateS T) (fun u : Unit => ment ad cA ρ T σ) := by
  refine gw_stI (Ff := fun u : Unit => ment ad cA ρ T σ) (own := RX8) (by decide +kernel) rfl (Nat.le_of_ble_eq_true rfl) ?_
  intro p e s m ar below meth c A Q F hE hsz hW hret ls hl
  obtain ⟨hx, hb, hml, hown, hts⟩ := id F
  have hl : lv_has ls 3 [(0, .ref (ad 0))] := hl
  have hs6 := hT.1
  have hsN := hT.2.1
  refine lv_iconst (v := 0) hx hb dX8_ateAll_0 (by decide) ?_
  refine lv_istore_n (lv' := [(1, .int 0), (0, .ref (ad 0))]) hx hb dX8_ateAll_1 rfl hl (by decide) rfl (fun ls hl => ?_)
  refine lv_iconst (v := 0) hx hb dX8_ateAll_2 (by decide) ?_
  refine lv_istore_n (lv' := [(2, .int 0), (1, .int 0), (0, .ref (ad 0))]) hx hb dX8_ateAll_3 rfl hl (by decide) rfl (fun ls hl => ?_)
  have L4 : ∀ (k : Nat) (i : Nat) (x : Int32), (i ≤ seatsN T) → (seatsN T + 1 ≤ i + k) → (x = ateK T i) → ∀ (H : Heap) (locs : List Loc) (ls : Array Slot), MW D cA ad ρ T σ A s s.heap H locs → lv_has ls 3 [(2, .int (nI i)), (1, .int x), (0, .ref (ad 0))] → W p l e rm_yX8_ateAll s m ar below meth c H locs 0 0 Q (F0 m 4 ls []) := by
    intro k
    induction k with
    | zero => intro i x h1 h2 hxx; exact absurd h2 (by omega)
    | succ k ih4 =>
      intro i x h1 h2 hxx H locs ls hW hl
      refine lv_iload_n hx hb dX8_ateAll_4 rfl (lv_at hl 0 rfl) ?_
      refine lv_aload_n hx hb dX8_ateAll_5 rfl (lv_at hl 2 rfl) ?_
      refine mr_f F hW 0 (by decide) rfl fl_RX8_69 dX8_ateAll_6 ?_
      refine lv_as (z := nI (seatsN T)) (hsN) ?_
      refine lv_icmp_ge (tgt := 31) hx hb dX8_ateAll_9 (by decide) (fun c_1 => ?_) (fun c_1 => ?_)
      ·
        obtain rfl : i = seatsN T := by have := mi_le (a := seatsN T) (b := i) c_1 (by omega) (by omega); omega
        refine lv_iload_n hx hb dX8_ateAll_31 rfl (lv_at hl 1 rfl) ?_
        exact hret x () _ _ _ _ _ hW rfl rfl (hxx) dX8_ateAll_32
      ·
        have hlt : i < seatsN T := mi_nle (a := seatsN T) (b := i) c_1 (by omega) (by omega)
        refine lv_iload_n hx hb dX8_ateAll_12 rfl (lv_at hl 1 rfl) ?_
        refine lv_aload_n hx hb dX8_ateAll_13 rfl (lv_at hl 2 rfl) ?_
        refine mr_f F hW 3 (by decide) rfl fl_RX8_16 dX8_ateAll_14 ?_
        refine lv_iconst (v := 5) hx hb dX8_ateAll_17 (by decide) ?_
        refine lv_iload_n hx hb dX8_ateAll_18 rfl (lv_at hl 0 rfl) ?_
        refine lv_imul hx hb dX8_ateAll_19 ?_
        refine lv_iconst (v := 3) hx hb dX8_ateAll_20 (by decide) ?_
        refine lv_iadd hx hb dX8_ateAll_21 ?_
        refine mr_rows i 3 (by omega) (by decide) (mi_5k i 3) F hW dX8_ateAll_22 ?_
        refine lv_iadd hx hb dX8_ateAll_23 ?_
        refine lv_istore_n (lv' := [(1, .int (x + (T i 5))), (2, .int (nI i)), (0, .ref (ad 0))]) hx hb dX8_ateAll_24 rfl hl (by decide) rfl (fun ls hl => ?_)
        refine lv_iinc (v := nI (i + 1)) (lv' := [(2, .int (nI (i + 1))), (1, .int (x + (T i 5))), (0, .ref (ad 0))]) hx hb dX8_ateAll_25 hl (k := 1) rfl (nI_1 i) (by decide) rfl (fun ls hl => ?_)
        refine lv_goto (tgt := 4) hx hb dX8_ateAll_28 (by decide) ?_
        exact ih4 (i + 1) _ (by omega) (by omega) (by rw [hxx]; rfl) _ _ _ hW (lv_sub hl [0, 1, 2] rfl)
  exact L4 (seatsN T + 1) 0 _ (Nat.zero_le _) (by omega) (rfl) _ _ _ hW (lv_sub hl [0, 1, 2] rfl)
abbrev rm_yX8_doesAct : Room := { frames := 5, cells := 0, slots := 0, locals := 117 }
set_option maxHeartbeats 800000 in
set_option maxRecDepth 100000 in
theorem kX8_doesAct {l : Launch} {D : va_G} {cA : ClassId} {ad : Nat → Nat} {ρ T σ : Nat → Nat → Int32} {sz : Nat} {n q : Nat} {Lx : Lw} (hT : okT n T) (hM : okML n σ Lx) (hq : q < seatsN T) : MMi l yX8_doesAct cX8_doesAct 5 FieldType.int rm_yX8_doesAct [.ref (ad 0), .int (nI q)] D cA ad ρ T σ sz (fun (r : Int32) (u : (Nat → Nat → Int32) × Tb) => r = actS Lx T q ∧ Kp ρ u.1 ∧ u.2 = (if actS Lx T q = -1 then T else performS Lx T q (actS Lx T q))) (fun u : (Nat → Nat → Int32) × Tb => ment ad cA u.1 u.2 σ) := by
  refine gw_stI (Ff := fun u : (Nat → Nat → Int32) × Tb => ment ad cA u.1 u.2 σ) (own := RX8) (by decide +kernel) rfl (Nat.le_of_ble_eq_true rfl) ?_
  intro p e s m ar below meth c A Q F hE hsz hW hret ls hl
  obtain ⟨hx, hb, hml, hown, hts⟩ := id F
  have hl : lv_has ls 5 [(0, .ref (ad 0)), (1, .int (nI q))] := hl
  have hq6 : q < 6 := seats_le hT hq
  have hs6 := hT.1
  have hsN := hT.2.1
  have hG := hT.2.2.2.2 q hq
  obtain ⟨c0, htell, hc0⟩ := tell_nat (Lx := Lx) hT hq
  refine lv_aload_n hx hb dX8_doesAct_0 rfl (lv_at hl 0 rfl) ?_
  refine lv_iload_n hx hb dX8_doesAct_1 rfl (lv_at hl 1 rfl) ?_
  refine gw_callVi (As := [.int (nI q)]) (rest := []) F hl.1 hW (fun _ _ _ => trivial) gw_T_E (by decide) (rfl : ment ad cA _ _ _ 0 = _) rfl (kX8_actOf (n := n) (q := q) (Lx := Lx) hT hM hq) pd_yX8_actOf ml_RX8_170 im_yX8_actOf se_yX8_actOf ini_RX8 cd_yX8_actOf ⟨rfl, rfl⟩ ⟨Nat.le_of_ble_eq_true rfl, Nat.le_of_ble_eq_true rfl⟩ rfl rfl (Nat.le_of_ble_eq_true rfl) ⟨Nat.zero_le _, Nat.zero_le _⟩ dX8_doesAct_2 (fun r ρ_2 H locs hp hW _ _ => ?_)
  obtain ⟨rfl, hk_1⟩ := hp
  refine lv_as (z := actS Lx T q) rfl ?_
  refine lv_istore_n (lv' := [(2, .int (actS Lx T q)), (0, .ref (ad 0)), (1, .int (nI q))]) hx hb dX8_doesAct_5 rfl hl (by decide) rfl (fun ls hl => ?_)
  refine lv_iload_n hx hb dX8_doesAct_6 rfl (lv_at hl 0 rfl) ?_
  refine lv_iconst (v := (-1)) hx hb dX8_doesAct_7 (by decide) ?_
  refine lv_icmp_eq (tgt := 99) hx hb dX8_doesAct_8 (by decide) (fun c_3 => ?_) (fun c_3 => ?_)
  ·
    have hya : actS Lx T q = -1 := c_3
    refine lv_iload_n hx hb dX8_doesAct_99 rfl (lv_at hl 0 rfl) ?_
    exact hret (actS Lx T q) (ρ_2, T) _ _ _ _ _ hW rfl rfl (by exact ⟨rfl, (Kp.trans Kp.rf hk_1), by rw [if_pos hya]⟩) dX8_doesAct_100
  ·
    have hna : ¬ actS Lx T q = -1 := c_3; obtain ⟨j, hj, hej⟩ : upto 10 (actS Lx T q) := (act_upto _ _ _).resolve_left hna; rw [hej] at hl
    refine lv_aload_n hx hb dX8_doesAct_11 rfl (lv_at hl 1 rfl) ?_
    refine lv_iload_n hx hb dX8_doesAct_12 rfl (lv_at hl 2 rfl) ?_
    refine lv_iload_n hx hb dX8_doesAct_13 rfl (lv_at hl 0 rfl) ?_
    refine gw_callVi (As := [.int (nI q), .int (nI j)]) (rest := []) F hl.1 hW (fun _ _ _ => trivial) gw_T_E (by decide) (rfl : ment ad cA _ _ _ 0 = _) rfl (kX8_eatsOf (n := n) (q := q) (Lx := Lx) (a0 := nI j) hT hM hq) pd_yX8_eatsOf ml_RX8_179 im_yX8_eatsOf se_yX8_eatsOf ini_RX8 cd_yX8_eatsOf ⟨rfl, rfl⟩ ⟨Nat.le_of_ble_eq_true rfl, Nat.le_of_ble_eq_true rfl⟩ rfl rfl (Nat.le_of_ble_eq_true rfl) ⟨Nat.zero_le _, Nat.zero_le _⟩ dX8_doesAct_14 (fun r ρ_5 H locs hp hW _ _ => ?_)
    obtain ⟨rfl, hk_4⟩ := hp
    refine lv_as (z := eatS Lx T q (nI j)) rfl ?_
    refine lv_topi (fun v_6 ev_6 => ?_)
    refine lv_istore_n (lv' := [(3, .int v_6), (2, .int (nI j)), (0, .ref (ad 0)), (1, .int (nI q))]) hx hb dX8_doesAct_17 rfl hl (by decide) rfl (fun ls hl => ?_)
    refine lv_aload_n hx hb dX8_doesAct_18 rfl (lv_at hl 2 rfl) ?_
    refine lv_iload_n hx hb dX8_doesAct_19 rfl (lv_at hl 3 rfl) ?_
    refine gw_callVi (As := [.int (nI q)]) (rest := []) F hl.1 hW (fun _ _ _ => trivial) gw_T_E (by decide) (rfl : ment ad cA _ _ _ 0 = _) rfl (kX8_tellsOf (n := n) (q := q) (Lx := Lx) hT hM hq) pd_yX8_tellsOf ml_RX8_176 im_yX8_tellsOf se_yX8_tellsOf ini_RX8 cd_yX8_tellsOf ⟨rfl, rfl⟩ ⟨Nat.le_of_ble_eq_true rfl, Nat.le_of_ble_eq_true rfl⟩ rfl rfl (Nat.le_of_ble_eq_true rfl) ⟨Nat.zero_le _, Nat.zero_le _⟩ dX8_doesAct_20 (fun r ρ_8 H locs hp hW _ _ => ?_)
    obtain ⟨rfl, hk_7⟩ := hp
    refine lv_as (z := tellS Lx T q) rfl ?_
    refine lv_as (z := nI c0) htell ?_
    refine lv_istore (lv' := [(4, .int (nI c0)), (3, .int v_6), (2, .int (nI j)), (0, .ref (ad 0)), (1, .int (nI q))]) hx hb dX8_doesAct_23 hl (by decide) rfl (fun ls hl => ?_)
    refine lv_aload_n hx hb dX8_doesAct_25 rfl (lv_at hl 3 rfl) ?_
    refine mr_f F hW 3 (by decide) rfl fl_RX8_16 dX8_doesAct_26 ?_
    refine lv_iconst (v := 5) hx hb dX8_doesAct_29 (by decide) ?_
    refine lv_iload_n hx hb dX8_doesAct_30 rfl (lv_at hl 4 rfl) ?_
    refine lv_imul hx hb dX8_doesAct_31 ?_
    refine lv_iconst (v := 3) hx hb dX8_doesAct_32 (by decide) ?_
    refine lv_iadd hx hb dX8_doesAct_33 ?_
    refine lv_aload_n hx hb dX8_doesAct_34 rfl (lv_at hl 3 rfl) ?_
    refine mr_f F hW 3 (by decide) rfl fl_RX8_16 dX8_doesAct_35 ?_
    refine lv_iconst (v := 5) hx hb dX8_doesAct_38 (by decide) ?_
    refine lv_iload_n hx hb dX8_doesAct_39 rfl (lv_at hl 4 rfl) ?_
    refine lv_imul hx hb dX8_doesAct_40 ?_
    refine lv_iconst (v := 3) hx hb dX8_doesAct_41 (by decide) ?_
    refine lv_iadd hx hb dX8_doesAct_42 ?_
    refine mr_rows q 3 (by omega) (by decide) (mi_5k q 3) F hW dX8_doesAct_43 ?_
    refine lv_iload_n hx hb dX8_doesAct_44 rfl (lv_at hl 1 rfl) ?_
    refine lv_iadd hx hb dX8_doesAct_45 ?_
    refine lv_iconst (v := 0) hx hb dX8_doesAct_46 (by decide) ?_
    refine lv_bipush (v := 99) hx hb dX8_doesAct_47 (by decide) ?_
    refine gw_callP (As := [.int ((T q 5) + v_6), .int 0, .int 99]) (rest := [.int ((5 * (nI q)) + 3), .ref (ad 3)]) F hl.1 (kX8_within) pd_yX8_within ml_RX8_158 st_yX8_within ini_RX8 cd_yX8_within ⟨rfl, rfl⟩ ⟨Nat.le_of_ble_eq_true rfl, Nat.le_of_ble_eq_true rfl⟩ rfl rfl (Nat.le_of_ble_eq_true rfl) ⟨Nat.zero_le _, Nat.zero_le _⟩ dX8_doesAct_49 ?_
    refine lv_as (z := min99 (T q 5 + eatS Lx T q (nI j))) (by subst ev_6; exact (within_clamp (lo := 0)).trans (clamp_min (k := 209) (add_upto (k := 100) (l := 109) (x := T q 5) hG.2.2.2.2.2.1 (eat_upto hj)) (by decide))) ?_
    refine mw_rows q 3 (by omega) (by decide) (mi_5k q 3) F hW dX8_doesAct_52 (fun H locs hW => ?_)
    refine lv_aload_n hx hb dX8_doesAct_53 rfl (lv_at hl 3 rfl) ?_
    refine mr_f F hW 3 (by decide) rfl fl_RX8_16 dX8_doesAct_54 ?_
    refine lv_iconst (v := 5) hx hb dX8_doesAct_57 (by decide) ?_
    refine lv_iload_n hx hb dX8_doesAct_58 rfl (lv_at hl 4 rfl) ?_
    refine lv_imul hx hb dX8_doesAct_59 ?_
    refine lv_dup2_11 hx hb dX8_doesAct_60 rfl rfl ?_
    refine mr_rows q 0 (by omega) (by decide) (mi_50 q) F hW dX8_doesAct_61 ?_
    refine lv_as (z := T q 2) (upT_ne (by omega)) ?_
    refine lv_iconst (v := 1) hx hb dX8_doesAct_62 (by decide) ?_
    refine lv_iload_n hx hb dX8_doesAct_63 rfl (lv_at hl 2 rfl) ?_
    refine lv_ishl hx hb dX8_doesAct_64 ?_
    refine lv_ior hx hb dX8_doesAct_65 ?_
    refine lv_as (z := T q 2 ||| oneS (nI j)) (rfl) ?_
    refine mw_rows q 0 (by omega) (by decide) (mi_50 q) F hW dX8_doesAct_66 (fun H locs hW => ?_)
    refine lv_aload_n hx hb dX8_doesAct_67 rfl (lv_at hl 3 rfl) ?_
    refine mr_f F hW 3 (by decide) rfl fl_RX8_16 dX8_doesAct_68 ?_
    refine lv_iconst (v := 5) hx hb dX8_doesAct_71 (by decide) ?_
    refine lv_iload_n hx hb dX8_doesAct_72 rfl (lv_at hl 4 rfl) ?_
    refine lv_imul hx hb dX8_doesAct_73 ?_
    refine lv_iconst (v := 4) hx hb dX8_doesAct_74 (by decide) ?_
    refine lv_iadd hx hb dX8_doesAct_75 ?_
    refine lv_iconst (v := 0) hx hb dX8_doesAct_76 (by decide) ?_
    refine mw_rows q 4 (by omega) (by decide) (mi_5k q 4) F hW dX8_doesAct_77 (fun H locs hW => ?_)
    refine lv_iload hx hb dX8_doesAct_78 (lv_at hl 0 rfl) ?_
    refine lv_iload_n hx hb dX8_doesAct_80 rfl (lv_at hl 4 rfl) ?_
    refine lv_icmp_eq (tgt := 99) hx hb dX8_doesAct_81 (by decide) (fun c_9 => ?_) (fun c_9 => ?_)
    ·
      refine lv_iload_n hx hb dX8_doesAct_99 rfl (lv_at hl 2 rfl) ?_
      exact hret (nI j) (ρ_8, upT (upT (upT T q 5 (min99 (T q 5 + eatS Lx T q (nI j)))) q 2 (T q 2 ||| oneS (nI j))) q 6 0) _ _ _ _ _ hW rfl rfl (by exact ⟨hej.symm, (Kp.trans (Kp.trans (Kp.trans Kp.rf hk_1) hk_4) hk_7), by rw [if_neg hna, ← hej.symm]; unfold performS; rw [htell, nI_clamp (by omega), (nI_eq (by omega) (by omega)).mp c_9]; exact done_self⟩) dX8_doesAct_100
    ·
      have hcn : ¬ c0 = q := fun z => c_9 (by rw [z])
      refine lv_aload_n hx hb dX8_doesAct_84 rfl (lv_at hl 3 rfl) ?_
      refine mr_f F hW 3 (by decide) rfl fl_RX8_16 dX8_doesAct_85 ?_
      refine lv_iconst (v := 5) hx hb dX8_doesAct_88 (by decide) ?_
      refine lv_iload hx hb dX8_doesAct_89 (lv_at hl 0 rfl) ?_
      refine lv_imul hx hb dX8_doesAct_91 ?_
      refine lv_dup2_11 hx hb dX8_doesAct_92 rfl rfl ?_
      refine mr_rows c0 0 (by omega) (by decide) (mi_50 c0) F hW dX8_doesAct_93 ?_
      refine lv_as (z := T c0 2) (by rw [upT_ne (by omega), upT_ne (by have := hcn; omega), upT_ne (by omega)]) ?_
      refine lv_iconst (v := 1) hx hb dX8_doesAct_94 (by decide) ?_
      refine lv_iload_n hx hb dX8_doesAct_95 rfl (lv_at hl 2 rfl) ?_
      refine lv_ishl hx hb dX8_doesAct_96 ?_
      refine lv_ixor hx hb dX8_doesAct_97 ?_
      refine lv_as (z := T c0 2 ^^^ oneS (nI j)) (rfl) ?_
      refine mw_rows c0 0 (by omega) (by decide) (mi_50 c0) F hW dX8_doesAct_98 (fun H locs hW => ?_)
      refine lv_iload_n hx hb dX8_doesAct_99 rfl (lv_at hl 2 rfl) ?_
      exact hret (nI j) (ρ_8, upT (upT (upT (upT T q 5 (min99 (T q 5 + eatS Lx T q (nI j)))) q 2 (T q 2 ||| oneS (nI j))) q 6 0) c0 2 (T c0 2 ^^^ oneS (nI j))) _ _ _ _ _ hW rfl rfl (by exact ⟨hej.symm, (Kp.trans (Kp.trans (Kp.trans Kp.rf hk_1) hk_4) hk_7), by rw [if_neg hna, ← hej.symm]; unfold performS; rw [htell, nI_clamp (by omega)]; exact done_eq hcn⟩) dX8_doesAct_100
abbrev rm_yX8_minuteOf : Room := { frames := 6, cells := 0, slots := 0, locals := 141 }
set_option maxHeartbeats 800000 in
set_option maxRecDepth 100000 in
theorem kX8_minuteOf {l : Launch} {D : va_G} {cA : ClassId} {ad : Nat → Nat} {ρ T σ : Nat → Nat → Int32} {sz : Nat} {n : Nat} {Lx : Lw} (hT : okT n T) (hM : okML n σ Lx) : MMi l yX8_minuteOf cX8_minuteOf 3 FieldType.int rm_yX8_minuteOf [.ref (ad 0)] D cA ad ρ T σ sz (fun (r : Int32) (u : (Nat → Nat → Int32) × Tb) => r = (passS Lx T).2 ∧ Kp ρ u.1 ∧ u.2 = (passS Lx T).1) (fun u : (Nat → Nat → Int32) × Tb => ment ad cA u.1 u.2 σ) := by
  refine gw_stI (Ff := fun u : (Nat → Nat → Int32) × Tb => ment ad cA u.1 u.2 σ) (own := RX8) (by decide +kernel) rfl (Nat.le_of_ble_eq_true rfl) ?_
  intro p e s m ar below meth c A Q F hE hsz hW hret ls hl
  obtain ⟨hx, hb, hml, hown, hts⟩ := id F
  have hl : lv_has ls 3 [(0, .ref (ad 0))] := hl
  have hs6 := hT.1
  have hsN := hT.2.1
  refine lv_iconst (v := 0) hx hb dX8_minuteOf_0 (by decide) ?_
  refine lv_istore_n (lv' := [(1, .int 0), (0, .ref (ad 0))]) hx hb dX8_minuteOf_1 rfl hl (by decide) rfl (fun ls hl => ?_)
  refine lv_iconst (v := 0) hx hb dX8_minuteOf_2 (by decide) ?_
  refine lv_istore_n (lv' := [(2, .int 0), (1, .int 0), (0, .ref (ad 0))]) hx hb dX8_minuteOf_3 rfl hl (by decide) rfl (fun ls hl => ?_)
  have L4 : ∀ (k : Nat) (i : Nat) (ρ' : Nat → Nat → Int32) (T' : Tb) (x : Int32), (i ≤ seatsN T) → (seatsN T + 1 ≤ i + k) → (Kp ρ ρ') → (T' = (passK Lx T i).1) → (x = (passK Lx T i).2) → ∀ (H : Heap) (locs : List Loc) (ls : Array Slot), MW D cA ad ρ' T' σ A s s.heap H locs → lv_has ls 3 [(2, .int (nI i)), (1, .int x), (0, .ref (ad 0))] → W p l e rm_yX8_minuteOf s m ar below meth c H locs 0 0 Q (F0 m 4 ls []) := by
    intro k
    induction k with
    | zero => intro i ρ' T' x h1 h2 hkp hTT hxx; exact absurd h2 (by omega)
    | succ k ih4 =>
      intro i ρ' T' x h1 h2 hkp hTT hxx H locs ls hW hl
      have hT' : okT n T' := by rw [hTT]; exact (ok_passK hT i h1).1
      have hs' : seatsN T' = seatsN T := by rw [hTT]; exact (ok_passK hT i h1).2
      have h6' : T' 6 = T 6 := by rw [hTT]; exact row6_passK hT i h1
      refine lv_iload_n hx hb dX8_minuteOf_4 rfl (lv_at hl 0 rfl) ?_
      refine lv_aload_n hx hb dX8_minuteOf_5 rfl (lv_at hl 2 rfl) ?_
      refine mr_f F hW 0 (by decide) rfl fl_RX8_69 dX8_minuteOf_6 ?_
      refine lv_as (z := nI (seatsN T)) (by rw [h6']; exact hsN) ?_
      refine lv_icmp_ge (tgt := 61) hx hb dX8_minuteOf_9 (by decide) (fun c_1 => ?_) (fun c_1 => ?_)
      ·
        obtain rfl : i = seatsN T := by have := mi_le (a := seatsN T) (b := i) c_1 (by omega) (by omega); omega
        refine lv_aload_n hx hb dX8_minuteOf_61 rfl (lv_at hl 2 rfl) ?_
        refine lv_dup hx hb dX8_minuteOf_62 rfl ?_
        refine mr_f F hW 4 (by decide) rfl fl_RX8_76 dX8_minuteOf_63 ?_
        refine lv_iconst (v := 1) hx hb dX8_minuteOf_66 (by decide) ?_
        refine lv_iadd hx hb dX8_minuteOf_67 ?_
        refine mw_T (j := 2) F hW 4 (by decide) fl_RX8_76 dX8_minuteOf_68 (fun H locs hW => ?_)
        refine lv_iload_n hx hb dX8_minuteOf_71 rfl (lv_at hl 1 rfl) ?_
        exact hret x (ρ', upT T' 6 2 ((T' 6 2) + 1)) _ _ _ _ _ hW rfl rfl (by exact ⟨hxx, hkp, by show upT T' 6 2 (T' 6 2 + 1) = _; rw [h6', hTT]; rfl⟩) dX8_minuteOf_72
      ·
        have hlt : i < seatsN T := mi_nle (a := seatsN T) (b := i) c_1 (by omega) (by omega); have hi' : i < seatsN T' := by rw [hs']; exact hlt
        refine lv_aload_n hx hb dX8_minuteOf_12 rfl (lv_at hl 2 rfl) ?_
        refine lv_iload_n hx hb dX8_minuteOf_13 rfl (lv_at hl 0 rfl) ?_
        refine gw_callVi (As := [.int (nI i)]) (rest := []) F hl.1 hW (fun _ _ _ => trivial) gw_T_E (by decide) (rfl : ment ad cA _ _ _ 0 = _) rfl (kX8_doesAct (n := n) (q := i) (Lx := Lx) hT' hM hi') pd_yX8_doesAct ml_RX8_185 im_yX8_doesAct se_yX8_doesAct ini_RX8 cd_yX8_doesAct ⟨rfl, rfl⟩ ⟨Nat.le_of_ble_eq_true rfl, Nat.le_of_ble_eq_true rfl⟩ rfl rfl (Nat.le_of_ble_eq_true rfl) ⟨Nat.zero_le _, Nat.zero_le _⟩ dX8_minuteOf_14 (fun r u H locs hp hW _ _ => ?_)
        obtain ⟨ρ_2, T_3⟩ := u
        obtain ⟨rfl, hk_4, hTe⟩ := hp
        have hTe : T_3 = (if actS Lx T' i = -1 then T' else performS Lx T' i (actS Lx T' i)) := hTe
        subst hTe
        refine lv_as (z := actS Lx T' i) rfl ?_
        refine lv_iconst (v := (-1)) hx hb dX8_minuteOf_17 (by decide) ?_
        refine lv_icmp_ne (tgt := 52) hx hb dX8_minuteOf_18 (by decide) (fun c_5 => ?_) (fun c_5 => ?_)
        ·
          rw [if_neg c_5] at hW
          obtain ⟨v_6, ev_6⟩ : ∃ z : Int32, z = x + 1 := ⟨_, rfl⟩
          refine lv_iinc (v := v_6) (lv' := [(1, .int v_6), (2, .int (nI i)), (0, .ref (ad 0))]) hx hb dX8_minuteOf_52 hl (k := 1) rfl (by rw [ev_6]; rfl) (by decide) rfl (fun ls hl => ?_)
          refine lv_iinc (v := nI (i + 1)) (lv' := [(2, .int (nI (i + 1))), (1, .int v_6), (0, .ref (ad 0))]) hx hb dX8_minuteOf_55 hl (k := 1) rfl (nI_1 i) (by decide) rfl (fun ls hl => ?_)
          refine lv_goto (tgt := 4) hx hb dX8_minuteOf_58 (by decide) ?_
          exact ih4 (i + 1) ρ_2 (performS Lx T' i (actS Lx T' i)) _ (by omega) (by omega) ((Kp.trans hkp hk_4)) (by rw [show passK Lx T (i + 1) = oneStep Lx (passK Lx T i) i from rfl, step_yes (by rw [← hTT]) c_5, hTT]) (by subst ev_6; rw [show passK Lx T (i + 1) = oneStep Lx (passK Lx T i) i from rfl, step_yes (by rw [← hTT]) c_5, hxx]) _ _ _ hW (lv_sub hl [0, 1, 2] rfl)
        ·
          rw [if_pos c_5] at hW
          refine lv_aload_n hx hb dX8_minuteOf_21 rfl (lv_at hl 2 rfl) ?_
          refine mr_f F hW 3 (by decide) rfl fl_RX8_16 dX8_minuteOf_22 ?_
          refine lv_iconst (v := 5) hx hb dX8_minuteOf_25 (by decide) ?_
          refine lv_iload_n hx hb dX8_minuteOf_26 rfl (lv_at hl 0 rfl) ?_
          refine lv_imul hx hb dX8_minuteOf_27 ?_
          refine lv_iconst (v := 2) hx hb dX8_minuteOf_28 (by decide) ?_
          refine lv_iadd hx hb dX8_minuteOf_29 ?_
          refine lv_aload_n hx hb dX8_minuteOf_30 rfl (lv_at hl 2 rfl) ?_
          refine mr_f F hW 3 (by decide) rfl fl_RX8_16 dX8_minuteOf_31 ?_
          refine lv_iconst (v := 5) hx hb dX8_minuteOf_34 (by decide) ?_
          refine lv_iload_n hx hb dX8_minuteOf_35 rfl (lv_at hl 0 rfl) ?_
          refine lv_imul hx hb dX8_minuteOf_36 ?_
          refine lv_iconst (v := 2) hx hb dX8_minuteOf_37 (by decide) ?_
          refine lv_iadd hx hb dX8_minuteOf_38 ?_
          refine mr_rows i 2 (by omega) (by decide) (mi_5k i 2) F hW dX8_minuteOf_39 ?_
          refine lv_iconst (v := 1) hx hb dX8_minuteOf_40 (by decide) ?_
          refine lv_iadd hx hb dX8_minuteOf_41 ?_
          refine lv_iconst (v := 0) hx hb dX8_minuteOf_42 (by decide) ?_
          refine lv_bipush (v := 99) hx hb dX8_minuteOf_43 (by decide) ?_
          refine gw_callP (As := [.int ((T' i 4) + 1), .int 0, .int 99]) (rest := [.int ((5 * (nI i)) + 2), .ref (ad 3)]) F hl.1 (kX8_within) pd_yX8_within ml_RX8_158 st_yX8_within ini_RX8 cd_yX8_within ⟨rfl, rfl⟩ ⟨Nat.le_of_ble_eq_true rfl, Nat.le_of_ble_eq_true rfl⟩ rfl rfl (Nat.le_of_ble_eq_true rfl) ⟨Nat.zero_le _, Nat.zero_le _⟩ dX8_minuteOf_45 ?_
          refine lv_as (z := min99 (T' i 4 + 1)) ((within_clamp (lo := 0)).trans (clamp_min (k := 102) (add_upto (k := 100) (l := 2) (x := T' i 4) (hT'.2.2.2.2 i hi').2.2.2.2.1 ⟨1, by decide, rfl⟩) (by decide))) ?_
          refine mw_rows i 2 (by omega) (by decide) (mi_5k i 2) F hW dX8_minuteOf_48 (fun H locs hW => ?_)
          refine lv_goto (tgt := 55) hx hb dX8_minuteOf_49 (by decide) ?_
          refine lv_iinc (v := nI (i + 1)) (lv' := [(2, .int (nI (i + 1))), (1, .int x), (0, .ref (ad 0))]) hx hb dX8_minuteOf_55 hl (k := 0) rfl (nI_1 i) (by decide) rfl (fun ls hl => ?_)
          refine lv_goto (tgt := 4) hx hb dX8_minuteOf_58 (by decide) ?_
          exact ih4 (i + 1) ρ_2 (upT T' i 4 (min99 (T' i 4 + 1))) _ (by omega) (by omega) ((Kp.trans hkp hk_4)) (by rw [show passK Lx T (i + 1) = oneStep Lx (passK Lx T i) i from rfl, step_no (by rw [← hTT]; exact c_5), hTT]) (by rw [show passK Lx T (i + 1) = oneStep Lx (passK Lx T i) i from rfl, step_no (by rw [← hTT]; exact c_5), hxx]) _ _ _ hW (lv_sub hl [0, 1, 2] rfl)
  exact L4 (seatsN T + 1) 0 _ _ 0 (Nat.zero_le _) (by omega) (Kp.rf) (rfl) (rfl) _ _ _ hW (lv_sub hl [0, 1, 2] rfl)
abbrev rm_yX8_passes : Room := { frames := 7, cells := 0, slots := 0, locals := 163 }
set_option maxHeartbeats 800000 in
set_option maxRecDepth 100000 in
theorem kX8_passes {l : Launch} {D : va_G} {cA : ClassId} {ad : Nat → Nat} {ρ T σ : Nat → Nat → Int32} {sz : Nat} {n w : Nat} {Lx : Lw} (hT : okT n T) (hM : okML n σ Lx) (hw : w ≤ 60) : MMi l yX8_passes cX8_passes 4 FieldType.int rm_yX8_passes [.ref (ad 0), .int (nI w)] D cA ad ρ T σ sz (fun (r : Int32) (u : (Nat → Nat → Int32) × Tb) => r = (passN Lx T w).2 ∧ Kp ρ u.1 ∧ u.2 = (passN Lx T w).1) (fun u : (Nat → Nat → Int32) × Tb => ment ad cA u.1 u.2 σ) := by
  refine gw_stI (Ff := fun u : (Nat → Nat → Int32) × Tb => ment ad cA u.1 u.2 σ) (own := RX8) (by decide +kernel) rfl (Nat.le_of_ble_eq_true rfl) ?_
  intro p e s m ar below meth c A Q F hE hsz hW hret ls hl
  obtain ⟨hx, hb, hml, hown, hts⟩ := id F
  have hl : lv_has ls 4 [(0, .ref (ad 0)), (1, .int (nI w))] := hl
  refine lv_iconst (v := 0) hx hb dX8_passes_0 (by decide) ?_
  refine lv_istore_n (lv' := [(2, .int 0), (0, .ref (ad 0)), (1, .int (nI w))]) hx hb dX8_passes_1 rfl hl (by decide) rfl (fun ls hl => ?_)
  refine lv_iconst (v := 0) hx hb dX8_passes_2 (by decide) ?_
  refine lv_istore_n (lv' := [(3, .int 0), (2, .int 0), (0, .ref (ad 0)), (1, .int (nI w))]) hx hb dX8_passes_3 rfl hl (by decide) rfl (fun ls hl => ?_)
  have L4 : ∀ (k : Nat) (i : Nat) (ρ' : Nat → Nat → Int32) (T' : Tb) (x : Int32), (i ≤ w) → (w + 1 ≤ i + k) → (Kp ρ ρ') → (T' = (passN Lx T i).1) → (x = (passN Lx T i).2) → ∀ (H : Heap) (locs : List Loc) (ls : Array Slot), MW D cA ad ρ' T' σ A s s.heap H locs → lv_has ls 4 [(3, .int (nI i)), (2, .int x), (0, .ref (ad 0)), (1, .int (nI w))] → W p l e rm_yX8_passes s m ar below meth c H locs 0 0 Q (F0 m 4 ls []) := by
    intro k
    induction k with
    | zero => intro i ρ' T' x h1 h2 hkp hTT hxx; exact absurd h2 (by omega)
    | succ k ih4 =>
      intro i ρ' T' x h1 h2 hkp hTT hxx H locs ls hW hl
      have hT' : okT n T' := by rw [hTT]; exact (ok_passN hT i).1
      refine lv_iload_n hx hb dX8_passes_4 rfl (lv_at hl 0 rfl) ?_
      refine lv_iload_n hx hb dX8_passes_5 rfl (lv_at hl 3 rfl) ?_
      refine lv_icmp_ge (tgt := 22) hx hb dX8_passes_6 (by decide) (fun c_1 => ?_) (fun c_1 => ?_)
      ·
        obtain rfl : i = w := by have := mi_le (a := w) (b := i) c_1 (by omega) (by omega); omega
        refine lv_iload_n hx hb dX8_passes_22 rfl (lv_at hl 1 rfl) ?_
        exact hret x (ρ', T') _ _ _ _ _ hW rfl rfl (⟨hxx, hkp, hTT⟩) dX8_passes_23
      ·
        have hlt : i < w := mi_nle (a := w) (b := i) c_1 (by omega) (by omega)
        refine lv_iload_n hx hb dX8_passes_9 rfl (lv_at hl 1 rfl) ?_
        refine lv_aload_n hx hb dX8_passes_10 rfl (lv_at hl 2 rfl) ?_
        refine gw_callVi (As := []) (rest := [.int x]) F hl.1 hW (fun _ _ _ => trivial) gw_T_E (by decide) (rfl : ment ad cA _ _ _ 0 = _) rfl (kX8_minuteOf (n := n) (Lx := Lx) hT' hM) pd_yX8_minuteOf ml_RX8_188 im_yX8_minuteOf se_yX8_minuteOf ini_RX8 cd_yX8_minuteOf ⟨rfl, rfl⟩ ⟨Nat.le_of_ble_eq_true rfl, Nat.le_of_ble_eq_true rfl⟩ rfl rfl (Nat.le_of_ble_eq_true rfl) ⟨Nat.zero_le _, Nat.zero_le _⟩ dX8_passes_11 (fun r u H locs hp hW _ _ => ?_)
        obtain ⟨ρ_2, T_3⟩ := u
        obtain ⟨rfl, hk_4, hTe⟩ := hp
        have hTe : T_3 = (passS Lx T').1 := hTe
        subst hTe
        refine lv_as (z := (passS Lx T').2) rfl ?_
        refine lv_iadd hx hb dX8_passes_14 ?_
        refine lv_topi (fun v_5 ev_5 => ?_)
        refine lv_istore_n (lv' := [(2, .int v_5), (3, .int (nI i)), (0, .ref (ad 0)), (1, .int (nI w))]) hx hb dX8_passes_15 rfl hl (by decide) rfl (fun ls hl => ?_)
        refine lv_iinc (v := nI (i + 1)) (lv' := [(3, .int (nI (i + 1))), (2, .int v_5), (0, .ref (ad 0)), (1, .int (nI w))]) hx hb dX8_passes_16 hl (k := 1) rfl (nI_1 i) (by decide) rfl (fun ls hl => ?_)
        refine lv_goto (tgt := 4) hx hb dX8_passes_19 (by decide) ?_
        exact ih4 (i + 1) ρ_2 ((passS Lx T').1) _ (by omega) (by omega) ((Kp.trans hkp hk_4)) (by rw [hTT]; rfl) (by subst ev_5; rw [hxx, hTT]; rfl) _ _ _ hW (lv_sub hl [0, 1, 2, 3] rfl)
  exact L4 (w + 1) 0 _ _ 0 (Nat.zero_le _) (by omega) (Kp.rf) (rfl) (rfl) _ _ _ hW (lv_sub hl [0, 1, 2, 3] rfl)
abbrev rm_yX8_changes : Room := { frames := 0, cells := 0, slots := 0, locals := 0 }
set_option maxHeartbeats 800000 in
set_option maxRecDepth 100000 in
theorem kX8_changes {l : Launch} {D : va_G} {cA : ClassId} {ad : Nat → Nat} {ρ T σ : Nat → Nat → Int32} {sz : Nat} {a b : Nat} (ha : a < 6) (hb6 : b < 6) : MMv l yX8_changes cX8_changes 4 rm_yX8_changes [.ref (ad 0), .int (nI a), .int (nI b)] D cA ad ρ T σ sz (fun (u : Tb) => u = swapS T a b) (fun u : Tb => ment ad cA ρ u σ) := by
  refine gw_stV (Ff := fun u : Tb => ment ad cA ρ u σ) (own := RX8) (by decide +kernel) rfl (Nat.le_of_ble_eq_true rfl) ?_
  intro p e s m ar below meth c A Q F hE hsz hW hret ls hl
  obtain ⟨hx, hb, hml, hown, hts⟩ := id F
  have hl : lv_has ls 4 [(0, .ref (ad 0)), (1, .int (nI a)), (2, .int (nI b))] := hl
  refine lv_aload_n hx hb dX8_changes_0 rfl (lv_at hl 0 rfl) ?_
  refine mr_f F hW 3 (by decide) rfl fl_RX8_16 dX8_changes_1 ?_
  refine lv_iconst (v := 5) hx hb dX8_changes_4 (by decide) ?_
  refine lv_iload_n hx hb dX8_changes_5 rfl (lv_at hl 1 rfl) ?_
  refine lv_imul hx hb dX8_changes_6 ?_
  refine mr_rows a 0 (by omega) (by decide) (mi_50 a) F hW dX8_changes_7 ?_
  refine lv_istore_n (lv' := [(3, .int (T a 2)), (0, .ref (ad 0)), (1, .int (nI a)), (2, .int (nI b))]) hx hb dX8_changes_8 rfl hl (by decide) rfl (fun ls hl => ?_)
  refine lv_aload_n hx hb dX8_changes_9 rfl (lv_at hl 1 rfl) ?_
  refine mr_f F hW 3 (by decide) rfl fl_RX8_16 dX8_changes_10 ?_
  refine lv_iconst (v := 5) hx hb dX8_changes_13 (by decide) ?_
  refine lv_iload_n hx hb dX8_changes_14 rfl (lv_at hl 2 rfl) ?_
  refine lv_imul hx hb dX8_changes_15 ?_
  refine lv_aload_n hx hb dX8_changes_16 rfl (lv_at hl 1 rfl) ?_
  refine mr_f F hW 3 (by decide) rfl fl_RX8_16 dX8_changes_17 ?_
  refine lv_iconst (v := 5) hx hb dX8_changes_20 (by decide) ?_
  refine lv_iload_n hx hb dX8_changes_21 rfl (lv_at hl 3 rfl) ?_
  refine lv_imul hx hb dX8_changes_22 ?_
  refine mr_rows b 0 (by omega) (by decide) (mi_50 b) F hW dX8_changes_23 ?_
  refine mw_rows a 0 (by omega) (by decide) (mi_50 a) F hW dX8_changes_24 (fun H locs hW => ?_)
  refine lv_aload_n hx hb dX8_changes_25 rfl (lv_at hl 1 rfl) ?_
  refine mr_f F hW 3 (by decide) rfl fl_RX8_16 dX8_changes_26 ?_
  refine lv_iconst (v := 5) hx hb dX8_changes_29 (by decide) ?_
  refine lv_iload_n hx hb dX8_changes_30 rfl (lv_at hl 3 rfl) ?_
  refine lv_imul hx hb dX8_changes_31 ?_
  refine lv_iload_n hx hb dX8_changes_32 rfl (lv_at hl 0 rfl) ?_
  refine mw_rows b 0 (by omega) (by decide) (mi_50 b) F hW dX8_changes_33 (fun H locs hW => ?_)
  exact hret (upT (upT T a 2 (T b 2)) b 2 (T a 2)) _ _ _ _ _ hW rfl (rfl) dX8_changes_34
def keepF (T : Tb) (j : Nat) : Int32 := T (j / 5) (2 + j % 5)
/-- κ is what was kept of T -/
def KeptOf (κ : Nat → Int32) (T : Tb) : Prop := (∀ j, j < 30 → κ j = keepF T j) ∧ κ 30 = T 6 2
def layK (T : Tb) (κ : Nat → Int32) (i : Nat) : Tb := fun q k => if q < 6 ∧ 2 ≤ k ∧ k < 7 ∧ 5 * q + (k - 2) < i then κ (5 * q + (k - 2)) else T q k
def layT (T : Tb) (κ : Nat → Int32) : Tb := upT (layK T κ 30) 6 2 (κ 30)
theorem keep_s {T : Tb} {κ : Nat → Int32} {i : Nat} (h : ∀ j, j < i → κ j = keepF T j) : ∀ j, j < i + 1 → upd κ i (keepF T i) j = keepF T j := by
  intro j hj
  by_cases e : j = i
  · subst e; exact pk_us
  · rw [pk_un e]; exact h j (by omega)
theorem layK_0 (T : Tb) (κ : Nat → Int32) : layK T κ 0 = T := by
  funext q k; unfold layK; rw [if_neg (by omega)]
theorem layK_s {T : Tb} {κ : Nat → Int32} {i : Nat} (hi : i < 30) : upT (layK T κ i) (i / 5) (2 + i % 5) (κ i) = layK T κ (i + 1) := by
  funext q k
  by_cases h : q = i / 5 ∧ k = 2 + i % 5
  · obtain ⟨rfl, rfl⟩ := h
    rw [upT_at]
    unfold layK
    rw [if_pos (by omega), show 5 * (i / 5) + (2 + i % 5 - 2) = i by omega]
  · rw [upT_ne h]
    unfold layK
    by_cases h2 : q < 6 ∧ 2 ≤ k ∧ k < 7 ∧ 5 * q + (k - 2) < i
    · rw [if_pos h2, if_pos (by omega)]
    · rw [if_neg h2, if_neg (by omega)]
/-- alike but in what thinking changes -/
def OutT (T U : Tb) : Prop := ∀ q k, ¬ (q < 6 ∧ 2 ≤ k ∧ k < 7) → ¬ (q = 6 ∧ k = 2) → U q k = T q k
theorem OutT.rf {T : Tb} : OutT T T := fun _ _ _ _ => rfl
theorem OutT.trans {T U V : Tb} (h : OutT T U) (h' : OutT U V) : OutT T V := fun q k a b => (h' q k a b).trans (h q k a b)
theorem OutT.up {T U : Tb} (h : OutT T U) {q k : Nat} {v : Int32} (hq : (q < 6 ∧ 2 ≤ k ∧ k < 7) ∨ (q = 6 ∧ k = 2)) : OutT T (upT U q k v) := fun z j a b => by rw [upT_ne (by omega)]; exact h z j a b
theorem lay_back {T U : Tb} {κ : Nat → Int32} (hk : KeptOf κ T) (h : OutT T U) : layT U κ = T := by
  funext q k
  unfold layT
  by_cases h6 : q = 6 ∧ k = 2
  · obtain ⟨rfl, rfl⟩ := h6
    rw [upT_at]; exact hk.2
  · rw [upT_ne h6]
    unfold layK
    by_cases h2 : q < 6 ∧ 2 ≤ k ∧ k < 7 ∧ 5 * q + (k - 2) < 30
    · rw [if_pos h2, hk.1 _ h2.2.2.2]
      unfold keepF
      rw [show (5 * q + (k - 2)) / 5 = q by omega, show 2 + (5 * q + (k - 2)) % 5 = k by omega]
    · rw [if_neg h2]; exact h q k (by omega) h6
theorem out_done {T : Tb} {q h : Nat} {e a : Int32} (hq : q < 6) (hh : h < 6) : OutT T (doneS T q h e a) := by
  unfold doneS
  have h2 : OutT T (upT (upT T q 5 (min99 (T q 5 + e))) q 2 (upT T q 5 (min99 (T q 5 + e)) q 2 ||| oneS a)) := (OutT.rf.up (by omega)).up (by omega)
  refine OutT.up ?_ (by omega)
  show OutT T (if h = q then _ else _)
  split
  · exact h2
  · exact h2.up (by omega)
theorem out_passK {n : Nat} {Lx : Lw} {T : Tb} (hT : okT n T) : ∀ k, k ≤ seatsN T → OutT T (passK Lx T k).1
  | 0, _ => OutT.rf
  | k + 1, hk => by
    have h6 := hT.1
    have ih := out_passK (Lx := Lx) hT k (by omega)
    obtain ⟨h1, h2⟩ := ok_passK (Lx := Lx) hT k (by omega)
    show OutT T (oneStep Lx (passK Lx T k) k).1
    unfold oneStep
    split
    · exact ih.up (by omega)
    · obtain ⟨c, h3, h4⟩ := tell_nat (Lx := Lx) (q := k) h1 (by omega)
      show OutT T (performS Lx (passK Lx T k).1 k _)
      unfold performS
      rw [h3, nI_clamp (by omega)]
      exact ih.trans (out_done (by omega) (by omega))
theorem out_pass {n : Nat} {Lx : Lw} {T : Tb} (hT : okT n T) : OutT T (passS Lx T).1 := (out_passK hT _ (Nat.le_refl _)).up (by omega)
theorem out_passN {n : Nat} {Lx : Lw} {T : Tb} (hT : okT n T) : ∀ k, OutT T (passN Lx T k).1
  | 0 => OutT.rf
  | k + 1 => (out_passN hT k).trans (out_pass (ok_passN (Lx := Lx) hT k).1)
abbrev rm_yX8_keeps : Room := { frames := 0, cells := 0, slots := 0, locals := 0 }
set_option maxHeartbeats 800000 in
set_option maxRecDepth 100000 in
theorem kX8_keeps {l : Launch} {D : va_G} {cA : ClassId} {ad : Nat → Nat} {ρ T σ : Nat → Nat → Int32} {sz : Nat}   : MMv l yX8_keeps cX8_keeps 2 rm_yX8_keeps [.ref (ad 0)] D cA ad ρ T σ sz (fun (u : Nat → Nat → Int32) => u 0 = ρ 0 ∧ KeptOf (u 17) T) (fun u : Nat → Nat → Int32 => ment ad cA u T σ) := by
  refine gw_stV (Ff := fun u : Nat → Nat → Int32 => ment ad cA u T σ) (own := RX8) (by decide +kernel) rfl (Nat.le_of_ble_eq_true rfl) ?_
  intro p e s m ar below meth c A Q F hE hsz hW hret ls hl
  obtain ⟨hx, hb, hml, hown, hts⟩ := id F
  have hl : lv_has ls 2 [(0, .ref (ad 0))] := hl
  refine lv_iconst (v := 0) hx hb dX8_keeps_0 (by decide) ?_
  refine lv_istore_n (lv' := [(1, .int 0), (0, .ref (ad 0))]) hx hb dX8_keeps_1 rfl hl (by decide) rfl (fun ls hl => ?_)
  have L2 : ∀ (k : Nat) (i : Nat) (ρ' : Nat → Nat → Int32), (i ≤ 30) → (31 ≤ i + k) → (ρ' 0 = ρ 0) → (∀ j, j < i → ρ' 17 j = keepF T j) → ∀ (H : Heap) (locs : List Loc) (ls : Array Slot), MW D cA ad ρ' T σ A s s.heap H locs → lv_has ls 2 [(1, .int (nI i)), (0, .ref (ad 0))] → W p l e rm_yX8_keeps s m ar below meth c H locs 0 0 Q (F0 m 2 ls []) := by
    intro k
    induction k with
    | zero => intro i ρ' h1 h2 h0 hkk; exact absurd h2 (by omega)
    | succ k ih2 =>
      intro i ρ' h1 h2 h0 hkk H locs ls hW hl
      refine lv_iload_n hx hb dX8_keeps_2 rfl (lv_at hl 0 rfl) ?_
      refine lv_bipush (v := 30) hx hb dX8_keeps_3 (by decide) ?_
      refine lv_icmp_ge (tgt := 26) hx hb dX8_keeps_5 (by decide) (fun c_1 => ?_) (fun c_1 => ?_)
      ·
        obtain rfl : i = 30 := by have := mi_le (a := 30) (b := i) c_1 (by decide) (by omega); omega
        refine lv_aload_n hx hb dX8_keeps_26 rfl (lv_at hl 1 rfl) ?_
        refine mr_f F hW 29 (by decide) rfl fl_RX8_58 dX8_keeps_27 ?_
        refine lv_bipush (v := 30) hx hb dX8_keeps_30 (by decide) ?_
        refine lv_aload_n hx hb dX8_keeps_32 rfl (lv_at hl 1 rfl) ?_
        refine mr_f F hW 4 (by decide) rfl fl_RX8_76 dX8_keeps_33 ?_
        refine mw_kept F hW (vp_in_nI (n := 30) (by decide) (by decide)) dX8_keeps_36 (fun H locs hW => ?_)
        have hW : MW D cA ad (upR ρ' 17 30 (T 6 2)) T σ A s s.heap H locs := hW
        exact hret (upR ρ' 17 30 (T 6 2)) _ _ _ _ _ hW rfl (⟨h0, fun j hj => by rw [upR_self, pk_un (by omega)]; exact hkk j hj, by rw [upR_self]; exact pk_us⟩) dX8_keeps_37
      ·
        have hlt : i < 30 := mi_nle (a := 30) (b := i) c_1 (by decide) (by omega)
        refine lv_aload_n hx hb dX8_keeps_8 rfl (lv_at hl 1 rfl) ?_
        refine mr_f F hW 29 (by decide) rfl fl_RX8_58 dX8_keeps_9 ?_
        refine lv_iload_n hx hb dX8_keeps_12 rfl (lv_at hl 0 rfl) ?_
        refine lv_aload_n hx hb dX8_keeps_13 rfl (lv_at hl 1 rfl) ?_
        refine mr_f F hW 3 (by decide) rfl fl_RX8_16 dX8_keeps_14 ?_
        refine lv_iload_n hx hb dX8_keeps_17 rfl (lv_at hl 0 rfl) ?_
        refine mr_rows (i / 5) (i % 5) (by omega) (by omega) (by rw [show 5 * (i / 5) + i % 5 = i by omega]) F hW dX8_keeps_18 ?_
        refine lv_as (z := keepF T i) rfl ?_
        refine mw_kept F hW (vp_in_nI (by omega) (by decide)) dX8_keeps_19 (fun H locs hW => ?_)
        refine lv_iinc (v := nI (i + 1)) (lv' := [(1, .int (nI (i + 1))), (0, .ref (ad 0))]) hx hb dX8_keeps_20 hl (k := 0) rfl (nI_1 i) (by decide) rfl (fun ls hl => ?_)
        refine lv_goto (tgt := 2) hx hb dX8_keeps_23 (by decide) ?_
        exact ih2 (i + 1) (upR ρ' 17 ((nI i).toNatClampNeg) (keepF T i)) (by omega) (by omega) (h0) (by rw [nI_clamp (by omega), upR_self]; exact keep_s hkk) _ _ _ hW (lv_sub hl [0, 1] rfl)
  exact L2 31 0 _ (by omega) (by omega) (rfl) (fun j hj => absurd hj (by omega)) _ _ _ hW (lv_sub hl [0, 1] rfl)
abbrev rm_yX8_lays : Room := { frames := 0, cells := 0, slots := 0, locals := 0 }
set_option maxHeartbeats 800000 in
set_option maxRecDepth 100000 in
theorem kX8_lays {l : Launch} {D : va_G} {cA : ClassId} {ad : Nat → Nat} {ρ T σ : Nat → Nat → Int32} {sz : Nat}   : MMv l yX8_lays cX8_lays 2 rm_yX8_lays [.ref (ad 0)] D cA ad ρ T σ sz (fun (u : Tb) => u = layT T (ρ 17)) (fun u : Tb => ment ad cA ρ u σ) := by
  refine gw_stV (Ff := fun u : Tb => ment ad cA ρ u σ) (own := RX8) (by decide +kernel) rfl (Nat.le_of_ble_eq_true rfl) ?_
  intro p e s m ar below meth c A Q F hE hsz hW hret ls hl
  obtain ⟨hx, hb, hml, hown, hts⟩ := id F
  have hl : lv_has ls 2 [(0, .ref (ad 0))] := hl
  refine lv_iconst (v := 0) hx hb dX8_lays_0 (by decide) ?_
  refine lv_istore_n (lv' := [(1, .int 0), (0, .ref (ad 0))]) hx hb dX8_lays_1 rfl hl (by decide) rfl (fun ls hl => ?_)
  have hW : MW D cA ad ρ (layK T (ρ 17) 0) σ A s s.heap s.heap [] := by rw [layK_0]; exact hW
  have L2 : ∀ (k : Nat) (i : Nat), (i ≤ 30) → (31 ≤ i + k) → ∀ (H : Heap) (locs : List Loc) (ls : Array Slot), MW D cA ad ρ (layK T (ρ 17) i) σ A s s.heap H locs → lv_has ls 2 [(1, .int (nI i)), (0, .ref (ad 0))] → W p l e rm_yX8_lays s m ar below meth c H locs 0 0 Q (F0 m 2 ls []) := by
    intro k
    induction k with
    | zero => intro i h1 h2; exact absurd h2 (by omega)
    | succ k ih2 =>
      intro i h1 h2 H locs ls hW hl
      refine lv_iload_n hx hb dX8_lays_2 rfl (lv_at hl 0 rfl) ?_
      refine lv_bipush (v := 30) hx hb dX8_lays_3 (by decide) ?_
      refine lv_icmp_ge (tgt := 26) hx hb dX8_lays_5 (by decide) (fun c_1 => ?_) (fun c_1 => ?_)
      ·
        obtain rfl : i = 30 := by have := mi_le (a := 30) (b := i) c_1 (by decide) (by omega); omega
        refine lv_aload_n hx hb dX8_lays_26 rfl (lv_at hl 1 rfl) ?_
        refine lv_aload_n hx hb dX8_lays_27 rfl (lv_at hl 1 rfl) ?_
        refine mr_f F hW 29 (by decide) rfl fl_RX8_58 dX8_lays_28 ?_
        refine lv_bipush (v := 30) hx hb dX8_lays_31 (by decide) ?_
        refine mr_kept F hW (vp_in_nI (n := 30) (by decide) (by decide)) dX8_lays_33 ?_
        refine lv_as (z := ρ 17 30) rfl ?_
        refine mw_T (j := 2) F hW 4 (by decide) fl_RX8_76 dX8_lays_34 (fun H locs hW => ?_)
        exact hret (upT (layK T (ρ 17) 30) 6 2 (ρ 17 30)) _ _ _ _ _ hW rfl (rfl) dX8_lays_37
      ·
        have hlt : i < 30 := mi_nle (a := 30) (b := i) c_1 (by decide) (by omega)
        refine lv_aload_n hx hb dX8_lays_8 rfl (lv_at hl 1 rfl) ?_
        refine mr_f F hW 3 (by decide) rfl fl_RX8_16 dX8_lays_9 ?_
        refine lv_iload_n hx hb dX8_lays_12 rfl (lv_at hl 0 rfl) ?_
        refine lv_aload_n hx hb dX8_lays_13 rfl (lv_at hl 1 rfl) ?_
        refine mr_f F hW 29 (by decide) rfl fl_RX8_58 dX8_lays_14 ?_
        refine lv_iload_n hx hb dX8_lays_17 rfl (lv_at hl 0 rfl) ?_
        refine mr_kept F hW (vp_in_nI (by omega) (by decide)) dX8_lays_18 ?_
        refine lv_as (z := ρ 17 i) (by rw [nI_clamp (by omega)]) ?_
        refine mw_rows (i / 5) (i % 5) (by omega) (by omega) (by rw [show 5 * (i / 5) + i % 5 = i by omega]) F hW dX8_lays_19 (fun H locs hW => ?_)
        have hW : MW D cA ad ρ (layK T (ρ 17) (i + 1)) σ A s s.heap H locs := by rw [← layK_s hlt]; exact hW
        refine lv_iinc (v := nI (i + 1)) (lv' := [(1, .int (nI (i + 1))), (0, .ref (ad 0))]) hx hb dX8_lays_20 hl (k := 0) rfl (nI_1 i) (by decide) rfl (fun ls hl => ?_)
        refine lv_goto (tgt := 2) hx hb dX8_lays_23 (by decide) ?_
        exact ih2 (i + 1) (by omega) (by omega) _ _ _ hW (lv_sub hl [0, 1] rfl)
  exact L2 31 0 (by omega) (by omega) _ _ _ hW (lv_sub hl [0, 1] rfl)
