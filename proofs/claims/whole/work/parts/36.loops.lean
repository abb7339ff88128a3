abbrev rm_yX4_stuckBits : Room := { frames := 5, cells := 0, slots := 0, locals := 111 }
set_option maxHeartbeats 800000 in
set_option maxRecDepth 100000 in
theorem kX4_stuckBits {l : Launch} {D : va_G} {cs : Nat → ClassId} {ad : Nat → Nat} {n : Nat} {ρ σ : Nat → Nat → Int32} {TT τ : Nat → Nat → Nat → Int32} {sz : Nat} {b : Nat} (hb : b < 3) (hT : okT n (TT b)) (hX : okX n τ) : XMi l yX4_stuckBits cX4_stuckBits 3 FieldType.int rm_yX4_stuckBits [.ref (ad (9 + 8 * b))] D cs ad n ρ TT τ σ sz (fun (r : Int32) (u : Nat → Nat → Int32) => r = stuckK (xLx n τ) (TT b) (seatsN (TT b))) (fun u : Nat → Nat → Int32 => xent ad cs n u TT τ σ) := by
  refine gw_stI (Ff := fun u : Nat → Nat → Int32 => xent ad cs n u TT τ σ) (own := RX4) (by decide +kernel) rfl (Nat.le_of_ble_eq_true rfl) ?_
  intro p e s m ar below meth c A Q F hE hsz hW hret ls hl
  obtain ⟨hx, hb, hml, hown, hts⟩ := id F
  have hl : lv_has ls 3 [(0, .ref (ad (9 + 8 * b)))] := hl
  have hs6 := hT.1
  have hsN := hT.2.1
  refine lv_iconst (v := 0) hx hb dX4_stuckBits_0 (by decide) ?_
  refine lv_istore_n (lv' := [(1, .int 0), (0, .ref (ad (9 + 8 * b)))]) hx hb dX4_stuckBits_1 rfl hl (by decide) rfl (fun ls hl => ?_)
  refine lv_iconst (v := 0) hx hb dX4_stuckBits_2 (by decide) ?_
  refine lv_istore_n (lv' := [(2, .int 0), (1, .int 0), (0, .ref (ad (9 + 8 * b)))]) hx hb dX4_stuckBits_3 rfl hl (by decide) rfl (fun ls hl => ?_)
  have L4 : ∀ (k : Nat) (i : Nat) (ρ' : Nat → Nat → Int32) (x : Int32), (i ≤ seatsN (TT b)) → (seatsN (TT b) + 1 ≤ i + k) → (x = stuckK (xLx n τ) (TT b) i) → ∀ (H : Heap) (locs : List Loc) (ls : Array Slot), XW D cs ad n ρ' TT τ σ A s s.heap H locs → lv_has ls 3 [(2, .int (nI i)), (1, .int x), (0, .ref (ad (9 + 8 * b)))] → W p l e rm_yX4_stuckBits s m ar below meth c H locs 0 0 Q (F0 m 4 ls []) := by
    intro k
    induction k with
    | zero => intro i ρ' x h1 h2 hxx; exact absurd h2 (by omega)
    | succ k ih4 =>
      intro i ρ' x h1 h2 hxx H locs ls hW hl
      refine lv_iload_n hx hb dX4_stuckBits_4 rfl (lv_at hl 0 rfl) ?_
      refine lv_aload_n hx hb dX4_stuckBits_5 rfl (lv_at hl 2 rfl) ?_
      refine xr_Ti (b := b) F hW (by omega) 1 (by decide) fl_RX4_22 dX4_stuckBits_6 ?_
      refine lv_as (z := nI (seatsN (TT b))) (hsN) ?_
      refine lv_icmp_ge (tgt := 37) hx hb dX4_stuckBits_9 (by decide) (fun c_1 => ?_) (fun c_1 => ?_)
      ·
        obtain rfl : i = seatsN (TT b) := by have := mi_le c_1 (by omega) (by omega); omega
        refine lv_iload_n hx hb dX4_stuckBits_37 rfl (lv_at hl 1 rfl) ?_
        exact hret x _ _ _ _ _ _ hW rfl rfl (hxx) dX4_stuckBits_38
      ·
        have hlt : i < seatsN (TT b) := mi_nle c_1 (by omega) (by omega)
        refine lv_aload_n hx hb dX4_stuckBits_12 rfl (lv_at hl 2 rfl) ?_
        refine lv_aload_n hx hb dX4_stuckBits_13 rfl (lv_at hl 2 rfl) ?_
        refine xr_Tg (b := b) F hW (by omega) fl_RX4_17 dX4_stuckBits_14 ?_
        refine lv_iload_n hx hb dX4_stuckBits_17 rfl (lv_at hl 0 rfl) ?_
        refine xr_Rn (b := b) (q := i) rfl (by omega) F hW (by omega) dX4_stuckBits_18 ?_
        refine gw_callVi (As := [.ref (ad (9 + 8 * b + 1 + 1 + i))]) (rest := []) F hl.1 hW (fun _ _ hw => va_Nw.warmM hw hE) XE_E (by omega) (xe_T (b := b) (by omega)) rfl (kX4_isStuck (b := b) (q := i) (by omega) hT hlt hX) pd_yX4_isStuck ml_RX4_119 im_yX4_isStuck se_yX4_isStuck ini_RX4 cd_yX4_isStuck ⟨rfl, rfl⟩ ⟨Nat.le_of_ble_eq_true rfl, Nat.le_of_ble_eq_true rfl⟩ rfl rfl (Nat.le_of_ble_eq_true rfl) ⟨Nat.zero_le _, Nat.zero_le _⟩ dX4_stuckBits_19 (fun r ρ_2 H locs hp hW _ _ => ?_)
        subst hp
        refine lv_if_eq (tgt := 31) hx hb dX4_stuckBits_22 (by decide) (fun c_3 => ?_) (fun c_3 => ?_)
        ·
          refine lv_iinc (v := nI (i + 1)) (lv' := [(2, .int (nI (i + 1))), (1, .int x), (0, .ref (ad (9 + 8 * b)))]) hx hb dX4_stuckBits_31 hl (k := 0) rfl (nI_1 i) (by decide) rfl (fun ls hl => ?_)
          refine lv_goto (tgt := 4) hx hb dX4_stuckBits_34 (by decide) ?_
          exact ih4 (i + 1) _ _ (by omega) (by omega) (by show _ = (if stuckS (xLx n τ) (TT b) i = 0 then stuckK (xLx n τ) (TT b) i else stuckK (xLx n τ) (TT b) i ||| oneS (nI i)); rw [if_pos c_3, hxx]; try rfl) _ _ _ hW (lv_sub hl [0, 1, 2] rfl)
        ·
          refine lv_iload_n hx hb dX4_stuckBits_25 rfl (lv_at hl 1 rfl) ?_
          refine lv_iconst (v := 1) hx hb dX4_stuckBits_26 (by decide) ?_
          refine lv_iload_n hx hb dX4_stuckBits_27 rfl (lv_at hl 0 rfl) ?_
          refine lv_ishl hx hb dX4_stuckBits_28 ?_
          refine lv_ior hx hb dX4_stuckBits_29 ?_
          refine lv_topi (fun v_4 ev_4 => ?_)
          refine lv_istore_n (lv' := [(1, .int v_4), (2, .int (nI i)), (0, .ref (ad (9 + 8 * b)))]) hx hb dX4_stuckBits_30 rfl hl (by decide) rfl (fun ls hl => ?_)
          refine lv_iinc (v := nI (i + 1)) (lv' := [(2, .int (nI (i + 1))), (1, .int v_4), (0, .ref (ad (9 + 8 * b)))]) hx hb dX4_stuckBits_31 hl (k := 1) rfl (nI_1 i) (by decide) rfl (fun ls hl => ?_)
          refine lv_goto (tgt := 4) hx hb dX4_stuckBits_34 (by decide) ?_
          exact ih4 (i + 1) _ _ (by omega) (by omega) (by subst ev_4; show _ = (if stuckS (xLx n τ) (TT b) i = 0 then stuckK (xLx n τ) (TT b) i else stuckK (xLx n τ) (TT b) i ||| oneS (nI i)); rw [if_neg c_3, hxx]; try rfl) _ _ _ hW (lv_sub hl [0, 1, 2] rfl)
  exact L4 (seatsN (TT b) + 1) 0 _ _ (Nat.zero_le _) (by omega) (rfl) _ _ _ hW (lv_sub hl [0, 1, 2] rfl)
abbrev rm_yX4_dangerBits : Room := { frames := 0, cells := 0, slots := 0, locals := 0 }
set_option maxHeartbeats 800000 in
set_option maxRecDepth 100000 in
theorem kX4_dangerBits {l : Launch} {D : va_G} {cs : Nat → ClassId} {ad : Nat → Nat} {n : Nat} {ρ σ : Nat → Nat → Int32} {TT τ : Nat → Nat → Nat → Int32} {sz : Nat} {b : Nat} (hb : b < 3) (hT : okT n (TT b)) (hX : okX n τ) : XMi l yX4_dangerBits cX4_dangerBits 3 FieldType.int rm_yX4_dangerBits [.ref (ad (9 + 8 * b))] D cs ad n ρ TT τ σ sz (fun (r : Int32) (u : Nat → Nat → Int32) => r = dangerK (TT b) (seatsN (TT b))) (fun u : Nat → Nat → Int32 => xent ad cs n u TT τ σ) := by
  refine gw_stI (Ff := fun u : Nat → Nat → Int32 => xent ad cs n u TT τ σ) (own := RX4) (by decide +kernel) rfl (Nat.le_of_ble_eq_true rfl) ?_
  intro p e s m ar below meth c A Q F hE hsz hW hret ls hl
  obtain ⟨hx, hb, hml, hown, hts⟩ := id F
  have hl : lv_has ls 3 [(0, .ref (ad (9 + 8 * b)))] := hl
  have hs6 := hT.1
  have hsN := hT.2.1
  refine lv_iconst (v := 0) hx hb dX4_dangerBits_0 (by decide) ?_
  refine lv_istore_n (lv' := [(1, .int 0), (0, .ref (ad (9 + 8 * b)))]) hx hb dX4_dangerBits_1 rfl hl (by decide) rfl (fun ls hl => ?_)
  refine lv_iconst (v := 0) hx hb dX4_dangerBits_2 (by decide) ?_
  refine lv_istore_n (lv' := [(2, .int 0), (1, .int 0), (0, .ref (ad (9 + 8 * b)))]) hx hb dX4_dangerBits_3 rfl hl (by decide) rfl (fun ls hl => ?_)
  have L4 : ∀ (k : Nat) (i : Nat) (ρ' : Nat → Nat → Int32) (x : Int32), (i ≤ seatsN (TT b)) → (seatsN (TT b) + 1 ≤ i + k) → (x = dangerK (TT b) i) → ∀ (H : Heap) (locs : List Loc) (ls : Array Slot), XW D cs ad n ρ' TT τ σ A s s.heap H locs → lv_has ls 3 [(2, .int (nI i)), (1, .int x), (0, .ref (ad (9 + 8 * b)))] → W p l e rm_yX4_dangerBits s m ar below meth c H locs 0 0 Q (F0 m 4 ls []) := by
    intro k
    induction k with
    | zero => intro i ρ' x h1 h2 hxx; exact absurd h2 (by omega)
    | succ k ih4 =>
      intro i ρ' x h1 h2 hxx H locs ls hW hl
      refine lv_iload_n hx hb dX4_dangerBits_4 rfl (lv_at hl 0 rfl) ?_
      refine lv_aload_n hx hb dX4_dangerBits_5 rfl (lv_at hl 2 rfl) ?_
      refine xr_Ti (b := b) F hW (by omega) 1 (by decide) fl_RX4_22 dX4_dangerBits_6 ?_
      refine lv_as (z := nI (seatsN (TT b))) (hsN) ?_
      refine lv_icmp_ge (tgt := 36) hx hb dX4_dangerBits_9 (by decide) (fun c_1 => ?_) (fun c_1 => ?_)
      ·
        obtain rfl : i = seatsN (TT b) := by have := mi_le c_1 (by omega) (by omega); omega
        refine lv_iload_n hx hb dX4_dangerBits_36 rfl (lv_at hl 1 rfl) ?_
        exact hret x _ _ _ _ _ _ hW rfl rfl (hxx) dX4_dangerBits_37
      ·
        have hlt : i < seatsN (TT b) := mi_nle c_1 (by omega) (by omega)
        refine lv_aload_n hx hb dX4_dangerBits_12 rfl (lv_at hl 2 rfl) ?_
        refine xr_Tg (b := b) F hW (by omega) fl_RX4_17 dX4_dangerBits_13 ?_
        refine lv_iload_n hx hb dX4_dangerBits_16 rfl (lv_at hl 0 rfl) ?_
        refine xr_Rn (b := b) (q := i) rfl (by omega) F hW (by omega) dX4_dangerBits_17 ?_
        refine xr_G (b := b) (q := i) F hW (by omega) (by omega) 6 (by decide) fl_RX4_68 dX4_dangerBits_18 ?_
        refine lv_if_eq (tgt := 30) hx hb dX4_dangerBits_21 (by decide) (fun c_2 => ?_) (fun c_2 => ?_)
        ·
          refine lv_iinc (v := nI (i + 1)) (lv' := [(2, .int (nI (i + 1))), (1, .int x), (0, .ref (ad (9 + 8 * b)))]) hx hb dX4_dangerBits_30 hl (k := 0) rfl (nI_1 i) (by decide) rfl (fun ls hl => ?_)
          refine lv_goto (tgt := 4) hx hb dX4_dangerBits_33 (by decide) ?_
          exact ih4 (i + 1) _ _ (by omega) (by omega) (by show _ = (if TT b i 6 = 0 then dangerK (TT b) i else dangerK (TT b) i ||| oneS (nI i)); rw [if_pos c_2, hxx]; try rfl) _ _ _ hW (lv_sub hl [0, 1, 2] rfl)
        ·
          refine lv_iload_n hx hb dX4_dangerBits_24 rfl (lv_at hl 1 rfl) ?_
          refine lv_iconst (v := 1) hx hb dX4_dangerBits_25 (by decide) ?_
          refine lv_iload_n hx hb dX4_dangerBits_26 rfl (lv_at hl 0 rfl) ?_
          refine lv_ishl hx hb dX4_dangerBits_27 ?_
          refine lv_ior hx hb dX4_dangerBits_28 ?_
          refine lv_topi (fun v_3 ev_3 => ?_)
          refine lv_istore_n (lv' := [(1, .int v_3), (2, .int (nI i)), (0, .ref (ad (9 + 8 * b)))]) hx hb dX4_dangerBits_29 rfl hl (by decide) rfl (fun ls hl => ?_)
          refine lv_iinc (v := nI (i + 1)) (lv' := [(2, .int (nI (i + 1))), (1, .int v_3), (0, .ref (ad (9 + 8 * b)))]) hx hb dX4_dangerBits_30 hl (k := 1) rfl (nI_1 i) (by decide) rfl (fun ls hl => ?_)
          refine lv_goto (tgt := 4) hx hb dX4_dangerBits_33 (by decide) ?_
          exact ih4 (i + 1) _ _ (by omega) (by omega) (by subst ev_3; show _ = (if TT b i 6 = 0 then dangerK (TT b) i else dangerK (TT b) i ||| oneS (nI i)); rw [if_neg c_2, hxx]; try rfl) _ _ _ hW (lv_sub hl [0, 1, 2] rfl)
  exact L4 (seatsN (TT b) + 1) 0 _ _ (Nat.zero_le _) (by omega) (rfl) _ _ _ hW (lv_sub hl [0, 1, 2] rfl)
abbrev rm_yX4_rightForAnybody : Room := { frames := 4, cells := 0, slots := 0, locals := 90 }
set_option maxHeartbeats 800000 in
set_option maxRecDepth 100000 in
theorem kX4_rightForAnybody {l : Launch} {D : va_G} {cs : Nat → ClassId} {ad : Nat → Nat} {n : Nat} {ρ σ : Nat → Nat → Int32} {TT τ : Nat → Nat → Nat → Int32} {sz : Nat} {b : Nat} (hb : b < 3) (hT : okT n (TT b)) (hX : okX n τ) : XMi l yX4_rightForAnybody cX4_rightForAnybody 3 FieldType.int rm_yX4_rightForAnybody [.ref (ad (9 + 8 * b))] D cs ad n ρ TT τ σ sz (fun (r : Int32) (u : Nat → Nat → Int32) => r = anyK (xLx n τ) (TT b) (seatsN (TT b))) (fun u : Nat → Nat → Int32 => xent ad cs n u TT τ σ) := by
  refine gw_stI (Ff := fun u : Nat → Nat → Int32 => xent ad cs n u TT τ σ) (own := RX4) (by decide +kernel) rfl (Nat.le_of_ble_eq_true rfl) ?_
  intro p e s m ar below meth c A Q F hE hsz hW hret ls hl
  obtain ⟨hx, hb, hml, hown, hts⟩ := id F
  have hl : lv_has ls 3 [(0, .ref (ad (9 + 8 * b)))] := hl
  have hs6 := hT.1
  have hsN := hT.2.1
  refine lv_iconst (v := 0) hx hb dX4_rightForAnybody_0 (by decide) ?_
  refine lv_istore_n (lv' := [(1, .int 0), (0, .ref (ad (9 + 8 * b)))]) hx hb dX4_rightForAnybody_1 rfl hl (by decide) rfl (fun ls hl => ?_)
  refine lv_iconst (v := 0) hx hb dX4_rightForAnybody_2 (by decide) ?_
  refine lv_istore_n (lv' := [(2, .int 0), (1, .int 0), (0, .ref (ad (9 + 8 * b)))]) hx hb dX4_rightForAnybody_3 rfl hl (by decide) rfl (fun ls hl => ?_)
  have L4 : ∀ (k : Nat) (i : Nat) (ρ' : Nat → Nat → Int32) (x : Int32), (i ≤ seatsN (TT b)) → (seatsN (TT b) + 1 ≤ i + k) → (x = anyK (xLx n τ) (TT b) i) → ∀ (H : Heap) (locs : List Loc) (ls : Array Slot), XW D cs ad n ρ' TT τ σ A s s.heap H locs → lv_has ls 3 [(2, .int (nI i)), (1, .int x), (0, .ref (ad (9 + 8 * b)))] → W p l e rm_yX4_rightForAnybody s m ar below meth c H locs 0 0 Q (F0 m 4 ls []) := by
    intro k
    induction k with
    | zero => intro i ρ' x h1 h2 hxx; exact absurd h2 (by omega)
    | succ k ih4 =>
      intro i ρ' x h1 h2 hxx H locs ls hW hl
      refine lv_iload_n hx hb dX4_rightForAnybody_4 rfl (lv_at hl 0 rfl) ?_
      refine lv_aload_n hx hb dX4_rightForAnybody_5 rfl (lv_at hl 2 rfl) ?_
      refine xr_Ti (b := b) F hW (by omega) 1 (by decide) fl_RX4_22 dX4_rightForAnybody_6 ?_
      refine lv_as (z := nI (seatsN (TT b))) (hsN) ?_
      refine lv_icmp_ge (tgt := 37) hx hb dX4_rightForAnybody_9 (by decide) (fun c_1 => ?_) (fun c_1 => ?_)
      ·
        obtain rfl : i = seatsN (TT b) := by have := mi_le c_1 (by omega) (by omega); omega
        refine lv_iload_n hx hb dX4_rightForAnybody_37 rfl (lv_at hl 1 rfl) ?_
        exact hret x _ _ _ _ _ _ hW rfl rfl (hxx) dX4_rightForAnybody_38
      ·
        have hlt : i < seatsN (TT b) := mi_nle c_1 (by omega) (by omega)
        refine lv_iload_n hx hb dX4_rightForAnybody_12 rfl (lv_at hl 1 rfl) ?_
        refine lv_sipush (v := 1023) hx hb dX4_rightForAnybody_13 (by decide) ?_
        refine lv_aload_n hx hb dX4_rightForAnybody_16 rfl (lv_at hl 2 rfl) ?_
        refine lv_aload_n hx hb dX4_rightForAnybody_17 rfl (lv_at hl 2 rfl) ?_
        refine xr_Tg (b := b) F hW (by omega) fl_RX4_17 dX4_rightForAnybody_18 ?_
        refine lv_iload_n hx hb dX4_rightForAnybody_21 rfl (lv_at hl 0 rfl) ?_
        refine xr_Rn (b := b) (q := i) rfl (by omega) F hW (by omega) dX4_rightForAnybody_22 ?_
        refine gw_callVi (As := [.ref (ad (9 + 8 * b + 1 + 1 + i))]) (rest := [.int 1023, .int x]) F hl.1 hW (fun _ _ hw => va_Nw.warmM hw hE) XE_E (by omega) (xe_T (b := b) (by omega)) rfl (kX4_minded (b := b) (q := i) (by omega) hT hlt hX) pd_yX4_minded ml_RX4_72 im_yX4_minded se_yX4_minded ini_RX4 cd_yX4_minded ⟨rfl, rfl⟩ ⟨Nat.le_of_ble_eq_true rfl, Nat.le_of_ble_eq_true rfl⟩ rfl rfl (Nat.le_of_ble_eq_true rfl) ⟨Nat.zero_le _, Nat.zero_le _⟩ dX4_rightForAnybody_23 (fun r ρ_2 H locs hp hW _ _ => ?_)
        subst hp
        refine lv_iconst (v := (-1)) hx hb dX4_rightForAnybody_26 (by decide) ?_
        refine lv_ixor hx hb dX4_rightForAnybody_27 ?_
        refine lv_iand hx hb dX4_rightForAnybody_28 ?_
        refine lv_ior hx hb dX4_rightForAnybody_29 ?_
        refine lv_topi (fun v_3 ev_3 => ?_)
        refine lv_istore_n (lv' := [(1, .int v_3), (2, .int (nI i)), (0, .ref (ad (9 + 8 * b)))]) hx hb dX4_rightForAnybody_30 rfl hl (by decide) rfl (fun ls hl => ?_)
        refine lv_iinc (v := nI (i + 1)) (lv' := [(2, .int (nI (i + 1))), (1, .int v_3), (0, .ref (ad (9 + 8 * b)))]) hx hb dX4_rightForAnybody_31 hl (k := 1) rfl (nI_1 i) (by decide) rfl (fun ls hl => ?_)
        refine lv_goto (tgt := 4) hx hb dX4_rightForAnybody_34 (by decide) ?_
        exact ih4 (i + 1) _ _ (by omega) (by omega) (by subst ev_3; show _ = (anyK (xLx n τ) (TT b) i ||| (1023 &&& (mindS (xLx n τ) (TT b) i ^^^ -1))); rw [hxx]; try rfl) _ _ _ hW (lv_sub hl [0, 1, 2] rfl)
  exact L4 (seatsN (TT b) + 1) 0 _ _ (Nat.zero_le _) (by omega) (rfl) _ _ _ hW (lv_sub hl [0, 1, 2] rfl)
abbrev rm_yX4_rightForAll : Room := { frames := 4, cells := 0, slots := 0, locals := 90 }
set_option maxHeartbeats 800000 in
set_option maxRecDepth 100000 in
theorem kX4_rightForAll {l : Launch} {D : va_G} {cs : Nat → ClassId} {ad : Nat → Nat} {n : Nat} {ρ σ : Nat → Nat → Int32} {TT τ : Nat → Nat → Nat → Int32} {sz : Nat} {b : Nat} (hb : b < 3) (hT : okT n (TT b)) (hX : okX n τ) : XMi l yX4_rightForAll cX4_rightForAll 3 FieldType.int rm_yX4_rightForAll [.ref (ad (9 + 8 * b))] D cs ad n ρ TT τ σ sz (fun (r : Int32) (u : Nat → Nat → Int32) => r = allK (xLx n τ) (TT b) (seatsN (TT b))) (fun u : Nat → Nat → Int32 => xent ad cs n u TT τ σ) := by
  refine gw_stI (Ff := fun u : Nat → Nat → Int32 => xent ad cs n u TT τ σ) (own := RX4) (by decide +kernel) rfl (Nat.le_of_ble_eq_true rfl) ?_
  intro p e s m ar below meth c A Q F hE hsz hW hret ls hl
  obtain ⟨hx, hb, hml, hown, hts⟩ := id F
  have hl : lv_has ls 3 [(0, .ref (ad (9 + 8 * b)))] := hl
  have hs6 := hT.1
  have hsN := hT.2.1
  refine lv_sipush (v := 1023) hx hb dX4_rightForAll_0 (by decide) ?_
  refine lv_istore_n (lv' := [(1, .int 1023), (0, .ref (ad (9 + 8 * b)))]) hx hb dX4_rightForAll_3 rfl hl (by decide) rfl (fun ls hl => ?_)
  refine lv_iconst (v := 0) hx hb dX4_rightForAll_4 (by decide) ?_
  refine lv_istore_n (lv' := [(2, .int 0), (1, .int 1023), (0, .ref (ad (9 + 8 * b)))]) hx hb dX4_rightForAll_5 rfl hl (by decide) rfl (fun ls hl => ?_)
  have L6 : ∀ (k : Nat) (i : Nat) (ρ' : Nat → Nat → Int32) (x : Int32), (i ≤ seatsN (TT b)) → (seatsN (TT b) + 1 ≤ i + k) → (x = allK (xLx n τ) (TT b) i) → ∀ (H : Heap) (locs : List Loc) (ls : Array Slot), XW D cs ad n ρ' TT τ σ A s s.heap H locs → lv_has ls 3 [(2, .int (nI i)), (1, .int x), (0, .ref (ad (9 + 8 * b)))] → W p l e rm_yX4_rightForAll s m ar below meth c H locs 0 0 Q (F0 m 6 ls []) := by
    intro k
    induction k with
    | zero => intro i ρ' x h1 h2 hxx; exact absurd h2 (by omega)
    | succ k ih6 =>
      intro i ρ' x h1 h2 hxx H locs ls hW hl
      refine lv_iload_n hx hb dX4_rightForAll_6 rfl (lv_at hl 0 rfl) ?_
      refine lv_aload_n hx hb dX4_rightForAll_7 rfl (lv_at hl 2 rfl) ?_
      refine xr_Ti (b := b) F hW (by omega) 1 (by decide) fl_RX4_22 dX4_rightForAll_8 ?_
      refine lv_as (z := nI (seatsN (TT b))) (hsN) ?_
      refine lv_icmp_ge (tgt := 35) hx hb dX4_rightForAll_11 (by decide) (fun c_1 => ?_) (fun c_1 => ?_)
      ·
        obtain rfl : i = seatsN (TT b) := by have := mi_le c_1 (by omega) (by omega); omega
        refine lv_iload_n hx hb dX4_rightForAll_35 rfl (lv_at hl 1 rfl) ?_
        exact hret x _ _ _ _ _ _ hW rfl rfl (hxx) dX4_rightForAll_36
      ·
        have hlt : i < seatsN (TT b) := mi_nle c_1 (by omega) (by omega)
        refine lv_iload_n hx hb dX4_rightForAll_14 rfl (lv_at hl 1 rfl) ?_
        refine lv_aload_n hx hb dX4_rightForAll_15 rfl (lv_at hl 2 rfl) ?_
        refine lv_aload_n hx hb dX4_rightForAll_16 rfl (lv_at hl 2 rfl) ?_
        refine xr_Tg (b := b) F hW (by omega) fl_RX4_17 dX4_rightForAll_17 ?_
        refine lv_iload_n hx hb dX4_rightForAll_20 rfl (lv_at hl 0 rfl) ?_
        refine xr_Rn (b := b) (q := i) rfl (by omega) F hW (by omega) dX4_rightForAll_21 ?_
        refine gw_callVi (As := [.ref (ad (9 + 8 * b + 1 + 1 + i))]) (rest := [.int x]) F hl.1 hW (fun _ _ hw => va_Nw.warmM hw hE) XE_E (by omega) (xe_T (b := b) (by omega)) rfl (kX4_minded (b := b) (q := i) (by omega) hT hlt hX) pd_yX4_minded ml_RX4_72 im_yX4_minded se_yX4_minded ini_RX4 cd_yX4_minded ⟨rfl, rfl⟩ ⟨Nat.le_of_ble_eq_true rfl, Nat.le_of_ble_eq_true rfl⟩ rfl rfl (Nat.le_of_ble_eq_true rfl) ⟨Nat.zero_le _, Nat.zero_le _⟩ dX4_rightForAll_22 (fun r ρ_2 H locs hp hW _ _ => ?_)
        subst hp
        refine lv_iconst (v := (-1)) hx hb dX4_rightForAll_25 (by decide) ?_
        refine lv_ixor hx hb dX4_rightForAll_26 ?_
        refine lv_iand hx hb dX4_rightForAll_27 ?_
        refine lv_topi (fun v_3 ev_3 => ?_)
        refine lv_istore_n (lv' := [(1, .int v_3), (2, .int (nI i)), (0, .ref (ad (9 + 8 * b)))]) hx hb dX4_rightForAll_28 rfl hl (by decide) rfl (fun ls hl => ?_)
        refine lv_iinc (v := nI (i + 1)) (lv' := [(2, .int (nI (i + 1))), (1, .int v_3), (0, .ref (ad (9 + 8 * b)))]) hx hb dX4_rightForAll_29 hl (k := 1) rfl (nI_1 i) (by decide) rfl (fun ls hl => ?_)
        refine lv_goto (tgt := 6) hx hb dX4_rightForAll_32 (by decide) ?_
        exact ih6 (i + 1) _ _ (by omega) (by omega) (by subst ev_3; show _ = (allK (xLx n τ) (TT b) i &&& (mindS (xLx n τ) (TT b) i ^^^ -1)); rw [hxx]; try rfl) _ _ _ hW (lv_sub hl [0, 1, 2] rfl)
  exact L6 (seatsN (TT b) + 1) 0 _ _ (Nat.zero_le _) (by omega) (rfl) _ _ _ hW (lv_sub hl [0, 1, 2] rfl)
abbrev rm_yX4_ateTogether : Room := { frames := 0, cells := 0, slots := 0, locals := 0 }
set_option maxHeartbeats 800000 in
set_option maxRecDepth 100000 in
theorem kX4_ateTogether {l : Launch} {D : va_G} {cs : Nat → ClassId} {ad : Nat → Nat} {n : Nat} {ρ σ : Nat → Nat → Int32} {TT τ : Nat → Nat → Nat → Int32} {sz : Nat} {b : Nat} (hb : b < 3) (hT : okT n (TT b)) (hX : okX n τ) : XMi l yX4_ateTogether cX4_ateTogether 3 FieldType.int rm_yX4_ateTogether [.ref (ad (9 + 8 * b))] D cs ad n ρ TT τ σ sz (fun (r : Int32) (u : Nat → Nat → Int32) => r = ateK (TT b) (seatsN (TT b))) (fun u : Nat → Nat → Int32 => xent ad cs n u TT τ σ) := by
  refine gw_stI (Ff := fun u : Nat → Nat → Int32 => xent ad cs n u TT τ σ) (own := RX4) (by decide +kernel) rfl (Nat.le_of_ble_eq_true rfl) ?_
  intro p e s m ar below meth c A Q F hE hsz hW hret ls hl
  obtain ⟨hx, hb, hml, hown, hts⟩ := id F
  have hl : lv_has ls 3 [(0, .ref (ad (9 + 8 * b)))] := hl
  have hs6 := hT.1
  have hsN := hT.2.1
  refine lv_iconst (v := 0) hx hb dX4_ateTogether_0 (by decide) ?_
  refine lv_istore_n (lv' := [(1, .int 0), (0, .ref (ad (9 + 8 * b)))]) hx hb dX4_ateTogether_1 rfl hl (by decide) rfl (fun ls hl => ?_)
  refine lv_iconst (v := 0) hx hb dX4_ateTogether_2 (by decide) ?_
  refine lv_istore_n (lv' := [(2, .int 0), (1, .int 0), (0, .ref (ad (9 + 8 * b)))]) hx hb dX4_ateTogether_3 rfl hl (by decide) rfl (fun ls hl => ?_)
  have L4 : ∀ (k : Nat) (i : Nat) (ρ' : Nat → Nat → Int32) (x : Int32), (i ≤ seatsN (TT b)) → (seatsN (TT b) + 1 ≤ i + k) → (x = ateK (TT b) i) → ∀ (H : Heap) (locs : List Loc) (ls : Array Slot), XW D cs ad n ρ' TT τ σ A s s.heap H locs → lv_has ls 3 [(2, .int (nI i)), (1, .int x), (0, .ref (ad (9 + 8 * b)))] → W p l e rm_yX4_ateTogether s m ar below meth c H locs 0 0 Q (F0 m 4 ls []) := by
    intro k
    induction k with
    | zero => intro i ρ' x h1 h2 hxx; exact absurd h2 (by omega)
    | succ k ih4 =>
      intro i ρ' x h1 h2 hxx H locs ls hW hl
      refine lv_iload_n hx hb dX4_ateTogether_4 rfl (lv_at hl 0 rfl) ?_
      refine lv_aload_n hx hb dX4_ateTogether_5 rfl (lv_at hl 2 rfl) ?_
      refine xr_Ti (b := b) F hW (by omega) 1 (by decide) fl_RX4_22 dX4_ateTogether_6 ?_
      refine lv_as (z := nI (seatsN (TT b))) (hsN) ?_
      refine lv_icmp_ge (tgt := 30) hx hb dX4_ateTogether_9 (by decide) (fun c_1 => ?_) (fun c_1 => ?_)
      ·
        obtain rfl : i = seatsN (TT b) := by have := mi_le c_1 (by omega) (by omega); omega
        refine lv_iload_n hx hb dX4_ateTogether_30 rfl (lv_at hl 1 rfl) ?_
        exact hret x _ _ _ _ _ _ hW rfl rfl (hxx) dX4_ateTogether_31
      ·
        have hlt : i < seatsN (TT b) := mi_nle c_1 (by omega) (by omega)
        refine lv_iload_n hx hb dX4_ateTogether_12 rfl (lv_at hl 1 rfl) ?_
        refine lv_aload_n hx hb dX4_ateTogether_13 rfl (lv_at hl 2 rfl) ?_
        refine xr_Tg (b := b) F hW (by omega) fl_RX4_17 dX4_ateTogether_14 ?_
        refine lv_iload_n hx hb dX4_ateTogether_17 rfl (lv_at hl 0 rfl) ?_
        refine xr_Rn (b := b) (q := i) rfl (by omega) F hW (by omega) dX4_ateTogether_18 ?_
        refine xr_G (b := b) (q := i) F hW (by omega) (by omega) 5 (by decide) fl_RX4_88 dX4_ateTogether_19 ?_
        refine lv_iadd hx hb dX4_ateTogether_22 ?_
        refine lv_topi (fun v_2 ev_2 => ?_)
        refine lv_istore_n (lv' := [(1, .int v_2), (2, .int (nI i)), (0, .ref (ad (9 + 8 * b)))]) hx hb dX4_ateTogether_23 rfl hl (by decide) rfl (fun ls hl => ?_)
        refine lv_iinc (v := nI (i + 1)) (lv' := [(2, .int (nI (i + 1))), (1, .int v_2), (0, .ref (ad (9 + 8 * b)))]) hx hb dX4_ateTogether_24 hl (k := 1) rfl (nI_1 i) (by decide) rfl (fun ls hl => ?_)
        refine lv_goto (tgt := 4) hx hb dX4_ateTogether_27 (by decide) ?_
        exact ih4 (i + 1) _ _ (by omega) (by omega) (by subst ev_2; show _ = (ateK (TT b) i + TT b i 5); rw [hxx]; try rfl) _ _ _ hW (lv_sub hl [0, 1, 2] rfl)
  exact L4 (seatsN (TT b) + 1) 0 _ _ (Nat.zero_le _) (by omega) (rfl) _ _ _ hW (lv_sub hl [0, 1, 2] rfl)
abbrev rm_yX4_boredTogether : Room := { frames := 0, cells := 0, slots := 0, locals := 0 }
set_option maxHeartbeats 800000 in
set_option maxRecDepth 100000 in
theorem kX4_boredTogether {l : Launch} {D : va_G} {cs : Nat → ClassId} {ad : Nat → Nat} {n : Nat} {ρ σ : Nat → Nat → Int32} {TT τ : Nat → Nat → Nat → Int32} {sz : Nat} {b : Nat} (hb : b < 3) (hT : okT n (TT b)) (hX : okX n τ) : XMi l yX4_boredTogether cX4_boredTogether 3 FieldType.int rm_yX4_boredTogether [.ref (ad (9 + 8 * b))] D cs ad n ρ TT τ σ sz (fun (r : Int32) (u : Nat → Nat → Int32) => r = boredK (TT b) (seatsN (TT b))) (fun u : Nat → Nat → Int32 => xent ad cs n u TT τ σ) := by
  refine gw_stI (Ff := fun u : Nat → Nat → Int32 => xent ad cs n u TT τ σ) (own := RX4) (by decide +kernel) rfl (Nat.le_of_ble_eq_true rfl) ?_
  intro p e s m ar below meth c A Q F hE hsz hW hret ls hl
  obtain ⟨hx, hb, hml, hown, hts⟩ := id F
  have hl : lv_has ls 3 [(0, .ref (ad (9 + 8 * b)))] := hl
  have hs6 := hT.1
  have hsN := hT.2.1
  refine lv_iconst (v := 0) hx hb dX4_boredTogether_0 (by decide) ?_
  refine lv_istore_n (lv' := [(1, .int 0), (0, .ref (ad (9 + 8 * b)))]) hx hb dX4_boredTogether_1 rfl hl (by decide) rfl (fun ls hl => ?_)
  refine lv_iconst (v := 0) hx hb dX4_boredTogether_2 (by decide) ?_
  refine lv_istore_n (lv' := [(2, .int 0), (1, .int 0), (0, .ref (ad (9 + 8 * b)))]) hx hb dX4_boredTogether_3 rfl hl (by decide) rfl (fun ls hl => ?_)
  have L4 : ∀ (k : Nat) (i : Nat) (ρ' : Nat → Nat → Int32) (x : Int32), (i ≤ seatsN (TT b)) → (seatsN (TT b) + 1 ≤ i + k) → (x = boredK (TT b) i) → ∀ (H : Heap) (locs : List Loc) (ls : Array Slot), XW D cs ad n ρ' TT τ σ A s s.heap H locs → lv_has ls 3 [(2, .int (nI i)), (1, .int x), (0, .ref (ad (9 + 8 * b)))] → W p l e rm_yX4_boredTogether s m ar below meth c H locs 0 0 Q (F0 m 4 ls []) := by
    intro k
    induction k with
    | zero => intro i ρ' x h1 h2 hxx; exact absurd h2 (by omega)
    | succ k ih4 =>
      intro i ρ' x h1 h2 hxx H locs ls hW hl
      refine lv_iload_n hx hb dX4_boredTogether_4 rfl (lv_at hl 0 rfl) ?_
      refine lv_aload_n hx hb dX4_boredTogether_5 rfl (lv_at hl 2 rfl) ?_
      refine xr_Ti (b := b) F hW (by omega) 1 (by decide) fl_RX4_22 dX4_boredTogether_6 ?_
      refine lv_as (z := nI (seatsN (TT b))) (hsN) ?_
      refine lv_icmp_ge (tgt := 30) hx hb dX4_boredTogether_9 (by decide) (fun c_1 => ?_) (fun c_1 => ?_)
      ·
        obtain rfl : i = seatsN (TT b) := by have := mi_le c_1 (by omega) (by omega); omega
        refine lv_iload_n hx hb dX4_boredTogether_30 rfl (lv_at hl 1 rfl) ?_
        exact hret x _ _ _ _ _ _ hW rfl rfl (hxx) dX4_boredTogether_31
      ·
        have hlt : i < seatsN (TT b) := mi_nle c_1 (by omega) (by omega)
        refine lv_iload_n hx hb dX4_boredTogether_12 rfl (lv_at hl 1 rfl) ?_
        refine lv_aload_n hx hb dX4_boredTogether_13 rfl (lv_at hl 2 rfl) ?_
        refine xr_Tg (b := b) F hW (by omega) fl_RX4_17 dX4_boredTogether_14 ?_
        refine lv_iload_n hx hb dX4_boredTogether_17 rfl (lv_at hl 0 rfl) ?_
        refine xr_Rn (b := b) (q := i) rfl (by omega) F hW (by omega) dX4_boredTogether_18 ?_
        refine xr_G (b := b) (q := i) F hW (by omega) (by omega) 4 (by decide) fl_RX4_97 dX4_boredTogether_19 ?_
        refine lv_iadd hx hb dX4_boredTogether_22 ?_
        refine lv_topi (fun v_2 ev_2 => ?_)
        refine lv_istore_n (lv' := [(1, .int v_2), (2, .int (nI i)), (0, .ref (ad (9 + 8 * b)))]) hx hb dX4_boredTogether_23 rfl hl (by decide) rfl (fun ls hl => ?_)
        refine lv_iinc (v := nI (i + 1)) (lv' := [(2, .int (nI (i + 1))), (1, .int v_2), (0, .ref (ad (9 + 8 * b)))]) hx hb dX4_boredTogether_24 hl (k := 1) rfl (nI_1 i) (by decide) rfl (fun ls hl => ?_)
        refine lv_goto (tgt := 4) hx hb dX4_boredTogether_27 (by decide) ?_
        exact ih4 (i + 1) _ _ (by omega) (by omega) (by subst ev_2; show _ = (boredK (TT b) i + TT b i 4); rw [hxx]; try rfl) _ _ _ hW (lv_sub hl [0, 1, 2] rfl)
  exact L4 (seatsN (TT b) + 1) 0 _ _ (Nat.zero_le _) (by omega) (rfl) _ _ _ hW (lv_sub hl [0, 1, 2] rfl)
theorem row6_rightK {T : Tb} {a : Int32} : ∀ k, k ≤ 6 → rightK T a k 6 = T 6
  | 0, _ => rfl
  | k + 1, h => by
    show upT (rightK T a k) k 2 (rightK T a k k 2 &&& (oneS a ^^^ -1)) 6 = T 6
    rw [show upT (rightK T a k) k 2 (rightK T a k k 2 &&& (oneS a ^^^ -1)) 6 = rightK T a k 6 from va_up_ne _ _ (by omega)]
    exact row6_rightK k (by omega)
abbrev rm_yX4_makeRight : Room := { frames := 0, cells := 0, slots := 0, locals := 0 }
set_option maxHeartbeats 800000 in
set_option maxRecDepth 100000 in
theorem kX4_makeRight {l : Launch} {D : va_G} {cs : Nat → ClassId} {ad : Nat → Nat} {n : Nat} {ρ σ : Nat → Nat → Int32} {TT τ : Nat → Nat → Nat → Int32} {sz : Nat} {b : Nat} {a : Int32} (hb : b < 3) (hT : okT n (TT b)) : XMv l yX4_makeRight cX4_makeRight 3 rm_yX4_makeRight [.ref (ad (9 + 8 * b)), .int a] D cs ad n ρ TT τ σ sz (fun (u : Nat → Nat → Nat → Int32) => u = va_up TT b (rightK (TT b) a (seatsN (TT b)))) (fun u : Nat → Nat → Nat → Int32 => xent ad cs n ρ u τ σ) := by
  refine gw_stV (Ff := fun u : Nat → Nat → Nat → Int32 => xent ad cs n ρ u τ σ) (own := RX4) (by decide +kernel) rfl (Nat.le_of_ble_eq_true rfl) ?_
  intro p e s m ar below meth c A Q F hE hsz hW hret ls hl
  obtain ⟨hx, hb, hml, hown, hts⟩ := id F
  have hl : lv_has ls 3 [(0, .ref (ad (9 + 8 * b))), (1, .int a)] := hl
  have hs6 := hT.1
  have hsN := hT.2.1
  refine lv_iconst (v := 0) hx hb dX4_makeRight_0 (by decide) ?_
  refine lv_istore_n (lv' := [(2, .int 0), (0, .ref (ad (9 + 8 * b))), (1, .int a)]) hx hb dX4_makeRight_1 rfl hl (by decide) rfl (fun ls hl => ?_)
  have L2 : ∀ (k : Nat) (i : Nat) (TT' : Nat → Nat → Nat → Int32), (i ≤ seatsN (TT b)) → (seatsN (TT b) + 1 ≤ i + k) → (TT' = va_up TT b (rightK (TT b) a i)) → ∀ (H : Heap) (locs : List Loc) (ls : Array Slot), XW D cs ad n ρ TT' τ σ A s s.heap H locs → lv_has ls 3 [(2, .int (nI i)), (0, .ref (ad (9 + 8 * b))), (1, .int a)] → W p l e rm_yX4_makeRight s m ar below meth c H locs 0 0 Q (F0 m 2 ls []) := by
    intro k
    induction k with
    | zero => intro i TT' h1 h2 hTT; exact absurd h2 (by omega)
    | succ k ih2 =>
      intro i TT' h1 h2 hTT H locs ls hW hl
      have hTb : TT' b = rightK (TT b) a i := by rw [hTT, va_up_self]
      have h6' : TT' b 6 = TT b 6 := by rw [hTb]; exact row6_rightK i (by omega)
      refine lv_iload_n hx hb dX4_makeRight_2 rfl (lv_at hl 0 rfl) ?_
      refine lv_aload_n hx hb dX4_makeRight_3 rfl (lv_at hl 1 rfl) ?_
      refine xr_Ti (b := b) F hW (by omega) 1 (by decide) fl_RX4_22 dX4_makeRight_4 ?_
      refine lv_as (z := nI (seatsN (TT b))) (by rw [h6']; exact hsN) ?_
      refine lv_icmp_ge (tgt := 35) hx hb dX4_makeRight_7 (by decide) (fun c_1 => ?_) (fun c_1 => ?_)
      ·
        obtain rfl : i = seatsN (TT b) := by have := mi_le c_1 (by omega) (by omega); omega
        exact hret _ _ _ _ _ _ hW rfl (hTT) dX4_makeRight_35
      ·
        have hlt : i < seatsN (TT b) := mi_nle c_1 (by omega) (by omega)
        refine lv_aload_n hx hb dX4_makeRight_10 rfl (lv_at hl 1 rfl) ?_
        refine xr_Tg (b := b) F hW (by omega) fl_RX4_17 dX4_makeRight_11 ?_
        refine lv_iload_n hx hb dX4_makeRight_14 rfl (lv_at hl 0 rfl) ?_
        refine xr_Rn (b := b) (q := i) rfl (by omega) F hW (by omega) dX4_makeRight_15 ?_
        refine lv_dup hx hb dX4_makeRight_16 rfl ?_
        refine xr_G (b := b) (q := i) F hW (by omega) (by omega) 2 (by decide) fl_RX4_55 dX4_makeRight_17 ?_
        refine lv_iconst (v := 1) hx hb dX4_makeRight_20 (by decide) ?_
        refine lv_iload_n hx hb dX4_makeRight_21 rfl (lv_at hl 2 rfl) ?_
        refine lv_ishl hx hb dX4_makeRight_22 ?_
        refine lv_iconst (v := (-1)) hx hb dX4_makeRight_23 (by decide) ?_
        refine lv_ixor hx hb dX4_makeRight_24 ?_
        refine lv_iand hx hb dX4_makeRight_25 ?_
        refine xw_G (b := b) (q := i) F hW (by omega) (by omega) 2 (by decide) fl_RX4_55 rfl (ty := .int) rfl rfl rfl dX4_makeRight_26 (fun H locs hW => ?_)
        refine lv_iinc (v := nI (i + 1)) (lv' := [(2, .int (nI (i + 1))), (0, .ref (ad (9 + 8 * b))), (1, .int a)]) hx hb dX4_makeRight_29 hl (k := 0) rfl (nI_1 i) (by decide) rfl (fun ls hl => ?_)
        refine lv_goto (tgt := 2) hx hb dX4_makeRight_32 (by decide) ?_
        exact ih2 (i + 1) _ (by omega) (by omega) (by rw [hTb, hTT, bx_uu]; rfl) _ _ _ hW (lv_sub hl [0, 1, 2] rfl)
  exact L2 (seatsN (TT b) + 1) 0 _ (Nat.zero_le _) (by omega) ((va_up_eta TT b).symm) _ _ _ hW (lv_sub hl [0, 1, 2] rfl)
abbrev rm_yX4_exchange : Room := { frames := 0, cells := 0, slots := 0, locals := 0 }
set_option maxHeartbeats 800000 in
set_option maxRecDepth 100000 in
theorem kX4_exchange {l : Launch} {D : va_G} {cs : Nat → ClassId} {ad : Nat → Nat} {n : Nat} {ρ σ : Nat → Nat → Int32} {TT τ : Nat → Nat → Nat → Int32} {sz : Nat} {b q1 q2 : Nat} (hb : b < 3) (hq1 : q1 < 6) (hq2 : q2 < 6) : XMv l yX4_exchange cX4_exchange 4 rm_yX4_exchange [.ref (ad (9 + 8 * b)), .int (nI q1), .int (nI q2)] D cs ad n ρ TT τ σ sz (fun (u : Nat → Nat → Nat → Int32) => u = va_up TT b (swapS (TT b) q1 q2)) (fun u : Nat → Nat → Nat → Int32 => xent ad cs n ρ u τ σ) := by
  refine gw_stV (Ff := fun u : Nat → Nat → Nat → Int32 => xent ad cs n ρ u τ σ) (own := RX4) (by decide +kernel) rfl (Nat.le_of_ble_eq_true rfl) ?_
  intro p e s m ar below meth c A Q F hE hsz hW hret ls hl
  obtain ⟨hx, hb, hml, hown, hts⟩ := id F
  have hl : lv_has ls 4 [(0, .ref (ad (9 + 8 * b))), (1, .int (nI q1)), (2, .int (nI q2))] := hl
  refine lv_aload_n hx hb dX4_exchange_0 rfl (lv_at hl 0 rfl) ?_
  refine xr_Tg (b := b) F hW (by omega) fl_RX4_17 dX4_exchange_1 ?_
  refine lv_iload_n hx hb dX4_exchange_4 rfl (lv_at hl 1 rfl) ?_
  refine xr_Rn (b := b) (q := q1) rfl (by omega) F hW (by omega) dX4_exchange_5 ?_
  refine xr_G (b := b) (q := q1) F hW (by omega) (by omega) 2 (by decide) fl_RX4_55 dX4_exchange_6 ?_
  refine lv_istore_n (lv' := [(3, .int (TT b q1 2)), (0, .ref (ad (9 + 8 * b))), (1, .int (nI q1)), (2, .int (nI q2))]) hx hb dX4_exchange_9 rfl hl (by decide) rfl (fun ls hl => ?_)
  refine lv_aload_n hx hb dX4_exchange_10 rfl (lv_at hl 1 rfl) ?_
  refine xr_Tg (b := b) F hW (by omega) fl_RX4_17 dX4_exchange_11 ?_
  refine lv_iload_n hx hb dX4_exchange_14 rfl (lv_at hl 2 rfl) ?_
  refine xr_Rn (b := b) (q := q1) rfl (by omega) F hW (by omega) dX4_exchange_15 ?_
  refine lv_aload_n hx hb dX4_exchange_16 rfl (lv_at hl 1 rfl) ?_
  refine xr_Tg (b := b) F hW (by omega) fl_RX4_17 dX4_exchange_17 ?_
  refine lv_iload_n hx hb dX4_exchange_20 rfl (lv_at hl 3 rfl) ?_
  refine xr_Rn (b := b) (q := q2) rfl (by omega) F hW (by omega) dX4_exchange_21 ?_
  refine xr_G (b := b) (q := q2) F hW (by omega) (by omega) 2 (by decide) fl_RX4_55 dX4_exchange_22 ?_
  refine xw_G (b := b) (q := q1) F hW (by omega) (by omega) 2 (by decide) fl_RX4_55 rfl (ty := .int) rfl rfl rfl dX4_exchange_25 (fun H locs hW => ?_)
  refine lv_aload_n hx hb dX4_exchange_28 rfl (lv_at hl 1 rfl) ?_
  refine xr_Tg (b := b) F hW (by omega) fl_RX4_17 dX4_exchange_29 ?_
  refine lv_iload_n hx hb dX4_exchange_32 rfl (lv_at hl 3 rfl) ?_
  refine xr_Rn (b := b) (q := q2) rfl (by omega) F hW (by omega) dX4_exchange_33 ?_
  refine lv_iload_n hx hb dX4_exchange_34 rfl (lv_at hl 0 rfl) ?_
  refine xw_G (b := b) (q := q2) F hW (by omega) (by omega) 2 (by decide) fl_RX4_55 rfl (ty := .int) rfl rfl rfl dX4_exchange_35 (fun H locs hW => ?_)
  exact hret _ _ _ _ _ _ hW rfl (by simp only [swapS, va_up_self, bx_uu]) dX4_exchange_38
theorem stuck_upto (Lx : Lw) (T : Tb) : ∀ k, k ≤ 6 → upto 1024 (stuckK Lx T k)
  | 0, _ => ⟨0, by decide, rfl⟩
  | k + 1, h => by
    have ih := stuck_upto Lx T k (by omega)
    unfold stuckK
    split
    · exact ih
    · exact or_upto ih (by omega)
theorem bc_stuck {n : Nat} {Lx : Lw} {T : Tb} (hT : okT n T) : bcS (stuckK Lx T (seatsN T)) = onesS (stuckBS Lx T) := by
  obtain ⟨j, h1, h2⟩ := stuck_upto Lx T (seatsN T) hT.1
  unfold stuckBS
  rw [h2]
  exact bc_ones j h1
abbrev rm_yX4_stuckBehind : Room := { frames := 6, cells := 0, slots := 0, locals := 139 }
set_option maxHeartbeats 800000 in
set_option maxRecDepth 100000 in
theorem kX4_stuckBehind {l : Launch} {D : va_G} {cs : Nat → ClassId} {ad : Nat → Nat} {n : Nat} {ρ σ : Nat → Nat → Int32} {TT τ : Nat → Nat → Nat → Int32} {sz : Nat} {b w : Nat} (hb : b < 3) (hT : okT n (TT b)) (hX : okX n τ) (hw : w < 1000) : XMi l yX4_stuckBehind cX4_stuckBehind 3 FieldType.int rm_yX4_stuckBehind [.ref (ad (9 + 8 * b)), .int (nI w)] D cs ad n ρ TT τ σ sz (fun (r : Int32) (u : (Nat → Nat → Int32) × (Nat → Nat → Nat → Int32)) => r = onesS (stuckBS (xLx n τ) (passN (xLx n τ) (TT b) w).1) ∧ u.2 = va_up TT b (passN (xLx n τ) (TT b) w).1) (fun u : (Nat → Nat → Int32) × (Nat → Nat → Nat → Int32) => xent ad cs n u.1 u.2 τ σ) := by
  refine gw_stI (Ff := fun u : (Nat → Nat → Int32) × (Nat → Nat → Nat → Int32) => xent ad cs n u.1 u.2 τ σ) (own := RX4) (by decide +kernel) rfl (Nat.le_of_ble_eq_true rfl) ?_
  intro p e s m ar below meth c A Q F hE hsz hW hret ls hl
  obtain ⟨hx, hb, hml, hown, hts⟩ := id F
  have hl : lv_has ls 3 [(0, .ref (ad (9 + 8 * b))), (1, .int (nI w))] := hl
  have hs6 := hT.1
  have hsN := hT.2.1
  refine lv_iconst (v := 0) hx hb dX4_stuckBehind_0 (by decide) ?_
  refine lv_istore_n (lv' := [(2, .int 0), (0, .ref (ad (9 + 8 * b))), (1, .int (nI w))]) hx hb dX4_stuckBehind_1 rfl hl (by decide) rfl (fun ls hl => ?_)
  have L2 : ∀ (k : Nat) (i : Nat) (ρ' : Nat → Nat → Int32) (TT' : Nat → Nat → Nat → Int32), (i ≤ w) → (w + 1 ≤ i + k) → (TT' = va_up TT b (passN (xLx n τ) (TT b) i).1) → ∀ (H : Heap) (locs : List Loc) (ls : Array Slot), XW D cs ad n ρ' TT' τ σ A s s.heap H locs → lv_has ls 3 [(2, .int (nI i)), (0, .ref (ad (9 + 8 * b))), (1, .int (nI w))] → W p l e rm_yX4_stuckBehind s m ar below meth c H locs 0 0 Q (F0 m 2 ls []) := by
    intro k
    induction k with
    | zero => intro i ρ' TT' h1 h2 hTT; exact absurd h2 (by omega)
    | succ k ih2 =>
      intro i ρ' TT' h1 h2 hTT H locs ls hW hl
      have hTb : TT' b = (passN (xLx n τ) (TT b) i).1 := by rw [hTT, va_up_self]
      have hT' : okT n (TT' b) := by rw [hTb]; exact (ok_passN hT i).1
      refine lv_iload_n hx hb dX4_stuckBehind_2 rfl (lv_at hl 0 rfl) ?_
      refine lv_iload_n hx hb dX4_stuckBehind_3 rfl (lv_at hl 2 rfl) ?_
      refine lv_icmp_ge (tgt := 18) hx hb dX4_stuckBehind_4 (by decide) (fun c_1 => ?_) (fun c_1 => ?_)
      ·
        obtain rfl : i = w := by have := mi_le c_1 (by omega) (by omega); omega
        refine lv_aload_n hx hb dX4_stuckBehind_18 rfl (lv_at hl 1 rfl) ?_
        refine gw_callVi (As := []) (rest := []) F hl.1 hW (fun _ _ hw => va_Nw.warmM hw hE) XE_E (by omega) (xe_T (b := b) (by omega)) rfl (kX4_stuckBits (b := b) (by omega) hT' hX) pd_yX4_stuckBits ml_RX4_108 im_yX4_stuckBits se_yX4_stuckBits ini_RX4 cd_yX4_stuckBits ⟨rfl, rfl⟩ ⟨Nat.le_of_ble_eq_true rfl, Nat.le_of_ble_eq_true rfl⟩ rfl rfl (Nat.le_of_ble_eq_true rfl) ⟨Nat.zero_le _, Nat.zero_le _⟩ dX4_stuckBehind_19 (fun r ρ_2 H locs hp hW _ _ => ?_)
        subst hp
        refine gw_callP (As := [.int (stuckK (xLx n τ) (TT' b) (seatsN (TT' b)))]) (rest := []) F hl.1 (kJ6_bitCount_0f7a4) pd_yJ6_bitCount_0f7a4 ml_RX4_111 st_yJ6_bitCount_0f7a4 ini_RJ6 cd_yJ6_bitCount_0f7a4 ⟨rfl, rfl⟩ ⟨Nat.le_of_ble_eq_true rfl, Nat.le_of_ble_eq_true rfl⟩ rfl rfl (Nat.le_of_ble_eq_true rfl) ⟨Nat.zero_le _, Nat.zero_le _⟩ dX4_stuckBehind_22 ?_
        exact hret (bcS (stuckK (xLx n τ) (TT' b) (seatsN (TT' b)))) (ρ_2, TT') _ _ _ _ _ hW rfl rfl (by refine ⟨?_, hTT⟩; rw [bc_stuck hT', hTb]) dX4_stuckBehind_25
      ·
        have hlt : i < w := mi_nle c_1 (by omega) (by omega)
        refine lv_aload_n hx hb dX4_stuckBehind_7 rfl (lv_at hl 1 rfl) ?_
        refine gw_callVi (As := []) (rest := []) F hl.1 hW (fun _ _ hw => va_Nw.warmM hw hE) XE_E (by omega) (xe_T (b := b) (by omega)) rfl (kX4_pass (b := b) (by omega) hT' hX) pd_yX4_pass ml_RX4_104 im_yX4_pass se_yX4_pass ini_RX4 cd_yX4_pass ⟨rfl, rfl⟩ ⟨Nat.le_of_ble_eq_true rfl, Nat.le_of_ble_eq_true rfl⟩ rfl rfl (Nat.le_of_ble_eq_true rfl) ⟨Nat.zero_le _, Nat.zero_le _⟩ dX4_stuckBehind_8 (fun r u H locs hp hW _ _ => ?_)
        obtain ⟨ρ_3, TT_4⟩ := u
        obtain ⟨rfl, hp⟩ := hp
        have hp : TT_4 = va_up TT' b (passS (xLx n τ) (TT' b)).1 := hp
        subst hp
        refine lv_pop hx hb dX4_stuckBehind_11 rfl ?_
        refine lv_iinc (v := nI (i + 1)) (lv' := [(2, .int (nI (i + 1))), (0, .ref (ad (9 + 8 * b))), (1, .int (nI w))]) hx hb dX4_stuckBehind_12 hl (k := 0) rfl (nI_1 i) (by decide) rfl (fun ls hl => ?_)
        refine lv_goto (tgt := 2) hx hb dX4_stuckBehind_15 (by decide) ?_
        exact ih2 (i + 1) _ _ (by omega) (by omega) (by rw [hTb, hTT, bx_uu]; rfl) _ _ _ hW (lv_sub hl [0, 1, 2] rfl)
  exact L2 (w + 1) 0 _ _ (Nat.zero_le _) (by omega) ((va_up_eta TT b).symm) _ _ _ hW (lv_sub hl [0, 1, 2] rfl)
abbrev rm_yX4_ateBehind : Room := { frames := 6, cells := 0, slots := 0, locals := 139 }
set_option maxHeartbeats 800000 in
set_option maxRecDepth 100000 in
theorem kX4_ateBehind {l : Launch} {D : va_G} {cs : Nat → ClassId} {ad : Nat → Nat} {n : Nat} {ρ σ : Nat → Nat → Int32} {TT τ : Nat → Nat → Nat → Int32} {sz : Nat} {b w : Nat} (hb : b < 3) (hT : okT n (TT b)) (hX : okX n τ) (hw : w < 1000) : XMi l yX4_ateBehind cX4_ateBehind 3 FieldType.int rm_yX4_ateBehind [.ref (ad (9 + 8 * b)), .int (nI w)] D cs ad n ρ TT τ σ sz (fun (r : Int32) (u : (Nat → Nat → Int32) × (Nat → Nat → Nat → Int32)) => r = ateS (passN (xLx n τ) (TT b) w).1 ∧ u.2 = va_up TT b (passN (xLx n τ) (TT b) w).1) (fun u : (Nat → Nat → Int32) × (Nat → Nat → Nat → Int32) => xent ad cs n u.1 u.2 τ σ) := by
  refine gw_stI (Ff := fun u : (Nat → Nat → Int32) × (Nat → Nat → Nat → Int32) => xent ad cs n u.1 u.2 τ σ) (own := RX4) (by decide +kernel) rfl (Nat.le_of_ble_eq_true rfl) ?_
  intro p e s m ar below meth c A Q F hE hsz hW hret ls hl
  obtain ⟨hx, hb, hml, hown, hts⟩ := id F
  have hl : lv_has ls 3 [(0, .ref (ad (9 + 8 * b))), (1, .int (nI w))] := hl
  have hs6 := hT.1
  have hsN := hT.2.1
  refine lv_iconst (v := 0) hx hb dX4_ateBehind_0 (by decide) ?_
  refine lv_istore_n (lv' := [(2, .int 0), (0, .ref (ad (9 + 8 * b))), (1, .int (nI w))]) hx hb dX4_ateBehind_1 rfl hl (by decide) rfl (fun ls hl => ?_)
  have L2 : ∀ (k : Nat) (i : Nat) (ρ' : Nat → Nat → Int32) (TT' : Nat → Nat → Nat → Int32), (i ≤ w) → (w + 1 ≤ i + k) → (TT' = va_up TT b (passN (xLx n τ) (TT b) i).1) → ∀ (H : Heap) (locs : List Loc) (ls : Array Slot), XW D cs ad n ρ' TT' τ σ A s s.heap H locs → lv_has ls 3 [(2, .int (nI i)), (0, .ref (ad (9 + 8 * b))), (1, .int (nI w))] → W p l e rm_yX4_ateBehind s m ar below meth c H locs 0 0 Q (F0 m 2 ls []) := by
    intro k
    induction k with
    | zero => intro i ρ' TT' h1 h2 hTT; exact absurd h2 (by omega)
    | succ k ih2 =>
      intro i ρ' TT' h1 h2 hTT H locs ls hW hl
      have hTb : TT' b = (passN (xLx n τ) (TT b) i).1 := by rw [hTT, va_up_self]
      have hT' : okT n (TT' b) := by rw [hTb]; exact (ok_passN hT i).1
      refine lv_iload_n hx hb dX4_ateBehind_2 rfl (lv_at hl 0 rfl) ?_
      refine lv_iload_n hx hb dX4_ateBehind_3 rfl (lv_at hl 2 rfl) ?_
      refine lv_icmp_ge (tgt := 18) hx hb dX4_ateBehind_4 (by decide) (fun c_1 => ?_) (fun c_1 => ?_)
      ·
        obtain rfl : i = w := by have := mi_le c_1 (by omega) (by omega); omega
        refine lv_aload_n hx hb dX4_ateBehind_18 rfl (lv_at hl 1 rfl) ?_
        refine gw_callVi (As := []) (rest := []) F hl.1 hW (fun _ _ hw => va_Nw.warmM hw hE) XE_E (by omega) (xe_T (b := b) (by omega)) rfl (kX4_ateTogether (b := b) (by omega) hT' hX) pd_yX4_ateTogether ml_RX4_116 im_yX4_ateTogether se_yX4_ateTogether ini_RX4 cd_yX4_ateTogether ⟨rfl, rfl⟩ ⟨Nat.le_of_ble_eq_true rfl, Nat.le_of_ble_eq_true rfl⟩ rfl rfl (Nat.le_of_ble_eq_true rfl) ⟨Nat.zero_le _, Nat.zero_le _⟩ dX4_ateBehind_19 (fun r ρ_2 H locs hp hW _ _ => ?_)
        subst hp
        exact hret (ateK (TT' b) (seatsN (TT' b))) (ρ_2, TT') _ _ _ _ _ hW rfl rfl (by refine ⟨?_, hTT⟩; unfold ateS; rw [hTb]) dX4_ateBehind_22
      ·
        have hlt : i < w := mi_nle c_1 (by omega) (by omega)
        refine lv_aload_n hx hb dX4_ateBehind_7 rfl (lv_at hl 1 rfl) ?_
        refine gw_callVi (As := []) (rest := []) F hl.1 hW (fun _ _ hw => va_Nw.warmM hw hE) XE_E (by omega) (xe_T (b := b) (by omega)) rfl (kX4_pass (b := b) (by omega) hT' hX) pd_yX4_pass ml_RX4_104 im_yX4_pass se_yX4_pass ini_RX4 cd_yX4_pass ⟨rfl, rfl⟩ ⟨Nat.le_of_ble_eq_true rfl, Nat.le_of_ble_eq_true rfl⟩ rfl rfl (Nat.le_of_ble_eq_true rfl) ⟨Nat.zero_le _, Nat.zero_le _⟩ dX4_ateBehind_8 (fun r u H locs hp hW _ _ => ?_)
        obtain ⟨ρ_3, TT_4⟩ := u
        obtain ⟨rfl, hp⟩ := hp
        have hp : TT_4 = va_up TT' b (passS (xLx n τ) (TT' b)).1 := hp
        subst hp
        refine lv_pop hx hb dX4_ateBehind_11 rfl ?_
        refine lv_iinc (v := nI (i + 1)) (lv' := [(2, .int (nI (i + 1))), (0, .ref (ad (9 + 8 * b))), (1, .int (nI w))]) hx hb dX4_ateBehind_12 hl (k := 0) rfl (nI_1 i) (by decide) rfl (fun ls hl => ?_)
        refine lv_goto (tgt := 2) hx hb dX4_ateBehind_15 (by decide) ?_
        exact ih2 (i + 1) _ _ (by omega) (by omega) (by rw [hTb, hTT, bx_uu]; rfl) _ _ _ hW (lv_sub hl [0, 1, 2] rfl)
  exact L2 (w + 1) 0 _ _ (Nat.zero_le _) (by omega) ((va_up_eta TT b).symm) _ _ _ hW (lv_sub hl [0, 1, 2] rfl)
def copyK (T T2 : Tb) : Nat → Tb
  | 0 => va_up T 6 (upd (upd (upd (T 6) 1 (T2 6 1)) 2 (T2 6 2)) 3 (T2 6 3))
  | k + 1 => va_up (copyK T T2 k) k (copyR (copyK T T2 k k) (T2 k))
def copyT (T T2 : Tb) : Tb := copyK T T2 (seatsN T2)
theorem copyK_6 (T T2 : Tb) : ∀ k, k ≤ 6 → copyK T T2 k 6 = upd (upd (upd (T 6) 1 (T2 6 1)) 2 (T2 6 2)) 3 (T2 6 3)
  | 0, _ => va_up_self _ _ _
  | k + 1, h => by
    show va_up (copyK T T2 k) k _ 6 = _
    rw [va_up_ne _ _ (by omega)]
    exact copyK_6 T T2 k (by omega)
abbrev rm_yX4_become : Room := { frames := 1, cells := 0, slots := 0, locals := 21 }
set_option maxHeartbeats 800000 in
set_option maxRecDepth 100000 in
theorem kX4_become {l : Launch} {D : va_G} {cs : Nat → ClassId} {ad : Nat → Nat} {n : Nat} {ρ σ : Nat → Nat → Int32} {TT τ : Nat → Nat → Nat → Int32} {sz : Nat} {b b2 : Nat} (hb : b < 3) (hb2 : b2 < 3) (hbb : b2 ≠ b) (hT2 : okT n (TT b2)) : XMv l yX4_become cX4_become 3 rm_yX4_become [.ref (ad (9 + 8 * b)), .ref (ad (9 + 8 * b2))] D cs ad n ρ TT τ σ sz (fun (u : Nat → Nat → Nat → Int32) => u = va_up TT b (copyT (TT b) (TT b2))) (fun u : Nat → Nat → Nat → Int32 => xent ad cs n ρ u τ σ) := by
  refine gw_stV (Ff := fun u : Nat → Nat → Nat → Int32 => xent ad cs n ρ u τ σ) (own := RX4) (by decide +kernel) rfl (Nat.le_of_ble_eq_true rfl) ?_
  intro p e s m ar below meth c A Q F hE hsz hW hret ls hl
  obtain ⟨hx, hb, hml, hown, hts⟩ := id F
  have hl : lv_has ls 3 [(0, .ref (ad (9 + 8 * b))), (1, .ref (ad (9 + 8 * b2)))] := hl
  have hs6 := hT2.1
  have hsN := hT2.2.1
  refine lv_aload_n hx hb dX4_become_0 rfl (lv_at hl 0 rfl) ?_
  refine lv_aload_n hx hb dX4_become_1 rfl (lv_at hl 1 rfl) ?_
  refine xr_Ti (b := b2) F hW (by omega) 1 (by decide) fl_RX4_22 dX4_become_2 ?_
  refine xw_Ti (b := b) F hW (by omega) 1 (by decide) fl_RX4_22 dX4_become_5 (fun H locs hW => ?_)
  refine lv_aload_n hx hb dX4_become_8 rfl (lv_at hl 0 rfl) ?_
  refine lv_aload_n hx hb dX4_become_9 rfl (lv_at hl 1 rfl) ?_
  refine xr_Ti (b := b2) F hW (by omega) 2 (by decide) fl_RX4_26 dX4_become_10 ?_
  refine xw_Ti (b := b) F hW (by omega) 2 (by decide) fl_RX4_26 dX4_become_13 (fun H locs hW => ?_)
  refine lv_aload_n hx hb dX4_become_16 rfl (lv_at hl 0 rfl) ?_
  refine lv_aload_n hx hb dX4_become_17 rfl (lv_at hl 1 rfl) ?_
  refine xr_Tl (b := b2) F hW (by omega) fl_RX4_9 dX4_become_18 ?_
  refine xw_Tl (b := b) (v := (va_up (va_up TT b (upT (TT b) 6 1 (TT b2 6 1))) b (upT ((va_up TT b (upT (TT b) 6 1 (TT b2 6 1))) b) 6 2 ((va_up TT b (upT (TT b) 6 1 (TT b2 6 1))) b2 6 2))) b2 6 3) rfl F hW (by omega) fl_RX4_9 dX4_become_21 (fun H locs hW => ?_)
  refine lv_iconst (v := 0) hx hb dX4_become_24 (by decide) ?_
  refine lv_istore_n (lv' := [(2, .int 0), (0, .ref (ad (9 + 8 * b))), (1, .ref (ad (9 + 8 * b2)))]) hx hb dX4_become_25 rfl hl (by decide) rfl (fun ls hl => ?_)
  have L26 : ∀ (k : Nat) (i : Nat) (TT' : Nat → Nat → Nat → Int32), (i ≤ seatsN (TT b2)) → (seatsN (TT b2) + 1 ≤ i + k) → (TT' = va_up TT b (copyK (TT b) (TT b2) i)) → ∀ (H : Heap) (locs : List Loc) (ls : Array Slot), XW D cs ad n ρ TT' τ σ A s s.heap H locs → lv_has ls 3 [(2, .int (nI i)), (0, .ref (ad (9 + 8 * b))), (1, .ref (ad (9 + 8 * b2)))] → W p l e rm_yX4_become s m ar below meth c H locs 0 0 Q (F0 m 26 ls []) := by
    intro k
    induction k with
    | zero => intro i TT' h1 h2 hTT; exact absurd h2 (by omega)
    | succ k ih26 =>
      intro i TT' h1 h2 hTT H locs ls hW hl
      have hTb : TT' b = copyK (TT b) (TT b2) i := by rw [hTT, va_up_self]
      have hTb2 : TT' b2 = TT b2 := by rw [hTT, va_up_ne _ _ hbb]
      have h6' : TT' b 6 1 = TT b2 6 1 := by rw [hTb, copyK_6 _ _ i (by omega)]; rfl
      refine lv_iload_n hx hb dX4_become_26 rfl (lv_at hl 0 rfl) ?_
      refine lv_aload_n hx hb dX4_become_27 rfl (lv_at hl 1 rfl) ?_
      refine xr_Ti (b := b) F hW (by omega) 1 (by decide) fl_RX4_22 dX4_become_28 ?_
      refine lv_as (z := nI (seatsN (TT b2))) (by rw [h6']; exact hsN) ?_
      refine lv_icmp_ge (tgt := 55) hx hb dX4_become_31 (by decide) (fun c_1 => ?_) (fun c_1 => ?_)
      ·
        obtain rfl : i = seatsN (TT b2) := by have := mi_le c_1 (by omega) (by omega); omega
        exact hret _ _ _ _ _ _ hW rfl (hTT) dX4_become_55
      ·
        have hlt : i < seatsN (TT b2) := mi_nle c_1 (by omega) (by omega)
        refine lv_aload_n hx hb dX4_become_34 rfl (lv_at hl 1 rfl) ?_
        refine xr_Tg (b := b) F hW (by omega) fl_RX4_17 dX4_become_35 ?_
        refine lv_iload_n hx hb dX4_become_38 rfl (lv_at hl 0 rfl) ?_
        refine xr_Rn (b := b) (q := i) rfl (by omega) F hW (by omega) dX4_become_39 ?_
        refine lv_aload_n hx hb dX4_become_40 rfl (lv_at hl 2 rfl) ?_
        refine xr_Tg (b := b2) F hW (by omega) fl_RX4_17 dX4_become_41 ?_
        refine lv_iload_n hx hb dX4_become_44 rfl (lv_at hl 0 rfl) ?_
        refine xr_Rn (b := b2) (q := i) rfl (by omega) F hW (by omega) dX4_become_45 ?_
        refine gw_callVv (As := [.ref (ad (9 + 8 * b2 + 1 + 1 + i))]) (rest := []) F hl.1 hW (fun _ _ hw => va_Nw.warmM hw hE) XE_E (by omega) (xe_G (b := b) (q := i) (by omega) (by omega)) rfl (kX0_become (b := b) (q := i) (b2 := b2) (q2 := i) (by omega) (by omega) (by omega) (by omega) hbb (by rw [hTb2]; exact (hT2.2.2.2.2 i hlt).2.2.2.2.2.2)) pd_yX0_become ml_RX4_29 im_yX0_become se_yX0_become ini_RX0 cd_yX0_become ⟨rfl, rfl⟩ ⟨Nat.le_of_ble_eq_true rfl, Nat.le_of_ble_eq_true rfl⟩ rfl rfl (Nat.le_of_ble_eq_true rfl) ⟨Nat.zero_le _, Nat.zero_le _⟩ dX4_become_46 (fun TT_2 H locs hp hW _ _ => ?_)
        subst hp
        refine lv_iinc (v := nI (i + 1)) (lv' := [(2, .int (nI (i + 1))), (0, .ref (ad (9 + 8 * b))), (1, .ref (ad (9 + 8 * b2)))]) hx hb dX4_become_49 hl (k := 0) rfl (nI_1 i) (by decide) rfl (fun ls hl => ?_)
        refine lv_goto (tgt := 26) hx hb dX4_become_52 (by decide) ?_
        exact ih26 (i + 1) _ (by omega) (by omega) (by rw [hTb, hTb2, hTT, bx_uu]; rfl) _ _ _ hW (lv_sub hl [0, 1, 2] rfl)
  exact L26 (seatsN (TT b2) + 1) 0 _ (Nat.zero_le _) (by omega) (by simp only [copyK, upT, va_up_self, bx_uu, va_up_ne _ _ hbb]) _ _ _ hW (lv_sub hl [0, 1, 2] rfl)
