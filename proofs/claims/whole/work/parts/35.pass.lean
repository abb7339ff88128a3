theorem min_99 (z : Int32) : (if z < 99 then z else 99) = min99 z := by
  unfold min99
  by_cases h : z < 99
  · rw [if_pos h, if_pos (Int32.le_of_lt h)]
  · rw [if_neg h]
    by_cases h2 : z ≤ 99
    · rw [if_pos h2]
      apply Int32.toInt_inj.mp
      rw [Int32.lt_iff_toInt_lt] at h
      rw [Int32.le_iff_toInt_le] at h2
      omega
    · rw [if_neg h2]
theorem step_no {Lx : Lw} {r : Tb × Int32} {q : Nat} (h : actS Lx r.1 q = -1) : oneStep Lx r q = (upT r.1 q 4 (min99 (r.1 q 4 + 1)), r.2) := by unfold oneStep; rw [if_pos h]
theorem step_yes {Lx : Lw} {r : Tb × Int32} {q : Nat} {a : Int32} (h : actS Lx r.1 q = a) (ha : ¬ a = -1) : oneStep Lx r q = (performS Lx r.1 q a, r.2 + 1) := by unfold oneStep; rw [h, if_neg ha]
abbrev rm_yX4_perform : Room := { frames := 4, cells := 0, slots := 0, locals := 91 }
set_option maxHeartbeats 800000 in
set_option maxRecDepth 100000 in
theorem kX4_perform {l : Launch} {D : va_G} {cs : Nat → ClassId} {ad : Nat → Nat} {n : Nat} {ρ σ : Nat → Nat → Int32} {TT τ : Nat → Nat → Nat → Int32} {sz : Nat} {b q j : Nat} (hb : b < 3) (hT : okT n (TT b)) (hq : q < seatsN (TT b)) (hX : okX n τ) (hj : j < 10) : XMv l yX4_perform cX4_perform 6 rm_yX4_perform [.ref (ad (9 + 8 * b)), .int (nI q), .int (nI j)] D cs ad n ρ TT τ σ sz (fun (u : (Nat → Nat → Int32) × (Nat → Nat → Nat → Int32)) => u.2 = va_up TT b (performS (xLx n τ) (TT b) q (nI j))) (fun u : (Nat → Nat → Int32) × (Nat → Nat → Nat → Int32) => xent ad cs n u.1 u.2 τ σ) := by
  refine gw_stV (Ff := fun u : (Nat → Nat → Int32) × (Nat → Nat → Nat → Int32) => xent ad cs n u.1 u.2 τ σ) (own := RX4) (by decide +kernel) rfl (Nat.le_of_ble_eq_true rfl) ?_
  intro p e s m ar below meth c A Q F hE hsz hW hret ls hl
  obtain ⟨hx, hb, hml, hown, hts⟩ := id F
  have hl : lv_has ls 6 [(0, .ref (ad (9 + 8 * b))), (1, .int (nI q)), (2, .int (nI j))] := hl
  have hq6 : q < 6 := Nat.lt_of_lt_of_le hq hT.1
  have hG := hT.2.2.2.2 q hq
  have ht : (TT b 6 3).toNatClampNeg < n := hT.2.2.1
  have hs6 := hT.1
  have hsN := hT.2.1
  obtain ⟨c0, htell, hc0⟩ := tell_nat (Lx := (xLx n τ)) hT hq
  refine lv_aload_n hx hb dX4_perform_0 rfl (lv_at hl 0 rfl) ?_
  refine xr_Tg (b := b) F hW (by omega) fl_RX4_17 dX4_perform_1 ?_
  refine lv_iload_n hx hb dX4_perform_4 rfl (lv_at hl 1 rfl) ?_
  refine xr_Rn (b := b) (q := q) rfl (by omega) F hW (by omega) dX4_perform_5 ?_
  refine lv_astore_n (lv' := [(3, .ref (ad (9 + 8 * b + 1 + 1 + q))), (0, .ref (ad (9 + 8 * b))), (1, .int (nI q)), (2, .int (nI j))]) hx hb dX4_perform_6 rfl hl (by decide) rfl (fun ls hl => ?_)
  refine lv_aload_n hx hb dX4_perform_7 rfl (lv_at hl 1 rfl) ?_
  refine lv_aload_n hx hb dX4_perform_8 rfl (lv_at hl 0 rfl) ?_
  refine lv_iload_n hx hb dX4_perform_9 rfl (lv_at hl 3 rfl) ?_
  refine gw_callVi (As := [.ref (ad (9 + 8 * b + 1 + 1 + q)), .int (nI j)]) (rest := []) F hl.1 hW (fun _ _ hw => va_Nw.warmM hw hE) XE_E (by omega) (xe_T (b := b) (by omega)) rfl (kX4_eatenBy (b := b) (q := q) (by omega) hT hq hX) pd_yX4_eatenBy ml_RX4_80 im_yX4_eatenBy se_yX4_eatenBy ini_RX4 cd_yX4_eatenBy ⟨rfl, rfl⟩ ⟨Nat.le_of_ble_eq_true rfl, Nat.le_of_ble_eq_true rfl⟩ rfl rfl (Nat.le_of_ble_eq_true rfl) ⟨Nat.zero_le _, Nat.zero_le _⟩ dX4_perform_10 (fun r ρ_1 H locs hp hW _ _ => ?_)
  subst hp
  refine lv_topi (fun v_2 ev_2 => ?_)
  refine lv_istore (lv' := [(4, .int v_2), (3, .ref (ad (9 + 8 * b + 1 + 1 + q))), (0, .ref (ad (9 + 8 * b))), (1, .int (nI q)), (2, .int (nI j))]) hx hb dX4_perform_13 hl (by decide) rfl (fun ls hl => ?_)
  refine lv_aload_n hx hb dX4_perform_15 rfl (lv_at hl 2 rfl) ?_
  refine lv_iload_n hx hb dX4_perform_16 rfl (lv_at hl 3 rfl) ?_
  refine gw_callVi (As := [.int (nI q)]) (rest := []) F hl.1 hW (fun _ _ hw => va_Nw.warmM hw hE) XE_E (by omega) (xe_T (b := b) (by omega)) rfl (kX4_toldBy (b := b) (q := q) (by omega) hT hq hX) pd_yX4_toldBy ml_RX4_84 im_yX4_toldBy se_yX4_toldBy ini_RX4 cd_yX4_toldBy ⟨rfl, rfl⟩ ⟨Nat.le_of_ble_eq_true rfl, Nat.le_of_ble_eq_true rfl⟩ rfl rfl (Nat.le_of_ble_eq_true rfl) ⟨Nat.zero_le _, Nat.zero_le _⟩ dX4_perform_17 (fun r ρ_3 H locs hp hW _ _ => ?_)
  subst hp
  refine lv_as (z := nI c0) (htell) ?_
  refine lv_istore (lv' := [(5, .int (nI c0)), (4, .int v_2), (3, .ref (ad (9 + 8 * b + 1 + 1 + q))), (0, .ref (ad (9 + 8 * b))), (1, .int (nI q)), (2, .int (nI j))]) hx hb dX4_perform_20 hl (by decide) rfl (fun ls hl => ?_)
  refine lv_aload_n hx hb dX4_perform_22 rfl (lv_at hl 2 rfl) ?_
  refine lv_bipush (v := 99) hx hb dX4_perform_23 (by decide) ?_
  refine lv_aload_n hx hb dX4_perform_25 rfl (lv_at hl 2 rfl) ?_
  refine xr_G (b := b) (q := q) F hW (by omega) (by omega) 5 (by decide) fl_RX4_88 dX4_perform_26 ?_
  refine lv_iload hx hb dX4_perform_29 (lv_at hl 1 rfl) ?_
  refine lv_iadd hx hb dX4_perform_31 ?_
  refine gw_callP (As := [.int 99, .int ((TT b q 5) + v_2)]) (rest := [.ref (ad (9 + 8 * b + 1 + 1 + q))]) F hl.1 (kJ9_min_7cf53) pd_yJ9_min_7cf53 ml_RX4_91 st_yJ9_min_7cf53 ini_RJ9 cd_yJ9_min_7cf53 ⟨rfl, rfl⟩ ⟨Nat.le_of_ble_eq_true rfl, Nat.le_of_ble_eq_true rfl⟩ rfl rfl (Nat.le_of_ble_eq_true rfl) ⟨Nat.zero_le _, Nat.zero_le _⟩ dX4_perform_32 ?_
  refine lv_as (z := min99 ((TT b q 5) + v_2)) (min_99 _) ?_
  refine xw_G (b := b) (q := q) F hW (by omega) (by omega) 5 (by decide) fl_RX4_88 rfl (ty := .int) rfl rfl rfl dX4_perform_35 (fun H locs hW => ?_)
  refine lv_aload_n hx hb dX4_perform_38 rfl (lv_at hl 2 rfl) ?_
  refine lv_dup hx hb dX4_perform_39 rfl ?_
  refine xr_G (b := b) (q := q) F hW (by omega) (by omega) 2 (by decide) fl_RX4_55 dX4_perform_40 ?_
  refine lv_iconst (v := 1) hx hb dX4_perform_43 (by decide) ?_
  refine lv_iload_n hx hb dX4_perform_44 rfl (lv_at hl 5 rfl) ?_
  refine lv_ishl hx hb dX4_perform_45 ?_
  refine lv_ior hx hb dX4_perform_46 ?_
  refine xw_G (b := b) (q := q) F hW (by omega) (by omega) 2 (by decide) fl_RX4_55 rfl (ty := .int) rfl rfl rfl dX4_perform_47 (fun H locs hW => ?_)
  refine lv_iload hx hb dX4_perform_50 (lv_at hl 0 rfl) ?_
  refine lv_iload_n hx hb dX4_perform_52 rfl (lv_at hl 4 rfl) ?_
  refine lv_icmp_eq (tgt := 74) hx hb dX4_perform_53 (by decide) (fun c_4 => ?_) (fun c_4 => ?_)
  ·
    have hcq : c0 = q := (nI_eq (by omega) (by omega)).mp c_4
    refine lv_aload_n hx hb dX4_perform_74 rfl (lv_at hl 2 rfl) ?_
    refine lv_iconst (v := 0) hx hb dX4_perform_75 (by decide) ?_
    refine xw_G (b := b) (q := q) F hW (by omega) (by omega) 6 (by decide) fl_RX4_68 rfl (ty := .boolean) rfl rfl rfl dX4_perform_76 (fun H locs hW => ?_)
    exact hret (ρ_3, va_up (va_up (va_up TT b (upT (TT b) q 5 (min99 ((TT b q 5) + v_2)))) b (upT ((va_up TT b (upT (TT b) q 5 (min99 ((TT b q 5) + v_2)))) b) q 2 (((va_up TT b (upT (TT b) q 5 (min99 ((TT b q 5) + v_2)))) b q 2) ||| (1 <<< ((nI j) &&& 31))))) b (upT ((va_up (va_up TT b (upT (TT b) q 5 (min99 ((TT b q 5) + v_2)))) b (upT ((va_up TT b (upT (TT b) q 5 (min99 ((TT b q 5) + v_2)))) b) q 2 (((va_up TT b (upT (TT b) q 5 (min99 ((TT b q 5) + v_2)))) b q 2) ||| (1 <<< ((nI j) &&& 31))))) b) q 6 0)) _ _ _ _ _ hW rfl (by subst ev_2; simp only [va_up_self, bx_uu, performS, doneS, htell, nI_clamp (show c0 < 2 ^ 31 by omega), oneS, if_pos hcq]) dX4_perform_79
  ·
    have hcq : ¬ c0 = q := fun z => c_4 (by rw [z])
    refine lv_aload_n hx hb dX4_perform_56 rfl (lv_at hl 3 rfl) ?_
    refine xr_Tg (b := b) F hW (by omega) fl_RX4_17 dX4_perform_57 ?_
    refine lv_iload hx hb dX4_perform_60 (lv_at hl 0 rfl) ?_
    refine xr_Rn (b := b) (q := c0) rfl (by omega) F hW (by omega) dX4_perform_62 ?_
    refine lv_dup hx hb dX4_perform_63 rfl ?_
    refine xr_G (b := b) (q := c0) F hW (by omega) (by omega) 2 (by decide) fl_RX4_55 dX4_perform_64 ?_
    refine lv_iconst (v := 1) hx hb dX4_perform_67 (by decide) ?_
    refine lv_iload_n hx hb dX4_perform_68 rfl (lv_at hl 5 rfl) ?_
    refine lv_ishl hx hb dX4_perform_69 ?_
    refine lv_ixor hx hb dX4_perform_70 ?_
    refine xw_G (b := b) (q := c0) F hW (by omega) (by omega) 2 (by decide) fl_RX4_55 rfl (ty := .int) rfl rfl rfl dX4_perform_71 (fun H locs hW => ?_)
    refine lv_aload_n hx hb dX4_perform_74 rfl (lv_at hl 2 rfl) ?_
    refine lv_iconst (v := 0) hx hb dX4_perform_75 (by decide) ?_
    refine xw_G (b := b) (q := q) F hW (by omega) (by omega) 6 (by decide) fl_RX4_68 rfl (ty := .boolean) rfl rfl rfl dX4_perform_76 (fun H locs hW => ?_)
    exact hret (ρ_3, va_up (va_up (va_up (va_up TT b (upT (TT b) q 5 (min99 ((TT b q 5) + v_2)))) b (upT ((va_up TT b (upT (TT b) q 5 (min99 ((TT b q 5) + v_2)))) b) q 2 (((va_up TT b (upT (TT b) q 5 (min99 ((TT b q 5) + v_2)))) b q 2) ||| (1 <<< ((nI j) &&& 31))))) b (upT ((va_up (va_up TT b (upT (TT b) q 5 (min99 ((TT b q 5) + v_2)))) b (upT ((va_up TT b (upT (TT b) q 5 (min99 ((TT b q 5) + v_2)))) b) q 2 (((va_up TT b (upT (TT b) q 5 (min99 ((TT b q 5) + v_2)))) b q 2) ||| (1 <<< ((nI j) &&& 31))))) b) c0 2 (((va_up (va_up TT b (upT (TT b) q 5 (min99 ((TT b q 5) + v_2)))) b (upT ((va_up TT b (upT (TT b) q 5 (min99 ((TT b q 5) + v_2)))) b) q 2 (((va_up TT b (upT (TT b) q 5 (min99 ((TT b q 5) + v_2)))) b q 2) ||| (1 <<< ((nI j) &&& 31))))) b c0 2) ^^^ (1 <<< ((nI j) &&& 31))))) b (upT ((va_up (va_up (va_up TT b (upT (TT b) q 5 (min99 ((TT b q 5) + v_2)))) b (upT ((va_up TT b (upT (TT b) q 5 (min99 ((TT b q 5) + v_2)))) b) q 2 (((va_up TT b (upT (TT b) q 5 (min99 ((TT b q 5) + v_2)))) b q 2) ||| (1 <<< ((nI j) &&& 31))))) b (upT ((va_up (va_up TT b (upT (TT b) q 5 (min99 ((TT b q 5) + v_2)))) b (upT ((va_up TT b (upT (TT b) q 5 (min99 ((TT b q 5) + v_2)))) b) q 2 (((va_up TT b (upT (TT b) q 5 (min99 ((TT b q 5) + v_2)))) b q 2) ||| (1 <<< ((nI j) &&& 31))))) b) c0 2 (((va_up (va_up TT b (upT (TT b) q 5 (min99 ((TT b q 5) + v_2)))) b (upT ((va_up TT b (upT (TT b) q 5 (min99 ((TT b q 5) + v_2)))) b) q 2 (((va_up TT b (upT (TT b) q 5 (min99 ((TT b q 5) + v_2)))) b q 2) ||| (1 <<< ((nI j) &&& 31))))) b c0 2) ^^^ (1 <<< ((nI j) &&& 31))))) b) q 6 0)) _ _ _ _ _ hW rfl (by subst ev_2; simp only [va_up_self, bx_uu, performS, doneS, htell, nI_clamp (show c0 < 2 ^ 31 by omega), oneS, if_neg hcq]) dX4_perform_79
theorem va_up_eta {α : Type} (f : Nat → α) (k : Nat) : va_up f k (f k) = f := by
  funext j
  by_cases h : j = k
  · subst h; exact va_up_self _ _ _
  · exact va_up_ne _ _ h
abbrev rm_yX4_pass : Room := { frames := 5, cells := 0, slots := 0, locals := 116 }
set_option maxHeartbeats 800000 in
set_option maxRecDepth 100000 in
theorem kX4_pass {l : Launch} {D : va_G} {cs : Nat → ClassId} {ad : Nat → Nat} {n : Nat} {ρ σ : Nat → Nat → Int32} {TT τ : Nat → Nat → Nat → Int32} {sz : Nat} {b : Nat} (hb : b < 3) (hT : okT n (TT b)) (hX : okX n τ) : XMi l yX4_pass cX4_pass 4 FieldType.int rm_yX4_pass [.ref (ad (9 + 8 * b))] D cs ad n ρ TT τ σ sz (fun (r : Int32) (u : (Nat → Nat → Int32) × (Nat → Nat → Nat → Int32)) => r = (passS (xLx n τ) (TT b)).2 ∧ u.2 = va_up TT b (passS (xLx n τ) (TT b)).1) (fun u : (Nat → Nat → Int32) × (Nat → Nat → Nat → Int32) => xent ad cs n u.1 u.2 τ σ) := by
  refine gw_stI (Ff := fun u : (Nat → Nat → Int32) × (Nat → Nat → Nat → Int32) => xent ad cs n u.1 u.2 τ σ) (own := RX4) (by decide +kernel) rfl (Nat.le_of_ble_eq_true rfl) ?_
  intro p e s m ar below meth c A Q F hE hsz hW hret ls hl
  obtain ⟨hx, hb, hml, hown, hts⟩ := id F
  have hl : lv_has ls 4 [(0, .ref (ad (9 + 8 * b)))] := hl
  have hs6 := hT.1
  have hsN := hT.2.1
  refine lv_iconst (v := 0) hx hb dX4_pass_0 (by decide) ?_
  refine lv_istore_n (lv' := [(1, .int 0), (0, .ref (ad (9 + 8 * b)))]) hx hb dX4_pass_1 rfl hl (by decide) rfl (fun ls hl => ?_)
  refine lv_iconst (v := 0) hx hb dX4_pass_2 (by decide) ?_
  refine lv_istore_n (lv' := [(2, .int 0), (1, .int 0), (0, .ref (ad (9 + 8 * b)))]) hx hb dX4_pass_3 rfl hl (by decide) rfl (fun ls hl => ?_)
  have L4 : ∀ (k : Nat) (i : Nat) (ρ' : Nat → Nat → Int32) (TT' : Nat → Nat → Nat → Int32) (x : Int32), (i ≤ seatsN (TT b)) → (seatsN (TT b) + 1 ≤ i + k) → (TT' = va_up TT b (passK (xLx n τ) (TT b) i).1) → (x = (passK (xLx n τ) (TT b) i).2) → ∀ (H : Heap) (locs : List Loc) (ls : Array Slot), XW D cs ad n ρ' TT' τ σ A s s.heap H locs → lv_has ls 4 [(2, .int (nI i)), (1, .int x), (0, .ref (ad (9 + 8 * b)))] → W p l e rm_yX4_pass s m ar below meth c H locs 0 0 Q (F0 m 4 ls []) := by
    intro k
    induction k with
    | zero => intro i ρ' TT' x h1 h2 hTT hxx; exact absurd h2 (by omega)
    | succ k ih4 =>
      intro i ρ' TT' x h1 h2 hTT hxx H locs ls hW hl
      have hTb : TT' b = (passK (xLx n τ) (TT b) i).1 := by rw [hTT, va_up_self]
      have hT' : okT n (TT' b) := by rw [hTb]; exact (ok_passK hT i h1).1
      have hs' : seatsN (TT' b) = seatsN (TT b) := by rw [hTb]; exact (ok_passK hT i h1).2
      have h6' : TT' b 6 = TT b 6 := by rw [hTb]; exact row6_passK hT i h1
      refine lv_iload_n hx hb dX4_pass_4 rfl (lv_at hl 0 rfl) ?_
      refine lv_aload_n hx hb dX4_pass_5 rfl (lv_at hl 2 rfl) ?_
      refine xr_Ti (b := b) F hW (by omega) 1 (by decide) fl_RX4_22 dX4_pass_6 ?_
      refine lv_as (z := nI (seatsN (TT b))) (by rw [h6']; exact hsN) ?_
      refine lv_icmp_ge (tgt := 71) hx hb dX4_pass_9 (by decide) (fun c_1 => ?_) (fun c_1 => ?_)
      ·
        obtain rfl : i = seatsN (TT b) := by have := mi_le c_1 (by omega) (by omega); omega
        refine lv_aload_n hx hb dX4_pass_71 rfl (lv_at hl 2 rfl) ?_
        refine lv_dup hx hb dX4_pass_72 rfl ?_
        refine xr_Ti (b := b) F hW (by omega) 2 (by decide) fl_RX4_26 dX4_pass_73 ?_
        refine lv_iconst (v := 1) hx hb dX4_pass_76 (by decide) ?_
        refine lv_iadd hx hb dX4_pass_77 ?_
        refine xw_Ti (b := b) F hW (by omega) 2 (by decide) fl_RX4_26 dX4_pass_78 (fun H locs hW => ?_)
        refine lv_iload_n hx hb dX4_pass_81 rfl (lv_at hl 1 rfl) ?_
        exact hret x (ρ', va_up TT' b (upT (TT' b) 6 2 ((TT' b 6 2) + 1))) _ _ _ _ _ hW rfl rfl (by refine ⟨hxx, ?_⟩; show va_up TT' b (upT (TT' b) 6 2 (TT' b 6 2 + 1)) = _; rw [h6', hTb, hTT, bx_uu]; rfl) dX4_pass_82
      ·
        have hlt : i < seatsN (TT b) := mi_nle c_1 (by omega) (by omega); have hi' : i < seatsN (TT' b) := by rw [hs']; exact hlt
        refine lv_aload_n hx hb dX4_pass_12 rfl (lv_at hl 2 rfl) ?_
        refine lv_aload_n hx hb dX4_pass_13 rfl (lv_at hl 2 rfl) ?_
        refine xr_Tg (b := b) F hW (by omega) fl_RX4_17 dX4_pass_14 ?_
        refine lv_iload_n hx hb dX4_pass_17 rfl (lv_at hl 0 rfl) ?_
        refine xr_Rn (b := b) (q := i) rfl (by omega) F hW (by omega) dX4_pass_18 ?_
        refine gw_callVi (As := [.ref (ad (9 + 8 * b + 1 + 1 + i))]) (rest := []) F hl.1 hW (fun _ _ hw => va_Nw.warmM hw hE) XE_E (by omega) (xe_T (b := b) (by omega)) rfl (kX4_actOf (b := b) (q := i) (by omega) hT' hi' hX) pd_yX4_actOf ml_RX4_94 im_yX4_actOf se_yX4_actOf ini_RX4 cd_yX4_actOf ⟨rfl, rfl⟩ ⟨Nat.le_of_ble_eq_true rfl, Nat.le_of_ble_eq_true rfl⟩ rfl rfl (Nat.le_of_ble_eq_true rfl) ⟨Nat.zero_le _, Nat.zero_le _⟩ dX4_pass_19 (fun r ρ_2 H locs hp hW _ _ => ?_)
        subst hp
        refine lv_topi (fun v_3 ev_3 => ?_)
        refine lv_istore_n (lv' := [(3, .int v_3), (2, .int (nI i)), (1, .int x), (0, .ref (ad (9 + 8 * b)))]) hx hb dX4_pass_22 rfl hl (by decide) rfl (fun ls hl => ?_)
        refine lv_iload_n hx hb dX4_pass_23 rfl (lv_at hl 0 rfl) ?_
        refine lv_iconst (v := (-1)) hx hb dX4_pass_24 (by decide) ?_
        refine lv_icmp_ne (tgt := 56) hx hb dX4_pass_25 (by decide) (fun c_4 => ?_) (fun c_4 => ?_)
        ·
          obtain ⟨j, hj, rfl⟩ : upto 10 v_3 := by rw [ev_3]; exact (act_upto _ _ _).resolve_left (fun z => c_4 (by rw [ev_3]; exact z))
          refine lv_aload_n hx hb dX4_pass_56 rfl (lv_at hl 3 rfl) ?_
          refine lv_iload_n hx hb dX4_pass_57 rfl (lv_at hl 1 rfl) ?_
          refine lv_iload_n hx hb dX4_pass_58 rfl (lv_at hl 0 rfl) ?_
          refine gw_callVv (As := [.int (nI i), .int (nI j)]) (rest := []) F hl.1 hW (fun _ _ hw => va_Nw.warmM hw hE) XE_E (by omega) (xe_T (b := b) (by omega)) rfl (kX4_perform (b := b) (q := i) (j := j) (by omega) hT' hi' hX hj) pd_yX4_perform ml_RX4_100 im_yX4_perform se_yX4_perform ini_RX4 cd_yX4_perform ⟨rfl, rfl⟩ ⟨Nat.le_of_ble_eq_true rfl, Nat.le_of_ble_eq_true rfl⟩ rfl rfl (Nat.le_of_ble_eq_true rfl) ⟨Nat.zero_le _, Nat.zero_le _⟩ dX4_pass_59 (fun u H locs hp hW _ _ => ?_)
          obtain ⟨ρ_5, TT_6⟩ := u
          have hp : TT_6 = va_up TT' b (performS (xLx n τ) (TT' b) i (nI j)) := hp
          subst hp
          obtain ⟨v_7, ev_7⟩ : ∃ z : Int32, z = x + 1 := ⟨_, rfl⟩
          refine lv_iinc (v := v_7) (lv' := [(1, .int v_7), (3, .int (nI j)), (2, .int (nI i)), (0, .ref (ad (9 + 8 * b)))]) hx hb dX4_pass_62 hl (k := 2) rfl (by rw [ev_7]; rfl) (by decide) rfl (fun ls hl => ?_)
          refine lv_iinc (v := nI (i + 1)) (lv' := [(2, .int (nI (i + 1))), (1, .int v_7), (3, .int (nI j)), (0, .ref (ad (9 + 8 * b)))]) hx hb dX4_pass_65 hl (k := 2) rfl (nI_1 i) (by decide) rfl (fun ls hl => ?_)
          refine lv_goto (tgt := 4) hx hb dX4_pass_68 (by decide) ?_
          exact ih4 (i + 1) _ _ _ (by omega) (by omega) (by rw [show passK (xLx n τ) (TT b) (i + 1) = oneStep (xLx n τ) (passK (xLx n τ) (TT b) i) i from rfl, step_yes (by rw [← hTb]; exact (ev_3).symm) c_4, hTb, hTT, bx_uu]) (by rw [show passK (xLx n τ) (TT b) (i + 1) = oneStep (xLx n τ) (passK (xLx n τ) (TT b) i) i from rfl, step_yes (by rw [← hTb]; exact (ev_3).symm) c_4, ev_7, hxx]) _ _ _ hW (lv_sub hl [0, 1, 3] rfl)
        ·
          refine lv_aload_n hx hb dX4_pass_28 rfl (lv_at hl 3 rfl) ?_
          refine xr_Tg (b := b) F hW (by omega) fl_RX4_17 dX4_pass_29 ?_
          refine lv_iload_n hx hb dX4_pass_32 rfl (lv_at hl 1 rfl) ?_
          refine xr_Rn (b := b) (q := i) rfl (by omega) F hW (by omega) dX4_pass_33 ?_
          refine lv_bipush (v := 99) hx hb dX4_pass_34 (by decide) ?_
          refine lv_aload_n hx hb dX4_pass_36 rfl (lv_at hl 3 rfl) ?_
          refine xr_Tg (b := b) F hW (by omega) fl_RX4_17 dX4_pass_37 ?_
          refine lv_iload_n hx hb dX4_pass_40 rfl (lv_at hl 1 rfl) ?_
          refine xr_Rn (b := b) (q := i) rfl (by omega) F hW (by omega) dX4_pass_41 ?_
          refine xr_G (b := b) (q := i) F hW (by omega) (by omega) 4 (by decide) fl_RX4_97 dX4_pass_42 ?_
          refine lv_iconst (v := 1) hx hb dX4_pass_45 (by decide) ?_
          refine lv_iadd hx hb dX4_pass_46 ?_
          refine gw_callP (As := [.int 99, .int ((TT' b i 4) + 1)]) (rest := [.ref (ad (9 + 8 * b + 1 + 1 + i))]) F hl.1 (kJ9_min_7cf53) pd_yJ9_min_7cf53 ml_RX4_91 st_yJ9_min_7cf53 ini_RJ9 cd_yJ9_min_7cf53 ⟨rfl, rfl⟩ ⟨Nat.le_of_ble_eq_true rfl, Nat.le_of_ble_eq_true rfl⟩ rfl rfl (Nat.le_of_ble_eq_true rfl) ⟨Nat.zero_le _, Nat.zero_le _⟩ dX4_pass_47 ?_
          refine lv_as (z := min99 ((TT' b i 4) + 1)) (min_99 _) ?_
          refine xw_G (b := b) (q := i) F hW (by omega) (by omega) 4 (by decide) fl_RX4_97 rfl (ty := .int) rfl rfl rfl dX4_pass_50 (fun H locs hW => ?_)
          refine lv_goto (tgt := 65) hx hb dX4_pass_53 (by decide) ?_
          refine lv_iinc (v := nI (i + 1)) (lv' := [(2, .int (nI (i + 1))), (3, .int v_3), (1, .int x), (0, .ref (ad (9 + 8 * b)))]) hx hb dX4_pass_65 hl (k := 1) rfl (nI_1 i) (by decide) rfl (fun ls hl => ?_)
          refine lv_goto (tgt := 4) hx hb dX4_pass_68 (by decide) ?_
          exact ih4 (i + 1) _ _ _ (by omega) (by omega) (by rw [show passK (xLx n τ) (TT b) (i + 1) = oneStep (xLx n τ) (passK (xLx n τ) (TT b) i) i from rfl, step_no (by rw [← hTb, ← ev_3]; exact c_4), hTb, hTT, bx_uu]) (by rw [show passK (xLx n τ) (TT b) (i + 1) = oneStep (xLx n τ) (passK (xLx n τ) (TT b) i) i from rfl, step_no (by rw [← hTb, ← ev_3]; exact c_4)]; exact hxx) _ _ _ hW (lv_sub hl [0, 2, 3] rfl)
  exact L4 (seatsN (TT b) + 1) 0 _ _ 0 (Nat.zero_le _) (by omega) (by show TT = va_up TT b (TT b); exact (va_up_eta TT b).symm) (rfl) _ _ _ hW (lv_sub hl [0, 1, 2] rfl)
