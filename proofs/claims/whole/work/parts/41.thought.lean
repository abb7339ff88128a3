abbrev rm_yX7_think : Room := { frames := 2, cells := 0, slots := 0, locals := 43 }
set_option maxHeartbeats 800000 in
set_option maxRecDepth 100000 in
theorem kX7_think {l : Launch} {D : va_G} {cs : Nat → ClassId} {ad : Nat → Nat} {n : Nat} {ρ σ : Nat → Nat → Int32} {TT τ : Nat → Nat → Nat → Int32} {sz : Nat} {X : Tb} (hT : okT n (TT 0)) : XMv l yX7_think cX7_think 1 rm_yX7_think [.ref (ad 0)] D cs ad n ρ (va_up TT 1 X) τ σ sz (fun (u : Tb) => EqT u (TT 0)) (fun u : Tb => xent ad cs n ρ (va_up TT 1 u) τ σ) := by
  refine gw_stV (Ff := fun u : Tb => xent ad cs n ρ (va_up TT 1 u) τ σ) (own := RX7) (by decide +kernel) rfl (Nat.le_of_ble_eq_true rfl) ?_
  intro p e s m ar below meth c A Q F hE hsz hW hret ls hl
  obtain ⟨hx, hb, hml, hown, hts⟩ := id F
  have hl : lv_has ls 1 [(0, .ref (ad 0))] := hl
  refine lv_aload_n hx hb dX7_think_0 rfl (lv_at hl 0 rfl) ?_
  refine xr_O F hW 6 (by decide) rfl fl_RX7_54 dX7_think_1 ?_
  refine lv_aload_n hx hb dX7_think_4 rfl (lv_at hl 0 rfl) ?_
  refine xr_O F hW 5 (by decide) rfl fl_RX7_50 dX7_think_5 ?_
  refine gw_callVv (As := [.ref (ad (9 + 8 * 0))]) (rest := []) F hl.1 hW (fun _ _ hw => va_Nw.warmM hw hE) XE_E (by omega) (xe_T (b := 1) (by decide)) rfl (kX4_become (b := 1) (b2 := 0) (by decide) (by decide) (by decide) hT) pd_yX4_become ml_RX7_266 im_yX4_become se_yX4_become ini_RX4 cd_yX4_become ⟨rfl, rfl⟩ ⟨Nat.le_of_ble_eq_true rfl, Nat.le_of_ble_eq_true rfl⟩ rfl rfl (Nat.le_of_ble_eq_true rfl) ⟨Nat.zero_le _, Nat.zero_le _⟩ dX7_think_8 (fun TT_1 H locs hp hW _ _ => ?_)
  have hp : TT_1 = va_up TT 1 (copyT X (TT 0)) := hp.trans (bx_uu _ _ _ _)
  subst hp
  exact hret (copyT X (TT 0)) _ _ _ _ _ hW rfl (copyT_eq X (TT 0) hT) dX7_think_11
theorem EqT.sbeh {n : Nat} {T U : Tb} (h : EqT T U) (hT : okT n T) (Lx : Lw) (k : Nat) : behS Lx T k = behS Lx U k := by
  unfold behS; rw [(h.npass hT Lx k).1.stuckB Lx]
theorem EqT.abeh {n : Nat} {T U : Tb} (h : EqT T U) (hT : okT n T) (Lx : Lw) (k : Nat) : behA Lx T k = behA Lx U k := by
  unfold behA; exact (h.npass hT Lx k).1.ate
abbrev rm_yX7_poker : Room := { frames := 7, cells := 0, slots := 0, locals := 161 }
set_option maxHeartbeats 800000 in
set_option maxRecDepth 100000 in
theorem kX7_poker {l : Launch} {D : va_G} {cs : Nat → ClassId} {ad : Nat → Nat} {n : Nat} {ρ σ : Nat → Nat → Int32} {TT τ : Nat → Nat → Nat → Int32} {sz : Nat} {v w0 : Int32} (hO : okO n TT τ σ) : XMi l yX7_poker cX7_poker 7 FieldType.int rm_yX7_poker [.ref (ad 0), .int v, .int w0] D cs ad n ρ TT τ σ sz (fun (r : Int32) (u : (Nat → Nat → Int32) × Tb) => r = pokerP (xLx n τ) (TT 0) v w0) (fun u : (Nat → Nat → Int32) × Tb => xent ad cs n u.1 (va_up TT 1 u.2) τ σ) := by
  refine gw_stI (Ff := fun u : (Nat → Nat → Int32) × Tb => xent ad cs n u.1 (va_up TT 1 u.2) τ σ) (own := RX7) (by decide +kernel) rfl (Nat.le_of_ble_eq_true rfl) ?_
  intro p e s m ar below meth c A Q F hE hsz hW hret ls hl
  obtain ⟨hx, hb, hml, hown, hts⟩ := id F
  have hl : lv_has ls 7 [(0, .ref (ad 0)), (1, .int v), (2, .int w0)] := hl
  obtain ⟨hn1, hn6, hT, hX, hc, hnum⟩ := hO
  have hs6 := hT.1
  have hsN := hT.2.1
  have ht0 : (TT 0 6 3).toNatClampNeg < n := hT.2.2.1
  have hW : XW D cs ad n ρ (va_up TT 1 (TT 1)) τ σ A s s.heap s.heap [] := by rw [va_up_eta]; exact hW
  refine lv_iload_n hx hb dX7_poker_0 rfl (lv_at hl 1 rfl) ?_
  refine gw_callP (As := [.int v]) (rest := []) F hl.1 (kX7_isRun) pd_yX7_isRun ml_RX7_204 st_yX7_isRun ini_RX7 cd_yX7_isRun ⟨rfl, rfl⟩ ⟨Nat.le_of_ble_eq_true rfl, Nat.le_of_ble_eq_true rfl⟩ rfl rfl (Nat.le_of_ble_eq_true rfl) ⟨Nat.zero_le _, Nat.zero_le _⟩ dX7_poker_1 ?_
  refine lv_as (z := runP v) rfl ?_
  refine lv_if_eq (tgt := 14) hx hb dX7_poker_4 (by decide) (fun c_1 => ?_) (fun c_1 => ?_)
  ·
    refine lv_bipush (v := (-2)) hx hb dX7_poker_14 (by decide) ?_
    exact hret (-2) (ρ, (TT 1)) _ _ _ _ _ hW rfl rfl (by (try simp only [i32_le, Decidable.not_not] at c_1); first | (simp only [pokerP, i32_le, c_1, if_true, if_false, not_false_eq_true, not_true_eq_false]; done) | simp [pokerP, c_1, i32_le]) dX7_poker_16
  ·
    obtain ⟨w, hw40, rfl⟩ := run_nat c_1; have hiw : iN (nI w) = w := iN_nI (by omega)
    refine lv_iload_n hx hb dX7_poker_7 rfl (lv_at hl 2 rfl) ?_
    refine gw_callP (As := [.int w0]) (rest := []) F hl.1 (kX7_isChoice) pd_yX7_isChoice ml_RX7_216 st_yX7_isChoice ini_RX7 cd_yX7_isChoice ⟨rfl, rfl⟩ ⟨Nat.le_of_ble_eq_true rfl, Nat.le_of_ble_eq_true rfl⟩ rfl rfl (Nat.le_of_ble_eq_true rfl) ⟨Nat.zero_le _, Nat.zero_le _⟩ dX7_poker_8 ?_
    refine lv_as (z := choP w0) rfl ?_
    refine lv_if_ne (tgt := 17) hx hb dX7_poker_11 (by decide) (fun c_2 => ?_) (fun c_2 => ?_)
    ·
      refine lv_iconst (v := (-1)) hx hb dX7_poker_17 (by decide) ?_
      refine lv_istore_n (lv' := [(3, .int (-1)), (0, .ref (ad 0)), (1, .int (nI w)), (2, .int w0)]) hx hb dX7_poker_18 rfl hl (by decide) rfl (fun ls hl => ?_)
      refine lv_aload_n hx hb dX7_poker_19 rfl (lv_at hl 1 rfl) ?_
      refine gw_callVv (As := []) (rest := []) F hl.1 hW (fun _ _ hw => va_Nw.warmM hw hE) XE_E (by omega) xe_0 rfl (kX7_think (TT := TT) (X := (TT 1)) hT) pd_yX7_think ml_RX7_207 im_yX7_think se_yX7_think ini_RX7 cd_yX7_think ⟨rfl, rfl⟩ ⟨Nat.le_of_ble_eq_true rfl, Nat.le_of_ble_eq_true rfl⟩ rfl rfl (Nat.le_of_ble_eq_true rfl) ⟨Nat.zero_le _, Nat.zero_le _⟩ dX7_poker_20 (fun C_3 H locs hp hW _ _ => ?_)
      have hC_C_3 : EqT C_3 (TT 0) := hp
      have hCo_C_3 : okT n C_3 := hC_C_3.symm.ok hT
      have hCs_C_3 : seatsN C_3 = seatsN (TT 0) := hC_C_3.seats
      refine lv_aload_n hx hb dX7_poker_23 rfl (lv_at hl 1 rfl) ?_
      refine xr_O F hW 6 (by decide) rfl fl_RX7_54 dX7_poker_24 ?_
      refine lv_iload_n hx hb dX7_poker_27 rfl (lv_at hl 2 rfl) ?_
      refine gw_callVi (As := [.int (nI w)]) (rest := []) F hl.1 hW (fun _ _ hw => va_Nw.warmM hw hE) XE_E (by omega) (xe_T (b := 1) (by decide)) rfl (kX4_stuckBehind (b := 1) (w := w) (by decide) hCo_C_3 hX (by omega)) pd_yX4_stuckBehind ml_RX7_219 im_yX4_stuckBehind se_yX4_stuckBehind ini_RX4 cd_yX4_stuckBehind ⟨rfl, rfl⟩ ⟨Nat.le_of_ble_eq_true rfl, Nat.le_of_ble_eq_true rfl⟩ rfl rfl (Nat.le_of_ble_eq_true rfl) ⟨Nat.zero_le _, Nat.zero_le _⟩ dX7_poker_28 (fun r u H locs hp hW _ _ => ?_)
      obtain ⟨ρ_4, TT_5⟩ := u
      obtain ⟨rfl, hp⟩ := hp
      have hp : TT_5 = va_up TT 1 (passN (xLx n τ) C_3 w).1 := hp.trans (bx_uu _ _ _ _)
      subst hp
      refine lv_as (z := behS (xLx n τ) C_3 w) rfl ?_
      refine lv_as (z := behS (xLx n τ) (TT 0) w) (hC_C_3.sbeh hCo_C_3 (xLx n τ) w) ?_
      refine lv_topi (fun v_6 ev_6 => ?_)
      refine lv_istore (lv' := [(4, .int v_6), (3, .int (-1)), (0, .ref (ad 0)), (1, .int (nI w)), (2, .int w0)]) hx hb dX7_poker_31 hl (by decide) rfl (fun ls hl => ?_)
      refine lv_iconst (v := 0) hx hb dX7_poker_33 (by decide) ?_
      refine lv_istore (lv' := [(5, .int 0), (4, .int v_6), (3, .int (-1)), (0, .ref (ad 0)), (1, .int (nI w)), (2, .int w0)]) hx hb dX7_poker_34 hl (by decide) rfl (fun ls hl => ?_)
      have L36 : ∀ (k : Nat) (i : Nat) (ρ' : Nat → Nat → Int32) (X : Tb) (bb ff : Int32), (i ≤ 10) → (10 + 1 ≤ i + k) → ((pokeK (xLx n τ) (TT 0) w i) = (bb, ff)) → ∀ (H : Heap) (locs : List Loc) (ls : Array Slot), XW D cs ad n ρ' (va_up TT 1 X) τ σ A s s.heap H locs → lv_has ls 7 [(5, .int (nI i)), (3, .int bb), (4, .int ff), (0, .ref (ad 0)), (1, .int (nI w)), (2, .int w0)] → W p l e rm_yX7_poker s m ar below meth c H locs 0 0 Q (F0 m 36 ls []) := by
        intro k
        induction k with
        | zero => intro i ρ' X bb ff h1 h2 hBF; exact absurd h2 (by omega)
        | succ k ih36 =>
          intro i ρ' X bb ff h1 h2 hBF H locs ls hW hl
          refine lv_iload hx hb dX7_poker_36 (lv_at hl 0 rfl) ?_
          refine lv_bipush (v := 10) hx hb dX7_poker_38 (by decide) ?_
          refine lv_icmp_ge (tgt := 86) hx hb dX7_poker_40 (by decide) (fun c_7 => ?_) (fun c_7 => ?_)
          ·
            obtain rfl : i = 10 := by have := mi_le (a := 10) (b := i) c_7 (by omega) (by omega); omega
            refine lv_iload_n hx hb dX7_poker_86 rfl (lv_at hl 5 rfl) ?_
            refine lv_if_ne (tgt := 94) hx hb dX7_poker_87 (by decide) (fun c_8 => ?_) (fun c_8 => ?_)
            ·
              refine lv_iload hx hb dX7_poker_94 (lv_at hl 2 rfl) ?_
              exact hret ff (ρ', X) _ _ _ _ _ hW rfl rfl (by simp only [pokerP, c_1, c_2, if_false, hiw, pickS]; rw [if_neg c_8]; simp only [hBF]) dX7_poker_96
            ·
              refine lv_iload_n hx hb dX7_poker_90 rfl (lv_at hl 1 rfl) ?_
              refine lv_goto (tgt := 96) hx hb dX7_poker_91 (by decide) ?_
              exact hret bb (ρ', X) _ _ _ _ _ hW rfl rfl (by simp only [pokerP, c_1, c_2, if_false, hiw, pickS]; rw [if_pos c_8]; simp only [hBF]) dX7_poker_96
          ·
            have hlt : i < 10 := mi_nle (a := 10) (b := i) c_7 (by omega) (by omega)
            refine lv_aload_n hx hb dX7_poker_43 rfl (lv_at hl 3 rfl) ?_
            refine gw_callVv (As := []) (rest := []) F hl.1 hW (fun _ _ hw => va_Nw.warmM hw hE) XE_E (by omega) xe_0 rfl (kX7_think (TT := TT) (X := X) hT) pd_yX7_think ml_RX7_207 im_yX7_think se_yX7_think ini_RX7 cd_yX7_think ⟨rfl, rfl⟩ ⟨Nat.le_of_ble_eq_true rfl, Nat.le_of_ble_eq_true rfl⟩ rfl rfl (Nat.le_of_ble_eq_true rfl) ⟨Nat.zero_le _, Nat.zero_le _⟩ dX7_poker_44 (fun C_9 H locs hp hW _ _ => ?_)
            have hC_C_9 : EqT C_9 (TT 0) := hp
            have hCo_C_9 : okT n C_9 := hC_C_9.symm.ok hT
            have hCs_C_9 : seatsN C_9 = seatsN (TT 0) := hC_C_9.seats
            refine lv_aload_n hx hb dX7_poker_47 rfl (lv_at hl 3 rfl) ?_
            refine xr_O F hW 6 (by decide) rfl fl_RX7_54 dX7_poker_48 ?_
            refine lv_iload hx hb dX7_poker_51 (lv_at hl 0 rfl) ?_
            refine gw_callVv (As := [.int (nI i)]) (rest := []) F hl.1 hW (fun _ _ hw => va_Nw.warmM hw hE) XE_E (by omega) (xe_T (b := 1) (by decide)) rfl (kX4_makeRight (b := 1) (by decide) hCo_C_9) pd_yX4_makeRight ml_RX7_222 im_yX4_makeRight se_yX4_makeRight ini_RX4 cd_yX4_makeRight ⟨rfl, rfl⟩ ⟨Nat.le_of_ble_eq_true rfl, Nat.le_of_ble_eq_true rfl⟩ rfl rfl (Nat.le_of_ble_eq_true rfl) ⟨Nat.zero_le _, Nat.zero_le _⟩ dX7_poker_53 (fun TT_10 H locs hp hW _ _ => ?_)
            have hp : TT_10 = va_up TT 1 (rightK C_9 (nI i) (seatsN C_9)) := hp.trans (bx_uu _ _ _ _)
            subst hp
            refine lv_aload_n hx hb dX7_poker_56 rfl (lv_at hl 3 rfl) ?_
            refine xr_O F hW 6 (by decide) rfl fl_RX7_54 dX7_poker_57 ?_
            refine lv_iload_n hx hb dX7_poker_60 rfl (lv_at hl 4 rfl) ?_
            refine gw_callVi (As := [.int (nI w)]) (rest := []) F hl.1 hW (fun _ _ hw => va_Nw.warmM hw hE) XE_E (by omega) (xe_T (b := 1) (by decide)) rfl (kX4_stuckBehind (b := 1) (w := w) (by decide) (ok_rightK hCo_C_9 (nI i) _ (Nat.le_refl _)).1 hX (by omega)) pd_yX4_stuckBehind ml_RX7_219 im_yX4_stuckBehind se_yX4_stuckBehind ini_RX4 cd_yX4_stuckBehind ⟨rfl, rfl⟩ ⟨Nat.le_of_ble_eq_true rfl, Nat.le_of_ble_eq_true rfl⟩ rfl rfl (Nat.le_of_ble_eq_true rfl) ⟨Nat.zero_le _, Nat.zero_le _⟩ dX7_poker_61 (fun r u H locs hp hW _ _ => ?_)
            obtain ⟨ρ_11, TT_12⟩ := u
            obtain ⟨rfl, hp⟩ := hp
            have hp : TT_12 = va_up TT 1 (passN (xLx n τ) (rightK C_9 (nI i) (seatsN C_9)) w).1 := hp.trans (bx_uu _ _ _ _)
            subst hp
            refine lv_as (z := behS (xLx n τ) (rightK C_9 (nI i) (seatsN C_9)) w) rfl ?_
            refine lv_as (z := behS (xLx n τ) (rightK (TT 0) (nI i) (seatsN (TT 0))) w) (by rw [hCs_C_9]; exact ((hC_C_9.kright (nI i) _ hs6).sbeh (ok_rightK hCo_C_9 (nI i) (seatsN (TT 0)) (Nat.le_of_eq hCs_C_9.symm)).1 (xLx n τ) w)) ?_
            refine lv_topi (fun vv evv => ?_)
            refine lv_istore (lv' := [(6, .int vv), (5, .int (nI i)), (3, .int bb), (4, .int ff), (0, .ref (ad 0)), (1, .int (nI w)), (2, .int w0)]) hx hb dX7_poker_64 hl (by decide) rfl (fun ls hl => ?_)
            refine lv_iload hx hb dX7_poker_66 (lv_at hl 0 rfl) ?_
            refine lv_iload hx hb dX7_poker_68 (lv_at hl 3 rfl) ?_
            refine lv_icmp_ge (tgt := 80) hx hb dX7_poker_70 (by decide) (fun c_13 => ?_) (fun c_13 => ?_)
            ·
              refine lv_iinc (v := nI (i + 1)) (lv' := [(5, .int (nI (i + 1))), (6, .int vv), (3, .int bb), (4, .int ff), (0, .ref (ad 0)), (1, .int (nI w)), (2, .int w0)]) hx hb dX7_poker_80 hl (k := 1) rfl (nI_1 i) (by decide) rfl (fun ls hl => ?_)
              refine lv_goto (tgt := 36) hx hb dX7_poker_83 (by decide) ?_
              exact ih36 (i + 1) _ _ _ _ (by omega) (by omega) (by show lessS (pokeK (xLx n τ) (TT 0) w i) (nI i) _ = _; rw [hBF]; unfold lessS; rw [if_neg (by rw [← evv]; exact Int32.not_lt.mpr c_13)]) _ _ _ hW (lv_sub hl [0, 2, 3, 4, 5, 6] rfl)
            ·
              refine lv_iload hx hb dX7_poker_73 (lv_at hl 1 rfl) ?_
              refine lv_istore_n (lv' := [(3, .int (nI i)), (6, .int vv), (5, .int (nI i)), (4, .int ff), (0, .ref (ad 0)), (1, .int (nI w)), (2, .int w0)]) hx hb dX7_poker_75 rfl hl (by decide) rfl (fun ls hl => ?_)
              refine lv_iload hx hb dX7_poker_76 (lv_at hl 1 rfl) ?_
              refine lv_istore (lv' := [(4, .int vv), (3, .int (nI i)), (6, .int vv), (5, .int (nI i)), (0, .ref (ad 0)), (1, .int (nI w)), (2, .int w0)]) hx hb dX7_poker_78 hl (by decide) rfl (fun ls hl => ?_)
              refine lv_iinc (v := nI (i + 1)) (lv' := [(5, .int (nI (i + 1))), (4, .int vv), (3, .int (nI i)), (6, .int vv), (0, .ref (ad 0)), (1, .int (nI w)), (2, .int w0)]) hx hb dX7_poker_80 hl (k := 3) rfl (nI_1 i) (by decide) rfl (fun ls hl => ?_)
              refine lv_goto (tgt := 36) hx hb dX7_poker_83 (by decide) ?_
              exact ih36 (i + 1) _ _ _ _ (by omega) (by omega) (by show lessS (pokeK (xLx n τ) (TT 0) w i) (nI i) _ = _; rw [hBF]; unfold lessS; rw [if_pos (by rw [← evv]; exact Int32.not_le.mp c_13), ← evv]) _ _ _ hW (lv_sub hl [0, 2, 1, 4, 5, 6] rfl)
      exact L36 (10 + 1) 0 _ _ _ _ (Nat.zero_le _) (by omega) (by rw [ev_6]; rfl) _ _ _ hW (lv_sub hl [0, 2, 1, 3, 4, 5] rfl)
    ·
      refine lv_bipush (v := (-2)) hx hb dX7_poker_14 (by decide) ?_
      exact hret (-2) (ρ, (TT 1)) _ _ _ _ _ hW rfl rfl (by (try simp only [i32_le, Decidable.not_not] at c_1); (try simp only [i32_le, Decidable.not_not] at c_2); first | (simp only [pokerP, i32_le, c_1, c_2, if_true, if_false, not_false_eq_true, not_true_eq_false]; done) | simp [pokerP, c_1, c_2, i32_le]) dX7_poker_16
