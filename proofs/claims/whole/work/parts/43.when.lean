abbrev rm_yX7_when : Room := { frames := 6, cells := 0, slots := 0, locals := 139 }
set_option maxHeartbeats 800000 in
set_option maxRecDepth 100000 in
theorem kX7_when {l : Launch} {D : va_G} {cs : Nat → ClassId} {ad : Nat → Nat} {n : Nat} {ρ σ : Nat → Nat → Int32} {TT τ : Nat → Nat → Nat → Int32} {sz : Nat} {z0 : Int32} (hO : okO n TT τ σ) : XMi l yX7_when cX7_when 6 FieldType.int rm_yX7_when [.ref (ad 0), .int z0] D cs ad n ρ TT τ σ sz (fun (r : Int32) (u : (Nat → Nat → Int32) × Tb) => r = whenP (xLx n τ) (TT 0) z0) (fun u : (Nat → Nat → Int32) × Tb => xent ad cs n u.1 (va_up TT 1 u.2) τ σ) := by
  refine gw_stI (Ff := fun u : (Nat → Nat → Int32) × Tb => xent ad cs n u.1 (va_up TT 1 u.2) τ σ) (own := RX7) (by decide +kernel) rfl (Nat.le_of_ble_eq_true rfl) ?_
  intro p e s m ar below meth c A Q F hE hsz hW hret ls hl
  obtain ⟨hx, hb, hml, hown, hts⟩ := id F
  have hl : lv_has ls 6 [(0, .ref (ad 0)), (1, .int z0)] := hl
  obtain ⟨hn1, hn6, hT, hX, hc, hnum⟩ := hO
  have hs6 := hT.1
  have hsN := hT.2.1
  have ht0 : (TT 0 6 3).toNatClampNeg < n := hT.2.2.1
  have hW : XW D cs ad n ρ (va_up TT 1 (TT 1)) τ σ A s s.heap s.heap [] := by rw [va_up_eta]; exact hW
  refine lv_iload_n hx hb dX7_when_0 rfl (lv_at hl 1 rfl) ?_
  refine lv_if_lt (tgt := 27) hx hb dX7_when_1 (by decide) (fun c_1 => ?_) (fun c_1 => ?_)
  ·
    refine lv_bipush (v := (-5)) hx hb dX7_when_27 (by decide) ?_
    exact hret (-5) (ρ, (TT 1)) _ _ _ _ _ hW rfl rfl (by (try simp only [i32_le, Decidable.not_not] at c_1); simp only [whenP, i32_le, c_1, if_true, if_false, not_false_eq_true, not_true_eq_false]) dX7_when_29
  ·
    refine lv_iload_n hx hb dX7_when_4 rfl (lv_at hl 1 rfl) ?_
    refine lv_bipush (v := 7) hx hb dX7_when_5 (by decide) ?_
    refine lv_icmp_gt (tgt := 27) hx hb dX7_when_7 (by decide) (fun c_2 => ?_) (fun c_2 => ?_)
    ·
      refine lv_bipush (v := (-5)) hx hb dX7_when_27 (by decide) ?_
      exact hret (-5) (ρ, (TT 1)) _ _ _ _ _ hW rfl rfl (by (try simp only [i32_le, Decidable.not_not] at c_1); (try simp only [i32_le, Decidable.not_not] at c_2); simp only [whenP, i32_le, c_1, c_2, if_true, if_false, not_false_eq_true, not_true_eq_false]) dX7_when_29
    ·
      refine lv_iload_n hx hb dX7_when_10 rfl (lv_at hl 1 rfl) ?_
      refine lv_bipush (v := 6) hx hb dX7_when_11 (by decide) ?_
      refine lv_icmp_ge (tgt := 30) hx hb dX7_when_13 (by decide) (fun c_3 => ?_) (fun c_3 => ?_)
      ·
        refine lv_aload_n hx hb dX7_when_30 rfl (lv_at hl 0 rfl) ?_
        refine gw_callVv (As := []) (rest := []) F hl.1 hW (fun _ _ hw => va_Nw.warmM hw hE) XE_E (by omega) xe_0 rfl (kX7_think (TT := TT) (X := (TT 1)) hT) pd_yX7_think ml_RX7_207 im_yX7_think se_yX7_think ini_RX7 cd_yX7_think ⟨rfl, rfl⟩ ⟨Nat.le_of_ble_eq_true rfl, Nat.le_of_ble_eq_true rfl⟩ rfl rfl (Nat.le_of_ble_eq_true rfl) ⟨Nat.zero_le _, Nat.zero_le _⟩ dX7_when_31 (fun C_4 H locs hp hW _ _ => ?_)
        have hC_C_4 : EqT C_4 (TT 0) := hp
        have hCo_C_4 : okT n C_4 := hC_C_4.symm.ok hT
        have hCs_C_4 : seatsN C_4 = seatsN (TT 0) := hC_C_4.seats
        refine lv_iconst (v := 1) hx hb dX7_when_34 (by decide) ?_
        refine lv_aload_n hx hb dX7_when_35 rfl (lv_at hl 0 rfl) ?_
        refine xr_O F hW 6 (by decide) rfl fl_RX7_54 dX7_when_36 ?_
        refine xr_Ti (b := 1) F hW (by decide) 1 (by decide) fl_RX7_67 dX7_when_39 ?_
        refine lv_as (z := C_4 6 1) rfl ?_
        refine lv_as (z := TT 0 6 1) hC_C_4.1 ?_
        refine lv_ishl hx hb dX7_when_42 ?_
        refine lv_iconst (v := 1) hx hb dX7_when_43 (by decide) ?_
        refine lv_isub hx hb dX7_when_44 ?_
        refine lv_topi (fun v_5 ev_5 => ?_)
        refine lv_istore_n (lv' := [(2, .int v_5), (0, .ref (ad 0)), (1, .int z0)]) hx hb dX7_when_45 rfl hl (by decide) rfl (fun ls hl => ?_)
        refine lv_iconst (v := 0) hx hb dX7_when_46 (by decide) ?_
        refine lv_istore_n (lv' := [(3, .int 0), (2, .int v_5), (0, .ref (ad 0)), (1, .int z0)]) hx hb dX7_when_47 rfl hl (by decide) rfl (fun ls hl => ?_)
        generalize hR0 : whenF (xLx n τ) (TT 0) z0 61 0 = RES
        have L48 : ∀ (k : Nat) (i f : Nat) (ρ' : Nat → Nat → Int32) (X : Tb), (i + f = 61) → (62 ≤ i + k) → (okT n X) → (EqT X (passN (xLx n τ) (TT 0) i).1) → (whenF (xLx n τ) (TT 0) z0 f i = RES) → ∀ (H : Heap) (locs : List Loc) (ls : Array Slot), XW D cs ad n ρ' (va_up TT 1 X) τ σ A s s.heap H locs → lv_has ls 6 [(3, .int (nI i)), (2, .int v_5), (0, .ref (ad 0)), (1, .int z0)] → W p l e rm_yX7_when s m ar below meth c H locs 0 0 Q (F0 m 48 ls []) := by
          intro k
          induction k with
          | zero => intro i f ρ' X h1 h2 hX1 hXE hRR; exact absurd h2 (by omega)
          | succ k ih48 =>
            intro i f ρ' X h1 h2 hX1 hXE hRR H locs ls hW hl
            refine lv_iload_n hx hb dX7_when_48 rfl (lv_at hl 0 rfl) ?_
            refine lv_bipush (v := 60) hx hb dX7_when_49 (by decide) ?_
            refine lv_icmp_gt (tgt := 122) hx hb dX7_when_51 (by decide) (fun c_6 => ?_) (fun c_6 => ?_)
            ·
              obtain rfl : f = 0 := by have := mi_lt (a := 60) (b := i) c_6 (by decide) (by omega); omega
              refine lv_iconst (v := (-1)) hx hb dX7_when_122 (by decide) ?_
              exact hret (-1) (ρ', X) _ _ _ _ _ hW rfl rfl (by (try simp only [i32_le, Decidable.not_not] at c_1); (try simp only [i32_le, Decidable.not_not] at c_2); (try simp only [i32_le, Decidable.not_not] at c_3); simp only [whenP, i32_le, c_1, c_2, c_3, if_true, if_false, not_false_eq_true, not_true_eq_false]; rw [hR0, ← hRR]; rfl) dX7_when_123
            ·
              have hlt : i ≤ 60 := mi_nlt (a := 60) (b := i) c_6 (by decide) (by omega); obtain ⟨f', rfl⟩ : ∃ x, f = x + 1 := ⟨f - 1, by omega⟩
              refine lv_aload_n hx hb dX7_when_54 rfl (lv_at hl 2 rfl) ?_
              refine xr_O F hW 6 (by decide) rfl fl_RX7_54 dX7_when_55 ?_
              refine gw_callVi (As := []) (rest := []) F hl.1 hW (fun _ _ hw => va_Nw.warmM hw hE) XE_E (by omega) (xe_T (b := 1) (by decide)) rfl (kX4_stuckBits (b := 1) (by decide) hX1 hX) pd_yX4_stuckBits ml_RX7_73 im_yX4_stuckBits se_yX4_stuckBits ini_RX4 cd_yX4_stuckBits ⟨rfl, rfl⟩ ⟨Nat.le_of_ble_eq_true rfl, Nat.le_of_ble_eq_true rfl⟩ rfl rfl (Nat.le_of_ble_eq_true rfl) ⟨Nat.zero_le _, Nat.zero_le _⟩ dX7_when_58 (fun r ρ_7 H locs hp hW _ _ => ?_)
              subst hp
              refine lv_as (z := stuckBS (xLx n τ) X) rfl ?_
              refine lv_as (z := stuckBS (xLx n τ) (passN (xLx n τ) (TT 0) i).1) (hXE.stuckB (xLx n τ)) ?_
              refine lv_topi (fun vst evst => ?_)
              refine lv_istore (lv' := [(4, .int vst), (3, .int (nI i)), (2, .int v_5), (0, .ref (ad 0)), (1, .int z0)]) hx hb dX7_when_61 hl (by decide) rfl (fun ls hl => ?_)
              refine lv_iload_n hx hb dX7_when_63 rfl (lv_at hl 4 rfl) ?_
              refine lv_bipush (v := 6) hx hb dX7_when_64 (by decide) ?_
              refine lv_icmp_ge (tgt := 78) hx hb dX7_when_66 (by decide) (fun c_8 => ?_) (fun c_8 => ?_)
              ·
                refine lv_iload hx hb dX7_when_78 (lv_at hl 0 rfl) ?_
                refine lv_iload_n hx hb dX7_when_80 rfl (lv_at hl 4 rfl) ?_
                refine lv_bipush (v := 6) hx hb dX7_when_81 (by decide) ?_
                refine lv_icmp_ne (tgt := 90) hx hb dX7_when_83 (by decide) (fun c_9 => ?_) (fun c_9 => ?_)
                ·
                  refine lv_iconst (v := 0) hx hb dX7_when_90 (by decide) ?_
                  refine lv_icmp_ne (tgt := 98) hx hb dX7_when_91 (by decide) (fun c_10 => ?_) (fun c_10 => ?_)
                  ·
                    refine lv_iconst (v := 0) hx hb dX7_when_98 (by decide) ?_
                    refine lv_istore (lv' := [(5, .int 0), (4, .int vst), (3, .int (nI i)), (2, .int v_5), (0, .ref (ad 0)), (1, .int z0)]) hx hb dX7_when_99 hl (by decide) rfl (fun ls hl => ?_)
                    have hisw : 0 = isW (stuckBS (xLx n τ) (passN (xLx n τ) (TT 0) i).1) (TT 0 6 1) z0 := by unfold isW; rw [if_neg (Int32.not_lt.mpr c_8), if_neg c_9, if_neg (fun h => c_10 (by rw [evst]; exact h))]
                    refine lv_iload hx hb dX7_when_101 (lv_at hl 0 rfl) ?_
                    refine lv_if_eq (tgt := 108) hx hb dX7_when_103 (by decide) (fun c_11 => ?_) (fun c_11 => ?_)
                    ·
                      refine lv_aload_n hx hb dX7_when_108 rfl (lv_at hl 4 rfl) ?_
                      refine xr_O F hW 6 (by decide) rfl fl_RX7_54 dX7_when_109 ?_
                      refine gw_callVi (As := []) (rest := []) F hl.1 hW (fun _ _ hw => va_Nw.warmM hw hE) XE_E (by omega) (xe_T (b := 1) (by decide)) rfl (kX4_pass (b := 1) (by decide) hX1 hX) pd_yX4_pass ml_RX7_192 im_yX4_pass se_yX4_pass ini_RX4 cd_yX4_pass ⟨rfl, rfl⟩ ⟨Nat.le_of_ble_eq_true rfl, Nat.le_of_ble_eq_true rfl⟩ rfl rfl (Nat.le_of_ble_eq_true rfl) ⟨Nat.zero_le _, Nat.zero_le _⟩ dX7_when_112 (fun r u H locs hp hW _ _ => ?_)
                      obtain ⟨ρ_12, TT_13⟩ := u
                      obtain ⟨rfl, hp⟩ := hp
                      have hp : TT_13 = va_up TT 1 (passS (xLx n τ) X).1 := hp.trans (bx_uu _ _ _ _)
                      subst hp
                      refine lv_as (z := (passS (xLx n τ) X).2) rfl ?_
                      refine lv_pop hx hb dX7_when_115 rfl ?_
                      refine lv_iinc (v := nI (i + 1)) (lv' := [(3, .int (nI (i + 1))), (5, .int 0), (4, .int vst), (2, .int v_5), (0, .ref (ad 0)), (1, .int z0)]) hx hb dX7_when_116 hl (k := 2) rfl (nI_1 i) (by decide) rfl (fun ls hl => ?_)
                      refine lv_goto (tgt := 48) hx hb dX7_when_119 (by decide) ?_
                      exact ih48 (i + 1) f' _ _ (by omega) (by omega) ((ok_pass (Lx := (xLx n τ)) hX1).1) ((hXE.pass hX1 (xLx n τ)).1) (by rw [← hRR]; exact (if_pos ((hisw.symm.trans c_11))).symm) _ _ _ hW (lv_sub hl [0, 3, 4, 5] rfl)
                    ·
                      exact absurd c_11 (by decide)
                  ·
                    refine lv_iconst (v := 1) hx hb dX7_when_94 (by decide) ?_
                    refine lv_goto (tgt := 99) hx hb dX7_when_95 (by decide) ?_
                    refine lv_istore (lv' := [(5, .int 1), (4, .int vst), (3, .int (nI i)), (2, .int v_5), (0, .ref (ad 0)), (1, .int z0)]) hx hb dX7_when_99 hl (by decide) rfl (fun ls hl => ?_)
                    have hisw : 1 = isW (stuckBS (xLx n τ) (passN (xLx n τ) (TT 0) i).1) (TT 0 6 1) z0 := by unfold isW; rw [if_neg (Int32.not_lt.mpr c_8), if_neg c_9, if_pos (by rw [← evst]; exact c_10)]
                    refine lv_iload hx hb dX7_when_101 (lv_at hl 0 rfl) ?_
                    refine lv_if_eq (tgt := 108) hx hb dX7_when_103 (by decide) (fun c_14 => ?_) (fun c_14 => ?_)
                    ·
                      exact absurd c_14 (by decide)
                    ·
                      refine lv_iload_n hx hb dX7_when_106 rfl (lv_at hl 2 rfl) ?_
                      exact hret (nI i) (ρ_7, X) _ _ _ _ _ hW rfl rfl (by (try simp only [i32_le, Decidable.not_not] at c_1); (try simp only [i32_le, Decidable.not_not] at c_2); (try simp only [i32_le, Decidable.not_not] at c_3); simp only [whenP, i32_le, c_1, c_2, c_3, if_true, if_false, not_false_eq_true, not_true_eq_false]; rw [hR0, ← hRR]; exact (if_neg (by rw [← hisw]; decide)).symm) dX7_when_107
                ·
                  refine lv_iload_n hx hb dX7_when_86 rfl (lv_at hl 2 rfl) ?_
                  refine lv_goto (tgt := 91) hx hb dX7_when_87 (by decide) ?_
                  refine lv_icmp_ne (tgt := 98) hx hb dX7_when_91 (by decide) (fun c_15 => ?_) (fun c_15 => ?_)
                  ·
                    refine lv_iconst (v := 0) hx hb dX7_when_98 (by decide) ?_
                    refine lv_istore (lv' := [(5, .int 0), (4, .int vst), (3, .int (nI i)), (2, .int v_5), (0, .ref (ad 0)), (1, .int z0)]) hx hb dX7_when_99 hl (by decide) rfl (fun ls hl => ?_)
                    have hisw : 0 = isW (stuckBS (xLx n τ) (passN (xLx n τ) (TT 0) i).1) (TT 0 6 1) z0 := by unfold isW; rw [if_neg (Int32.not_lt.mpr c_8), if_pos c_9, if_neg (fun h => c_15 (by rw [evst, ev_5]; exact h))]
                    refine lv_iload hx hb dX7_when_101 (lv_at hl 0 rfl) ?_
                    refine lv_if_eq (tgt := 108) hx hb dX7_when_103 (by decide) (fun c_16 => ?_) (fun c_16 => ?_)
                    ·
                      refine lv_aload_n hx hb dX7_when_108 rfl (lv_at hl 4 rfl) ?_
                      refine xr_O F hW 6 (by decide) rfl fl_RX7_54 dX7_when_109 ?_
                      refine gw_callVi (As := []) (rest := []) F hl.1 hW (fun _ _ hw => va_Nw.warmM hw hE) XE_E (by omega) (xe_T (b := 1) (by decide)) rfl (kX4_pass (b := 1) (by decide) hX1 hX) pd_yX4_pass ml_RX7_192 im_yX4_pass se_yX4_pass ini_RX4 cd_yX4_pass ⟨rfl, rfl⟩ ⟨Nat.le_of_ble_eq_true rfl, Nat.le_of_ble_eq_true rfl⟩ rfl rfl (Nat.le_of_ble_eq_true rfl) ⟨Nat.zero_le _, Nat.zero_le _⟩ dX7_when_112 (fun r u H locs hp hW _ _ => ?_)
                      obtain ⟨ρ_17, TT_18⟩ := u
                      obtain ⟨rfl, hp⟩ := hp
                      have hp : TT_18 = va_up TT 1 (passS (xLx n τ) X).1 := hp.trans (bx_uu _ _ _ _)
                      subst hp
                      refine lv_as (z := (passS (xLx n τ) X).2) rfl ?_
                      refine lv_pop hx hb dX7_when_115 rfl ?_
                      refine lv_iinc (v := nI (i + 1)) (lv' := [(3, .int (nI (i + 1))), (5, .int 0), (4, .int vst), (2, .int v_5), (0, .ref (ad 0)), (1, .int z0)]) hx hb dX7_when_116 hl (k := 2) rfl (nI_1 i) (by decide) rfl (fun ls hl => ?_)
                      refine lv_goto (tgt := 48) hx hb dX7_when_119 (by decide) ?_
                      exact ih48 (i + 1) f' _ _ (by omega) (by omega) ((ok_pass (Lx := (xLx n τ)) hX1).1) ((hXE.pass hX1 (xLx n τ)).1) (by rw [← hRR]; exact (if_pos ((hisw.symm.trans c_16))).symm) _ _ _ hW (lv_sub hl [0, 3, 4, 5] rfl)
                    ·
                      exact absurd c_16 (by decide)
                  ·
                    refine lv_iconst (v := 1) hx hb dX7_when_94 (by decide) ?_
                    refine lv_goto (tgt := 99) hx hb dX7_when_95 (by decide) ?_
                    refine lv_istore (lv' := [(5, .int 1), (4, .int vst), (3, .int (nI i)), (2, .int v_5), (0, .ref (ad 0)), (1, .int z0)]) hx hb dX7_when_99 hl (by decide) rfl (fun ls hl => ?_)
                    have hisw : 1 = isW (stuckBS (xLx n τ) (passN (xLx n τ) (TT 0) i).1) (TT 0 6 1) z0 := by unfold isW; rw [if_neg (Int32.not_lt.mpr c_8), if_pos c_9, if_pos (by rw [← evst, c_15, ev_5]; rfl)]
                    refine lv_iload hx hb dX7_when_101 (lv_at hl 0 rfl) ?_
                    refine lv_if_eq (tgt := 108) hx hb dX7_when_103 (by decide) (fun c_19 => ?_) (fun c_19 => ?_)
                    ·
                      exact absurd c_19 (by decide)
                    ·
                      refine lv_iload_n hx hb dX7_when_106 rfl (lv_at hl 2 rfl) ?_
                      exact hret (nI i) (ρ_7, X) _ _ _ _ _ hW rfl rfl (by (try simp only [i32_le, Decidable.not_not] at c_1); (try simp only [i32_le, Decidable.not_not] at c_2); (try simp only [i32_le, Decidable.not_not] at c_3); simp only [whenP, i32_le, c_1, c_2, c_3, if_true, if_false, not_false_eq_true, not_true_eq_false]; rw [hR0, ← hRR]; exact (if_neg (by rw [← hisw]; decide)).symm) dX7_when_107
              ·
                refine lv_iload hx hb dX7_when_69 (lv_at hl 0 rfl) ?_
                refine lv_iload_n hx hb dX7_when_71 rfl (lv_at hl 4 rfl) ?_
                refine gw_callP (As := [.int vst, .int z0]) (rest := []) F hl.1 (kX7_holds) pd_yX7_holds ml_RX7_172 st_yX7_holds ini_RX7 cd_yX7_holds ⟨rfl, rfl⟩ ⟨Nat.le_of_ble_eq_true rfl, Nat.le_of_ble_eq_true rfl⟩ rfl rfl (Nat.le_of_ble_eq_true rfl) ⟨Nat.zero_le _, Nat.zero_le _⟩ dX7_when_72 ?_
                refine lv_goto (tgt := 99) hx hb dX7_when_75 (by decide) ?_
                refine lv_topi (fun v_20 ev_20 => ?_)
                refine lv_istore (lv' := [(5, .int v_20), (4, .int vst), (3, .int (nI i)), (2, .int v_5), (0, .ref (ad 0)), (1, .int z0)]) hx hb dX7_when_99 hl (by decide) rfl (fun ls hl => ?_)
                have hisw : v_20 = isW (stuckBS (xLx n τ) (passN (xLx n τ) (TT 0) i).1) (TT 0 6 1) z0 := by unfold isW; rw [if_pos (Int32.not_le.mp c_8), ← evst]; exact ev_20
                refine lv_iload hx hb dX7_when_101 (lv_at hl 0 rfl) ?_
                refine lv_if_eq (tgt := 108) hx hb dX7_when_103 (by decide) (fun c_21 => ?_) (fun c_21 => ?_)
                ·
                  refine lv_aload_n hx hb dX7_when_108 rfl (lv_at hl 4 rfl) ?_
                  refine xr_O F hW 6 (by decide) rfl fl_RX7_54 dX7_when_109 ?_
                  refine gw_callVi (As := []) (rest := []) F hl.1 hW (fun _ _ hw => va_Nw.warmM hw hE) XE_E (by omega) (xe_T (b := 1) (by decide)) rfl (kX4_pass (b := 1) (by decide) hX1 hX) pd_yX4_pass ml_RX7_192 im_yX4_pass se_yX4_pass ini_RX4 cd_yX4_pass ⟨rfl, rfl⟩ ⟨Nat.le_of_ble_eq_true rfl, Nat.le_of_ble_eq_true rfl⟩ rfl rfl (Nat.le_of_ble_eq_true rfl) ⟨Nat.zero_le _, Nat.zero_le _⟩ dX7_when_112 (fun r u H locs hp hW _ _ => ?_)
                  obtain ⟨ρ_22, TT_23⟩ := u
                  obtain ⟨rfl, hp⟩ := hp
                  have hp : TT_23 = va_up TT 1 (passS (xLx n τ) X).1 := hp.trans (bx_uu _ _ _ _)
                  subst hp
                  refine lv_as (z := (passS (xLx n τ) X).2) rfl ?_
                  refine lv_pop hx hb dX7_when_115 rfl ?_
                  refine lv_iinc (v := nI (i + 1)) (lv' := [(3, .int (nI (i + 1))), (5, .int v_20), (4, .int vst), (2, .int v_5), (0, .ref (ad 0)), (1, .int z0)]) hx hb dX7_when_116 hl (k := 2) rfl (nI_1 i) (by decide) rfl (fun ls hl => ?_)
                  refine lv_goto (tgt := 48) hx hb dX7_when_119 (by decide) ?_
                  exact ih48 (i + 1) f' _ _ (by omega) (by omega) ((ok_pass (Lx := (xLx n τ)) hX1).1) ((hXE.pass hX1 (xLx n τ)).1) (by rw [← hRR]; exact (if_pos ((hisw.symm.trans c_21))).symm) _ _ _ hW (lv_sub hl [0, 3, 4, 5] rfl)
                ·
                  refine lv_iload_n hx hb dX7_when_106 rfl (lv_at hl 2 rfl) ?_
                  exact hret (nI i) (ρ_7, X) _ _ _ _ _ hW rfl rfl (by (try simp only [i32_le, Decidable.not_not] at c_1); (try simp only [i32_le, Decidable.not_not] at c_2); (try simp only [i32_le, Decidable.not_not] at c_3); simp only [whenP, i32_le, c_1, c_2, c_3, if_true, if_false, not_false_eq_true, not_true_eq_false]; rw [hR0, ← hRR]; exact (if_neg (by rw [← hisw]; exact c_21)).symm) dX7_when_107
        exact L48 62 0 61 _ _ (rfl) (by omega) (hCo_C_4) (hC_C_4) (hR0) _ _ _ hW (lv_sub hl [0, 1, 2, 3] rfl)
      ·
        refine lv_aload_n hx hb dX7_when_16 rfl (lv_at hl 0 rfl) ?_
        refine xr_O F hW 5 (by decide) rfl fl_RX7_50 dX7_when_17 ?_
        refine lv_iload_n hx hb dX7_when_20 rfl (lv_at hl 1 rfl) ?_
        refine gw_callVi (As := [.int z0]) (rest := []) F hl.1 hW (fun _ _ hw => va_Nw.warmM hw hE) XE_E (by omega) (xe_T (b := 0) (by decide)) rfl (kX4_seatsOne (b := 0) (by decide)) pd_yX4_seatsOne ml_RX7_125 im_yX4_seatsOne se_yX4_seatsOne ini_RX4 cd_yX4_seatsOne ⟨rfl, rfl⟩ ⟨Nat.le_of_ble_eq_true rfl, Nat.le_of_ble_eq_true rfl⟩ rfl rfl (Nat.le_of_ble_eq_true rfl) ⟨Nat.zero_le _, Nat.zero_le _⟩ dX7_when_21 (fun r u H locs hp hW _ _ => ?_)
        subst hp
        refine lv_as (z := oneP (TT 0) z0) rfl ?_
        refine lv_if_ne (tgt := 30) hx hb dX7_when_24 (by decide) (fun c_24 => ?_) (fun c_24 => ?_)
        ·
          refine lv_aload_n hx hb dX7_when_30 rfl (lv_at hl 0 rfl) ?_
          refine gw_callVv (As := []) (rest := []) F hl.1 hW (fun _ _ hw => va_Nw.warmM hw hE) XE_E (by omega) xe_0 rfl (kX7_think (TT := TT) (X := (TT 1)) hT) pd_yX7_think ml_RX7_207 im_yX7_think se_yX7_think ini_RX7 cd_yX7_think ⟨rfl, rfl⟩ ⟨Nat.le_of_ble_eq_true rfl, Nat.le_of_ble_eq_true rfl⟩ rfl rfl (Nat.le_of_ble_eq_true rfl) ⟨Nat.zero_le _, Nat.zero_le _⟩ dX7_when_31 (fun C_25 H locs hp hW _ _ => ?_)
          have hC_C_25 : EqT C_25 (TT 0) := hp
          have hCo_C_25 : okT n C_25 := hC_C_25.symm.ok hT
          have hCs_C_25 : seatsN C_25 = seatsN (TT 0) := hC_C_25.seats
          refine lv_iconst (v := 1) hx hb dX7_when_34 (by decide) ?_
          refine lv_aload_n hx hb dX7_when_35 rfl (lv_at hl 0 rfl) ?_
          refine xr_O F hW 6 (by decide) rfl fl_RX7_54 dX7_when_36 ?_
          refine xr_Ti (b := 1) F hW (by decide) 1 (by decide) fl_RX7_67 dX7_when_39 ?_
          refine lv_as (z := C_25 6 1) rfl ?_
          refine lv_as (z := TT 0 6 1) hC_C_25.1 ?_
          refine lv_ishl hx hb dX7_when_42 ?_
          refine lv_iconst (v := 1) hx hb dX7_when_43 (by decide) ?_
          refine lv_isub hx hb dX7_when_44 ?_
          refine lv_topi (fun v_26 ev_26 => ?_)
          refine lv_istore_n (lv' := [(2, .int v_26), (0, .ref (ad 0)), (1, .int z0)]) hx hb dX7_when_45 rfl hl (by decide) rfl (fun ls hl => ?_)
          refine lv_iconst (v := 0) hx hb dX7_when_46 (by decide) ?_
          refine lv_istore_n (lv' := [(3, .int 0), (2, .int v_26), (0, .ref (ad 0)), (1, .int z0)]) hx hb dX7_when_47 rfl hl (by decide) rfl (fun ls hl => ?_)
          generalize hR0 : whenF (xLx n τ) (TT 0) z0 61 0 = RES
          have L48 : ∀ (k : Nat) (i f : Nat) (ρ' : Nat → Nat → Int32) (X : Tb), (i + f = 61) → (62 ≤ i + k) → (okT n X) → (EqT X (passN (xLx n τ) (TT 0) i).1) → (whenF (xLx n τ) (TT 0) z0 f i = RES) → ∀ (H : Heap) (locs : List Loc) (ls : Array Slot), XW D cs ad n ρ' (va_up TT 1 X) τ σ A s s.heap H locs → lv_has ls 6 [(3, .int (nI i)), (2, .int v_26), (0, .ref (ad 0)), (1, .int z0)] → W p l e rm_yX7_when s m ar below meth c H locs 0 0 Q (F0 m 48 ls []) := by
            intro k
            induction k with
            | zero => intro i f ρ' X h1 h2 hX1 hXE hRR; exact absurd h2 (by omega)
            | succ k ih48 =>
              intro i f ρ' X h1 h2 hX1 hXE hRR H locs ls hW hl
              refine lv_iload_n hx hb dX7_when_48 rfl (lv_at hl 0 rfl) ?_
              refine lv_bipush (v := 60) hx hb dX7_when_49 (by decide) ?_
              refine lv_icmp_gt (tgt := 122) hx hb dX7_when_51 (by decide) (fun c_27 => ?_) (fun c_27 => ?_)
              ·
                obtain rfl : f = 0 := by have := mi_lt (a := 60) (b := i) c_27 (by decide) (by omega); omega
                refine lv_iconst (v := (-1)) hx hb dX7_when_122 (by decide) ?_
                exact hret (-1) (ρ', X) _ _ _ _ _ hW rfl rfl (by (try simp only [i32_le, Decidable.not_not] at c_1); (try simp only [i32_le, Decidable.not_not] at c_2); (try simp only [i32_le, Decidable.not_not] at c_3); (try simp only [i32_le, Decidable.not_not] at c_24); simp only [whenP, i32_le, c_1, c_2, c_3, c_24, if_true, if_false, not_false_eq_true, not_true_eq_false]; rw [hR0, ← hRR]; rfl) dX7_when_123
              ·
                have hlt : i ≤ 60 := mi_nlt (a := 60) (b := i) c_27 (by decide) (by omega); obtain ⟨f', rfl⟩ : ∃ x, f = x + 1 := ⟨f - 1, by omega⟩
                refine lv_aload_n hx hb dX7_when_54 rfl (lv_at hl 2 rfl) ?_
                refine xr_O F hW 6 (by decide) rfl fl_RX7_54 dX7_when_55 ?_
                refine gw_callVi (As := []) (rest := []) F hl.1 hW (fun _ _ hw => va_Nw.warmM hw hE) XE_E (by omega) (xe_T (b := 1) (by decide)) rfl (kX4_stuckBits (b := 1) (by decide) hX1 hX) pd_yX4_stuckBits ml_RX7_73 im_yX4_stuckBits se_yX4_stuckBits ini_RX4 cd_yX4_stuckBits ⟨rfl, rfl⟩ ⟨Nat.le_of_ble_eq_true rfl, Nat.le_of_ble_eq_true rfl⟩ rfl rfl (Nat.le_of_ble_eq_true rfl) ⟨Nat.zero_le _, Nat.zero_le _⟩ dX7_when_58 (fun r ρ_28 H locs hp hW _ _ => ?_)
                subst hp
                refine lv_as (z := stuckBS (xLx n τ) X) rfl ?_
                refine lv_as (z := stuckBS (xLx n τ) (passN (xLx n τ) (TT 0) i).1) (hXE.stuckB (xLx n τ)) ?_
                refine lv_topi (fun vst evst => ?_)
                refine lv_istore (lv' := [(4, .int vst), (3, .int (nI i)), (2, .int v_26), (0, .ref (ad 0)), (1, .int z0)]) hx hb dX7_when_61 hl (by decide) rfl (fun ls hl => ?_)
                refine lv_iload_n hx hb dX7_when_63 rfl (lv_at hl 4 rfl) ?_
                refine lv_bipush (v := 6) hx hb dX7_when_64 (by decide) ?_
                refine lv_icmp_ge (tgt := 78) hx hb dX7_when_66 (by decide) (fun c_29 => ?_) (fun c_29 => ?_)
                ·
                  refine lv_iload hx hb dX7_when_78 (lv_at hl 0 rfl) ?_
                  refine lv_iload_n hx hb dX7_when_80 rfl (lv_at hl 4 rfl) ?_
                  refine lv_bipush (v := 6) hx hb dX7_when_81 (by decide) ?_
                  refine lv_icmp_ne (tgt := 90) hx hb dX7_when_83 (by decide) (fun c_30 => ?_) (fun c_30 => ?_)
                  ·
                    refine lv_iconst (v := 0) hx hb dX7_when_90 (by decide) ?_
                    refine lv_icmp_ne (tgt := 98) hx hb dX7_when_91 (by decide) (fun c_31 => ?_) (fun c_31 => ?_)
                    ·
                      refine lv_iconst (v := 0) hx hb dX7_when_98 (by decide) ?_
                      refine lv_istore (lv' := [(5, .int 0), (4, .int vst), (3, .int (nI i)), (2, .int v_26), (0, .ref (ad 0)), (1, .int z0)]) hx hb dX7_when_99 hl (by decide) rfl (fun ls hl => ?_)
                      have hisw : 0 = isW (stuckBS (xLx n τ) (passN (xLx n τ) (TT 0) i).1) (TT 0 6 1) z0 := by unfold isW; rw [if_neg (Int32.not_lt.mpr c_29), if_neg c_30, if_neg (fun h => c_31 (by rw [evst]; exact h))]
                      refine lv_iload hx hb dX7_when_101 (lv_at hl 0 rfl) ?_
                      refine lv_if_eq (tgt := 108) hx hb dX7_when_103 (by decide) (fun c_32 => ?_) (fun c_32 => ?_)
                      ·
                        refine lv_aload_n hx hb dX7_when_108 rfl (lv_at hl 4 rfl) ?_
                        refine xr_O F hW 6 (by decide) rfl fl_RX7_54 dX7_when_109 ?_
                        refine gw_callVi (As := []) (rest := []) F hl.1 hW (fun _ _ hw => va_Nw.warmM hw hE) XE_E (by omega) (xe_T (b := 1) (by decide)) rfl (kX4_pass (b := 1) (by decide) hX1 hX) pd_yX4_pass ml_RX7_192 im_yX4_pass se_yX4_pass ini_RX4 cd_yX4_pass ⟨rfl, rfl⟩ ⟨Nat.le_of_ble_eq_true rfl, Nat.le_of_ble_eq_true rfl⟩ rfl rfl (Nat.le_of_ble_eq_true rfl) ⟨Nat.zero_le _, Nat.zero_le _⟩ dX7_when_112 (fun r u H locs hp hW _ _ => ?_)
                        obtain ⟨ρ_33, TT_34⟩ := u
                        obtain ⟨rfl, hp⟩ := hp
                        have hp : TT_34 = va_up TT 1 (passS (xLx n τ) X).1 := hp.trans (bx_uu _ _ _ _)
                        subst hp
                        refine lv_as (z := (passS (xLx n τ) X).2) rfl ?_
                        refine lv_pop hx hb dX7_when_115 rfl ?_
                        refine lv_iinc (v := nI (i + 1)) (lv' := [(3, .int (nI (i + 1))), (5, .int 0), (4, .int vst), (2, .int v_26), (0, .ref (ad 0)), (1, .int z0)]) hx hb dX7_when_116 hl (k := 2) rfl (nI_1 i) (by decide) rfl (fun ls hl => ?_)
                        refine lv_goto (tgt := 48) hx hb dX7_when_119 (by decide) ?_
                        exact ih48 (i + 1) f' _ _ (by omega) (by omega) ((ok_pass (Lx := (xLx n τ)) hX1).1) ((hXE.pass hX1 (xLx n τ)).1) (by rw [← hRR]; exact (if_pos ((hisw.symm.trans c_32))).symm) _ _ _ hW (lv_sub hl [0, 3, 4, 5] rfl)
                      ·
                        exact absurd c_32 (by decide)
                    ·
                      refine lv_iconst (v := 1) hx hb dX7_when_94 (by decide) ?_
                      refine lv_goto (tgt := 99) hx hb dX7_when_95 (by decide) ?_
                      refine lv_istore (lv' := [(5, .int 1), (4, .int vst), (3, .int (nI i)), (2, .int v_26), (0, .ref (ad 0)), (1, .int z0)]) hx hb dX7_when_99 hl (by decide) rfl (fun ls hl => ?_)
                      have hisw : 1 = isW (stuckBS (xLx n τ) (passN (xLx n τ) (TT 0) i).1) (TT 0 6 1) z0 := by unfold isW; rw [if_neg (Int32.not_lt.mpr c_29), if_neg c_30, if_pos (by rw [← evst]; exact c_31)]
                      refine lv_iload hx hb dX7_when_101 (lv_at hl 0 rfl) ?_
                      refine lv_if_eq (tgt := 108) hx hb dX7_when_103 (by decide) (fun c_35 => ?_) (fun c_35 => ?_)
                      ·
                        exact absurd c_35 (by decide)
                      ·
                        refine lv_iload_n hx hb dX7_when_106 rfl (lv_at hl 2 rfl) ?_
                        exact hret (nI i) (ρ_28, X) _ _ _ _ _ hW rfl rfl (by (try simp only [i32_le, Decidable.not_not] at c_1); (try simp only [i32_le, Decidable.not_not] at c_2); (try simp only [i32_le, Decidable.not_not] at c_3); (try simp only [i32_le, Decidable.not_not] at c_24); simp only [whenP, i32_le, c_1, c_2, c_3, c_24, if_true, if_false, not_false_eq_true, not_true_eq_false]; rw [hR0, ← hRR]; exact (if_neg (by rw [← hisw]; decide)).symm) dX7_when_107
                  ·
                    refine lv_iload_n hx hb dX7_when_86 rfl (lv_at hl 2 rfl) ?_
                    refine lv_goto (tgt := 91) hx hb dX7_when_87 (by decide) ?_
                    refine lv_icmp_ne (tgt := 98) hx hb dX7_when_91 (by decide) (fun c_36 => ?_) (fun c_36 => ?_)
                    ·
                      refine lv_iconst (v := 0) hx hb dX7_when_98 (by decide) ?_
                      refine lv_istore (lv' := [(5, .int 0), (4, .int vst), (3, .int (nI i)), (2, .int v_26), (0, .ref (ad 0)), (1, .int z0)]) hx hb dX7_when_99 hl (by decide) rfl (fun ls hl => ?_)
                      have hisw : 0 = isW (stuckBS (xLx n τ) (passN (xLx n τ) (TT 0) i).1) (TT 0 6 1) z0 := by unfold isW; rw [if_neg (Int32.not_lt.mpr c_29), if_pos c_30, if_neg (fun h => c_36 (by rw [evst, ev_26]; exact h))]
                      refine lv_iload hx hb dX7_when_101 (lv_at hl 0 rfl) ?_
                      refine lv_if_eq (tgt := 108) hx hb dX7_when_103 (by decide) (fun c_37 => ?_) (fun c_37 => ?_)
                      ·
                        refine lv_aload_n hx hb dX7_when_108 rfl (lv_at hl 4 rfl) ?_
                        refine xr_O F hW 6 (by decide) rfl fl_RX7_54 dX7_when_109 ?_
                        refine gw_callVi (As := []) (rest := []) F hl.1 hW (fun _ _ hw => va_Nw.warmM hw hE) XE_E (by omega) (xe_T (b := 1) (by decide)) rfl (kX4_pass (b := 1) (by decide) hX1 hX) pd_yX4_pass ml_RX7_192 im_yX4_pass se_yX4_pass ini_RX4 cd_yX4_pass ⟨rfl, rfl⟩ ⟨Nat.le_of_ble_eq_true rfl, Nat.le_of_ble_eq_true rfl⟩ rfl rfl (Nat.le_of_ble_eq_true rfl) ⟨Nat.zero_le _, Nat.zero_le _⟩ dX7_when_112 (fun r u H locs hp hW _ _ => ?_)
                        obtain ⟨ρ_38, TT_39⟩ := u
                        obtain ⟨rfl, hp⟩ := hp
                        have hp : TT_39 = va_up TT 1 (passS (xLx n τ) X).1 := hp.trans (bx_uu _ _ _ _)
                        subst hp
                        refine lv_as (z := (passS (xLx n τ) X).2) rfl ?_
                        refine lv_pop hx hb dX7_when_115 rfl ?_
                        refine lv_iinc (v := nI (i + 1)) (lv' := [(3, .int (nI (i + 1))), (5, .int 0), (4, .int vst), (2, .int v_26), (0, .ref (ad 0)), (1, .int z0)]) hx hb dX7_when_116 hl (k := 2) rfl (nI_1 i) (by decide) rfl (fun ls hl => ?_)
                        refine lv_goto (tgt := 48) hx hb dX7_when_119 (by decide) ?_
                        exact ih48 (i + 1) f' _ _ (by omega) (by omega) ((ok_pass (Lx := (xLx n τ)) hX1).1) ((hXE.pass hX1 (xLx n τ)).1) (by rw [← hRR]; exact (if_pos ((hisw.symm.trans c_37))).symm) _ _ _ hW (lv_sub hl [0, 3, 4, 5] rfl)
                      ·
                        exact absurd c_37 (by decide)
                    ·
                      refine lv_iconst (v := 1) hx hb dX7_when_94 (by decide) ?_
                      refine lv_goto (tgt := 99) hx hb dX7_when_95 (by decide) ?_
                      refine lv_istore (lv' := [(5, .int 1), (4, .int vst), (3, .int (nI i)), (2, .int v_26), (0, .ref (ad 0)), (1, .int z0)]) hx hb dX7_when_99 hl (by decide) rfl (fun ls hl => ?_)
                      have hisw : 1 = isW (stuckBS (xLx n τ) (passN (xLx n τ) (TT 0) i).1) (TT 0 6 1) z0 := by unfold isW; rw [if_neg (Int32.not_lt.mpr c_29), if_pos c_30, if_pos (by rw [← evst, c_36, ev_26]; rfl)]
                      refine lv_iload hx hb dX7_when_101 (lv_at hl 0 rfl) ?_
                      refine lv_if_eq (tgt := 108) hx hb dX7_when_103 (by decide) (fun c_40 => ?_) (fun c_40 => ?_)
                      ·
                        exact absurd c_40 (by decide)
                      ·
                        refine lv_iload_n hx hb dX7_when_106 rfl (lv_at hl 2 rfl) ?_
                        exact hret (nI i) (ρ_28, X) _ _ _ _ _ hW rfl rfl (by (try simp only [i32_le, Decidable.not_not] at c_1); (try simp only [i32_le, Decidable.not_not] at c_2); (try simp only [i32_le, Decidable.not_not] at c_3); (try simp only [i32_le, Decidable.not_not] at c_24); simp only [whenP, i32_le, c_1, c_2, c_3, c_24, if_true, if_false, not_false_eq_true, not_true_eq_false]; rw [hR0, ← hRR]; exact (if_neg (by rw [← hisw]; decide)).symm) dX7_when_107
                ·
                  refine lv_iload hx hb dX7_when_69 (lv_at hl 0 rfl) ?_
                  refine lv_iload_n hx hb dX7_when_71 rfl (lv_at hl 4 rfl) ?_
                  refine gw_callP (As := [.int vst, .int z0]) (rest := []) F hl.1 (kX7_holds) pd_yX7_holds ml_RX7_172 st_yX7_holds ini_RX7 cd_yX7_holds ⟨rfl, rfl⟩ ⟨Nat.le_of_ble_eq_true rfl, Nat.le_of_ble_eq_true rfl⟩ rfl rfl (Nat.le_of_ble_eq_true rfl) ⟨Nat.zero_le _, Nat.zero_le _⟩ dX7_when_72 ?_
                  refine lv_goto (tgt := 99) hx hb dX7_when_75 (by decide) ?_
                  refine lv_topi (fun v_41 ev_41 => ?_)
                  refine lv_istore (lv' := [(5, .int v_41), (4, .int vst), (3, .int (nI i)), (2, .int v_26), (0, .ref (ad 0)), (1, .int z0)]) hx hb dX7_when_99 hl (by decide) rfl (fun ls hl => ?_)
                  have hisw : v_41 = isW (stuckBS (xLx n τ) (passN (xLx n τ) (TT 0) i).1) (TT 0 6 1) z0 := by unfold isW; rw [if_pos (Int32.not_le.mp c_29), ← evst]; exact ev_41
                  refine lv_iload hx hb dX7_when_101 (lv_at hl 0 rfl) ?_
                  refine lv_if_eq (tgt := 108) hx hb dX7_when_103 (by decide) (fun c_42 => ?_) (fun c_42 => ?_)
                  ·
                    refine lv_aload_n hx hb dX7_when_108 rfl (lv_at hl 4 rfl) ?_
                    refine xr_O F hW 6 (by decide) rfl fl_RX7_54 dX7_when_109 ?_
                    refine gw_callVi (As := []) (rest := []) F hl.1 hW (fun _ _ hw => va_Nw.warmM hw hE) XE_E (by omega) (xe_T (b := 1) (by decide)) rfl (kX4_pass (b := 1) (by decide) hX1 hX) pd_yX4_pass ml_RX7_192 im_yX4_pass se_yX4_pass ini_RX4 cd_yX4_pass ⟨rfl, rfl⟩ ⟨Nat.le_of_ble_eq_true rfl, Nat.le_of_ble_eq_true rfl⟩ rfl rfl (Nat.le_of_ble_eq_true rfl) ⟨Nat.zero_le _, Nat.zero_le _⟩ dX7_when_112 (fun r u H locs hp hW _ _ => ?_)
                    obtain ⟨ρ_43, TT_44⟩ := u
                    obtain ⟨rfl, hp⟩ := hp
                    have hp : TT_44 = va_up TT 1 (passS (xLx n τ) X).1 := hp.trans (bx_uu _ _ _ _)
                    subst hp
                    refine lv_as (z := (passS (xLx n τ) X).2) rfl ?_
                    refine lv_pop hx hb dX7_when_115 rfl ?_
                    refine lv_iinc (v := nI (i + 1)) (lv' := [(3, .int (nI (i + 1))), (5, .int v_41), (4, .int vst), (2, .int v_26), (0, .ref (ad 0)), (1, .int z0)]) hx hb dX7_when_116 hl (k := 2) rfl (nI_1 i) (by decide) rfl (fun ls hl => ?_)
                    refine lv_goto (tgt := 48) hx hb dX7_when_119 (by decide) ?_
                    exact ih48 (i + 1) f' _ _ (by omega) (by omega) ((ok_pass (Lx := (xLx n τ)) hX1).1) ((hXE.pass hX1 (xLx n τ)).1) (by rw [← hRR]; exact (if_pos ((hisw.symm.trans c_42))).symm) _ _ _ hW (lv_sub hl [0, 3, 4, 5] rfl)
                  ·
                    refine lv_iload_n hx hb dX7_when_106 rfl (lv_at hl 2 rfl) ?_
                    exact hret (nI i) (ρ_28, X) _ _ _ _ _ hW rfl rfl (by (try simp only [i32_le, Decidable.not_not] at c_1); (try simp only [i32_le, Decidable.not_not] at c_2); (try simp only [i32_le, Decidable.not_not] at c_3); (try simp only [i32_le, Decidable.not_not] at c_24); simp only [whenP, i32_le, c_1, c_2, c_3, c_24, if_true, if_false, not_false_eq_true, not_true_eq_false]; rw [hR0, ← hRR]; exact (if_neg (by rw [← hisw]; exact c_42)).symm) dX7_when_107
          exact L48 62 0 61 _ _ (rfl) (by omega) (hCo_C_25) (hC_C_25) (hR0) _ _ _ hW (lv_sub hl [0, 1, 2, 3] rfl)
        ·
          refine lv_bipush (v := (-5)) hx hb dX7_when_27 (by decide) ?_
          exact hret (-5) (ρ, (TT 1)) _ _ _ _ _ hW rfl rfl (by (try simp only [i32_le, Decidable.not_not] at c_1); (try simp only [i32_le, Decidable.not_not] at c_2); (try simp only [i32_le, Decidable.not_not] at c_3); (try simp only [i32_le, Decidable.not_not] at c_24); simp only [whenP, i32_le, c_1, c_2, c_3, c_24, if_true, if_false, not_false_eq_true, not_true_eq_false]) dX7_when_29
