/-! ===== the reference's thought ===== -/
theorem kept_kp {ρ u : Nat → Nat → Int32} {T : Tb} (h : KeptOf (ρ 17) T) (k : Kp ρ u) : KeptOf (u 17) T := by rw [k.1]; exact h
theorem cho_0 {v : Int32} (h : inP v 0 1 = 0) : choP v = 0 := by
  rw [in_z] at h
  unfold choP
  rw [if_neg (fun e => by subst e; rcases h with h | h <;> exact absurd h (by decide)), if_neg (fun e => by subst e; rcases h with h | h <;> exact absurd h (by decide))]
theorem cho_1 {v : Int32} (h : ¬ inP v 0 1 = 0) : ¬ choP v = 0 := by
  obtain ⟨h0, h1⟩ := in_y h
  rcases one_two h0 h1 with rfl | rfl <;> decide
theorem out_rightK {T : Tb} {a : Int32} : ∀ k, k ≤ 6 → OutT T (rightK T a k)
  | 0, _ => OutT.rf
  | k + 1, h => (out_rightK k (by omega)).up (by omega)
theorem out_swap {T : Tb} {a b : Nat} (ha : a < 6) (hb : b < 6) : OutT T (swapS T a b) := (OutT.rf.up (by omega)).up (by omega)
theorem OutT.get {T U : Tb} (h : OutT T U) {q k : Nat} (h1 : ¬ (q < 6 ∧ 2 ≤ k ∧ k < 7)) (h2 : ¬ (q = 6 ∧ k = 2)) : U q k = T q k := h q k h1 h2
abbrev rm_yX8_stuckBehind : Room := { frames := 8, cells := 0, slots := 0, locals := 186 }
set_option maxHeartbeats 800000 in
set_option maxRecDepth 100000 in
theorem kX8_stuckBehind {l : Launch} {D : va_G} {cA : ClassId} {ad : Nat → Nat} {ρ T σ : Nat → Nat → Int32} {sz : Nat} {n w : Nat} {Lx : Lw} {T0 : Tb} (hT : okT n T) (hM : okML n σ Lx) (hw : w ≤ 60) (hK0 : KeptOf (ρ 17) T0) (hO : OutT T0 T) : MMi l yX8_stuckBehind cX8_stuckBehind 3 FieldType.int rm_yX8_stuckBehind [.ref (ad 0), .int (nI w)] D cA ad ρ T σ sz (fun (r : Int32) (u : (Nat → Nat → Int32) × Tb) => r = behS Lx T w ∧ Kp ρ u.1 ∧ u.2 = T0) (fun u : (Nat → Nat → Int32) × Tb => ment ad cA u.1 u.2 σ) := by
  refine gw_stI (Ff := fun u : (Nat → Nat → Int32) × Tb => ment ad cA u.1 u.2 σ) (own := RX8) (by decide +kernel) rfl (Nat.le_of_ble_eq_true rfl) ?_
  intro p e s m ar below meth c A Q F hE hsz hW hret ls hl
  obtain ⟨hx, hb, hml, hown, hts⟩ := id F
  have hl : lv_has ls 3 [(0, .ref (ad 0)), (1, .int (nI w))] := hl
  refine lv_aload_n hx hb dX8_stuckBehind_0 rfl (lv_at hl 0 rfl) ?_
  refine lv_iload_n hx hb dX8_stuckBehind_1 rfl (lv_at hl 1 rfl) ?_
  refine gw_callVi (As := [.int (nI w)]) (rest := []) F hl.1 hW (fun _ _ _ => trivial) gw_T_E (by decide) (rfl : ment ad cA _ _ _ 0 = _) rfl (kX8_passes (n := n) (w := w) (Lx := Lx) hT hM (by omega)) pd_yX8_passes ml_RX8_198 im_yX8_passes se_yX8_passes ini_RX8 cd_yX8_passes ⟨rfl, rfl⟩ ⟨Nat.le_of_ble_eq_true rfl, Nat.le_of_ble_eq_true rfl⟩ rfl rfl (Nat.le_of_ble_eq_true rfl) ⟨Nat.zero_le _, Nat.zero_le _⟩ dX8_stuckBehind_2 (fun r u H locs hp hW _ _ => ?_)
  obtain ⟨ρ_1, T_2⟩ := u
  obtain ⟨rfl, hk_3, hTe⟩ := hp
  have hTe : T_2 = (passN Lx T w).1 := hTe
  subst hTe
  refine lv_as (z := (passN Lx T w).2) rfl ?_
  refine lv_pop hx hb dX8_stuckBehind_5 rfl ?_
  refine lv_aload_n hx hb dX8_stuckBehind_6 rfl (lv_at hl 0 rfl) ?_
  refine gw_callVi (As := []) (rest := []) F hl.1 hW (fun _ _ _ => trivial) gw_T_E (by decide) (rfl : ment ad cA _ _ _ 0 = _) rfl (kX8_stuckSet (n := n) (Lx := Lx) (ok_passN (Lx := Lx) hT w).1 hM) pd_yX8_stuckSet ml_RX8_79 im_yX8_stuckSet se_yX8_stuckSet ini_RX8 cd_yX8_stuckSet ⟨rfl, rfl⟩ ⟨Nat.le_of_ble_eq_true rfl, Nat.le_of_ble_eq_true rfl⟩ rfl rfl (Nat.le_of_ble_eq_true rfl) ⟨Nat.zero_le _, Nat.zero_le _⟩ dX8_stuckBehind_7 (fun r ρ_5 H locs hp hW _ _ => ?_)
  obtain ⟨rfl, hk_4⟩ := hp
  refine lv_as (z := stuckBS Lx ((passN Lx T w).1)) rfl ?_
  refine gw_callP (As := [.int (stuckBS Lx ((passN Lx T w).1))]) (rest := []) F hl.1 (kX8_onesOf) pd_yX8_onesOf ml_RX8_82 st_yX8_onesOf ini_RX8 cd_yX8_onesOf ⟨rfl, rfl⟩ ⟨Nat.le_of_ble_eq_true rfl, Nat.le_of_ble_eq_true rfl⟩ rfl rfl (Nat.le_of_ble_eq_true rfl) ⟨Nat.zero_le _, Nat.zero_le _⟩ dX8_stuckBehind_10 ?_
  refine lv_as (z := onesS (stuckBS Lx ((passN Lx T w).1))) rfl ?_
  refine lv_topi (fun v_6 ev_6 => ?_)
  refine lv_istore_n (lv' := [(2, .int v_6), (0, .ref (ad 0)), (1, .int (nI w))]) hx hb dX8_stuckBehind_13 rfl hl (by decide) rfl (fun ls hl => ?_)
  refine lv_aload_n hx hb dX8_stuckBehind_14 rfl (lv_at hl 1 rfl) ?_
  refine gw_callVv (As := []) (rest := []) F hl.1 hW (fun _ _ _ => trivial) gw_T_E (by decide) (rfl : ment ad cA _ _ _ 0 = _) rfl (kX8_lays) pd_yX8_lays ml_RX8_201 im_yX8_lays se_yX8_lays ini_RX8 cd_yX8_lays ⟨rfl, rfl⟩ ⟨Nat.le_of_ble_eq_true rfl, Nat.le_of_ble_eq_true rfl⟩ rfl rfl (Nat.le_of_ble_eq_true rfl) ⟨Nat.zero_le _, Nat.zero_le _⟩ dX8_stuckBehind_15 (fun T_7 H locs hp hW _ _ => ?_)
  have hp : T0 = T_7 := (hp.trans (lay_back (kept_kp hK0 (Kp.trans (Kp.trans Kp.rf hk_3) hk_4)) (hO.trans (out_passN (Lx := Lx) hT w)))).symm
  subst hp
  refine lv_iload_n hx hb dX8_stuckBehind_18 rfl (lv_at hl 0 rfl) ?_
  exact hret v_6 (ρ_5, T0) _ _ _ _ _ hW rfl rfl (by exact ⟨by subst ev_6; rfl, (Kp.trans (Kp.trans Kp.rf hk_3) hk_4), rfl⟩) dX8_stuckBehind_19
abbrev rm_yX8_ateBehind : Room := { frames := 8, cells := 0, slots := 0, locals := 186 }
set_option maxHeartbeats 800000 in
set_option maxRecDepth 100000 in
theorem kX8_ateBehind {l : Launch} {D : va_G} {cA : ClassId} {ad : Nat → Nat} {ρ T σ : Nat → Nat → Int32} {sz : Nat} {n w : Nat} {Lx : Lw} {T0 : Tb} (hT : okT n T) (hM : okML n σ Lx) (hw : w ≤ 60) (hK0 : KeptOf (ρ 17) T0) (hO : OutT T0 T) : MMi l yX8_ateBehind cX8_ateBehind 3 FieldType.int rm_yX8_ateBehind [.ref (ad 0), .int (nI w)] D cA ad ρ T σ sz (fun (r : Int32) (u : (Nat → Nat → Int32) × Tb) => r = behA Lx T w ∧ Kp ρ u.1 ∧ u.2 = T0) (fun u : (Nat → Nat → Int32) × Tb => ment ad cA u.1 u.2 σ) := by
  refine gw_stI (Ff := fun u : (Nat → Nat → Int32) × Tb => ment ad cA u.1 u.2 σ) (own := RX8) (by decide +kernel) rfl (Nat.le_of_ble_eq_true rfl) ?_
  intro p e s m ar below meth c A Q F hE hsz hW hret ls hl
  obtain ⟨hx, hb, hml, hown, hts⟩ := id F
  have hl : lv_has ls 3 [(0, .ref (ad 0)), (1, .int (nI w))] := hl
  refine lv_aload_n hx hb dX8_ateBehind_0 rfl (lv_at hl 0 rfl) ?_
  refine lv_iload_n hx hb dX8_ateBehind_1 rfl (lv_at hl 1 rfl) ?_
  refine gw_callVi (As := [.int (nI w)]) (rest := []) F hl.1 hW (fun _ _ _ => trivial) gw_T_E (by decide) (rfl : ment ad cA _ _ _ 0 = _) rfl (kX8_passes (n := n) (w := w) (Lx := Lx) hT hM (by omega)) pd_yX8_passes ml_RX8_198 im_yX8_passes se_yX8_passes ini_RX8 cd_yX8_passes ⟨rfl, rfl⟩ ⟨Nat.le_of_ble_eq_true rfl, Nat.le_of_ble_eq_true rfl⟩ rfl rfl (Nat.le_of_ble_eq_true rfl) ⟨Nat.zero_le _, Nat.zero_le _⟩ dX8_ateBehind_2 (fun r u H locs hp hW _ _ => ?_)
  obtain ⟨ρ_1, T_2⟩ := u
  obtain ⟨rfl, hk_3, hTe⟩ := hp
  have hTe : T_2 = (passN Lx T w).1 := hTe
  subst hTe
  refine lv_as (z := (passN Lx T w).2) rfl ?_
  refine lv_pop hx hb dX8_ateBehind_5 rfl ?_
  refine lv_aload_n hx hb dX8_ateBehind_6 rfl (lv_at hl 0 rfl) ?_
  refine gw_callVi (As := []) (rest := []) F hl.1 hW (fun _ _ _ => trivial) gw_T_E (by decide) (rfl : ment ad cA _ _ _ 0 = _) rfl (kX8_ateAll (n := n) (ok_passN (Lx := Lx) hT w).1) pd_yX8_ateAll ml_RX8_182 im_yX8_ateAll se_yX8_ateAll ini_RX8 cd_yX8_ateAll ⟨rfl, rfl⟩ ⟨Nat.le_of_ble_eq_true rfl, Nat.le_of_ble_eq_true rfl⟩ rfl rfl (Nat.le_of_ble_eq_true rfl) ⟨Nat.zero_le _, Nat.zero_le _⟩ dX8_ateBehind_7 (fun r u H locs hp hW _ _ => ?_)
  subst hp
  refine lv_as (z := ateS ((passN Lx T w).1)) rfl ?_
  refine lv_topi (fun v_4 ev_4 => ?_)
  refine lv_istore_n (lv' := [(2, .int v_4), (0, .ref (ad 0)), (1, .int (nI w))]) hx hb dX8_ateBehind_10 rfl hl (by decide) rfl (fun ls hl => ?_)
  refine lv_aload_n hx hb dX8_ateBehind_11 rfl (lv_at hl 1 rfl) ?_
  refine gw_callVv (As := []) (rest := []) F hl.1 hW (fun _ _ _ => trivial) gw_T_E (by decide) (rfl : ment ad cA _ _ _ 0 = _) rfl (kX8_lays) pd_yX8_lays ml_RX8_201 im_yX8_lays se_yX8_lays ini_RX8 cd_yX8_lays ⟨rfl, rfl⟩ ⟨Nat.le_of_ble_eq_true rfl, Nat.le_of_ble_eq_true rfl⟩ rfl rfl (Nat.le_of_ble_eq_true rfl) ⟨Nat.zero_le _, Nat.zero_le _⟩ dX8_ateBehind_12 (fun T_5 H locs hp hW _ _ => ?_)
  have hp : T0 = T_5 := (hp.trans (lay_back (kept_kp hK0 (Kp.trans Kp.rf hk_3)) (hO.trans (out_passN (Lx := Lx) hT w)))).symm
  subst hp
  refine lv_iload_n hx hb dX8_ateBehind_15 rfl (lv_at hl 0 rfl) ?_
  exact hret v_4 (ρ_1, T0) _ _ _ _ _ hW rfl rfl (by exact ⟨by subst ev_4; rfl, (Kp.trans Kp.rf hk_3), rfl⟩) dX8_ateBehind_16
abbrev rm_yX8_poker : Room := { frames := 9, cells := 0, slots := 0, locals := 208 }
set_option maxHeartbeats 800000 in
set_option maxRecDepth 100000 in
theorem kX8_poker {l : Launch} {D : va_G} {cA : ClassId} {ad : Nat → Nat} {ρ T σ : Nat → Nat → Int32} {sz : Nat} {n : Nat} {Lx : Lw} {v w0 : Int32} (hT : okT n T) (hM : okML n σ Lx) : MMi l yX8_poker cX8_poker 7 FieldType.int rm_yX8_poker [.ref (ad 0), .int v, .int w0] D cA ad ρ T σ sz (fun (r : Int32) (u : Nat → Nat → Int32) => r = pokerP Lx T v w0) (fun u : Nat → Nat → Int32 => ment ad cA u T σ) := by
  refine gw_stI (Ff := fun u : Nat → Nat → Int32 => ment ad cA u T σ) (own := RX8) (by decide +kernel) rfl (Nat.le_of_ble_eq_true rfl) ?_
  intro p e s m ar below meth c A Q F hE hsz hW hret ls hl
  obtain ⟨hx, hb, hml, hown, hts⟩ := id F
  have hl : lv_has ls 7 [(0, .ref (ad 0)), (1, .int v), (2, .int w0)] := hl
  have hs6 := hT.1
  have hsN := hT.2.1
  refine lv_iload_n hx hb dX8_poker_0 rfl (lv_at hl 1 rfl) ?_
  refine lv_iconst (v := 0) hx hb dX8_poker_1 (by decide) ?_
  refine lv_bipush (v := 40) hx hb dX8_poker_2 (by decide) ?_
  refine gw_callP (As := [.int v, .int 0, .int 40]) (rest := []) F hl.1 (kX8_in) pd_yX8_in ml_RX8_72 st_yX8_in ini_RX8 cd_yX8_in ⟨rfl, rfl⟩ ⟨Nat.le_of_ble_eq_true rfl, Nat.le_of_ble_eq_true rfl⟩ rfl rfl (Nat.le_of_ble_eq_true rfl) ⟨Nat.zero_le _, Nat.zero_le _⟩ dX8_poker_4 ?_
  refine lv_as (z := inP v 0 40) rfl ?_
  refine lv_if_eq (tgt := 19) hx hb dX8_poker_7 (by decide) (fun c_1 => ?_) (fun c_1 => ?_)
  ·
    refine lv_bipush (v := (-2)) hx hb dX8_poker_19 (by decide) ?_
    exact hret (-2) ρ _ _ _ _ _ hW rfl rfl (by unfold pokerP; rw [if_pos (show runP v = 0 from c_1)]) dX8_poker_21
  ·
    obtain ⟨w, hw40, rfl⟩ := run_nat (v := v) c_1; have hiw : iN (nI w) = w := iN_nI (by omega)
    refine lv_iload_n hx hb dX8_poker_10 rfl (lv_at hl 2 rfl) ?_
    refine lv_iconst (v := 0) hx hb dX8_poker_11 (by decide) ?_
    refine lv_iconst (v := 1) hx hb dX8_poker_12 (by decide) ?_
    refine gw_callP (As := [.int w0, .int 0, .int 1]) (rest := []) F hl.1 (kX8_in) pd_yX8_in ml_RX8_72 st_yX8_in ini_RX8 cd_yX8_in ⟨rfl, rfl⟩ ⟨Nat.le_of_ble_eq_true rfl, Nat.le_of_ble_eq_true rfl⟩ rfl rfl (Nat.le_of_ble_eq_true rfl) ⟨Nat.zero_le _, Nat.zero_le _⟩ dX8_poker_13 ?_
    refine lv_as (z := inP w0 0 1) rfl ?_
    refine lv_if_ne (tgt := 22) hx hb dX8_poker_16 (by decide) (fun c_2 => ?_) (fun c_2 => ?_)
    ·
      refine lv_aload_n hx hb dX8_poker_22 rfl (lv_at hl 0 rfl) ?_
      refine gw_callVv (As := []) (rest := []) F hl.1 hW (fun _ _ _ => trivial) gw_T_E (by decide) (rfl : ment ad cA _ _ _ 0 = _) rfl (kX8_keeps) pd_yX8_keeps ml_RX8_195 im_yX8_keeps se_yX8_keeps ini_RX8 cd_yX8_keeps ⟨rfl, rfl⟩ ⟨Nat.le_of_ble_eq_true rfl, Nat.le_of_ble_eq_true rfl⟩ rfl rfl (Nat.le_of_ble_eq_true rfl) ⟨Nat.zero_le _, Nat.zero_le _⟩ dX8_poker_23 (fun ρ_3 H locs hp hW _ _ => ?_)
      obtain ⟨h0_4, hK_5⟩ := hp
      refine lv_iconst (v := (-1)) hx hb dX8_poker_26 (by decide) ?_
      refine lv_istore_n (lv' := [(3, .int (-1)), (0, .ref (ad 0)), (1, .int (nI w)), (2, .int w0)]) hx hb dX8_poker_27 rfl hl (by decide) rfl (fun ls hl => ?_)
      refine lv_aload_n hx hb dX8_poker_28 rfl (lv_at hl 1 rfl) ?_
      refine lv_iload_n hx hb dX8_poker_29 rfl (lv_at hl 2 rfl) ?_
      refine gw_callVi (As := [.int (nI w)]) (rest := []) F hl.1 hW (fun _ _ _ => trivial) gw_T_E (by decide) (rfl : ment ad cA _ _ _ 0 = _) rfl (kX8_stuckBehind (n := n) (w := w) (Lx := Lx) (T0 := T) hT hM (by omega) (kept_kp hK_5 Kp.rf) OutT.rf) pd_yX8_stuckBehind ml_RX8_204 im_yX8_stuckBehind se_yX8_stuckBehind ini_RX8 cd_yX8_stuckBehind ⟨rfl, rfl⟩ ⟨Nat.le_of_ble_eq_true rfl, Nat.le_of_ble_eq_true rfl⟩ rfl rfl (Nat.le_of_ble_eq_true rfl) ⟨Nat.zero_le _, Nat.zero_le _⟩ dX8_poker_30 (fun r u H locs hp hW _ _ => ?_)
      obtain ⟨ρ_6, T_7⟩ := u
      obtain ⟨rfl, hk_8, hTe⟩ := hp
      have hTe : T = T_7 := hTe.symm
      subst hTe
      refine lv_as (z := behS Lx T w) rfl ?_
      refine lv_istore (lv' := [(4, .int (behS Lx T w)), (3, .int (-1)), (0, .ref (ad 0)), (1, .int (nI w)), (2, .int w0)]) hx hb dX8_poker_33 hl (by decide) rfl (fun ls hl => ?_)
      refine lv_iconst (v := 0) hx hb dX8_poker_35 (by decide) ?_
      refine lv_istore (lv' := [(5, .int 0), (4, .int (behS Lx T w)), (3, .int (-1)), (0, .ref (ad 0)), (1, .int (nI w)), (2, .int w0)]) hx hb dX8_poker_36 hl (by decide) rfl (fun ls hl => ?_)
      have L38 : ∀ (k : Nat) (i : Nat) (ρ' : Nat → Nat → Int32) (bb ff : Int32), (i ≤ 10) → (10 + 1 ≤ i + k) → (KeptOf (ρ' 17) T) → ((pokeK Lx T w i) = (bb, ff)) → ∀ (H : Heap) (locs : List Loc) (ls : Array Slot), MW D cA ad ρ' T σ A s s.heap H locs → lv_has ls 7 [(5, .int (nI i)), (3, .int bb), (4, .int ff), (0, .ref (ad 0)), (1, .int (nI w)), (2, .int w0)] → W p l e rm_yX8_poker s m ar below meth c H locs 0 0 Q (F0 m 38 ls []) := by
        intro k
        induction k with
        | zero => intro i ρ' bb ff h1 h2 hKk hBF; exact absurd h2 (by omega)
        | succ k ih38 =>
          intro i ρ' bb ff h1 h2 hKk hBF H locs ls hW hl
          refine lv_iload hx hb dX8_poker_38 (lv_at hl 0 rfl) ?_
          refine lv_bipush (v := 10) hx hb dX8_poker_40 (by decide) ?_
          refine lv_icmp_ge (tgt := 124) hx hb dX8_poker_42 (by decide) (fun c_9 => ?_) (fun c_9 => ?_)
          ·
            obtain rfl : i = 10 := by have := mi_le (a := 10) (b := i) c_9 (by decide) (by omega); omega
            refine lv_iload_n hx hb dX8_poker_124 rfl (lv_at hl 5 rfl) ?_
            refine lv_if_ne (tgt := 132) hx hb dX8_poker_125 (by decide) (fun c_10 => ?_) (fun c_10 => ?_)
            ·
              refine lv_iload hx hb dX8_poker_132 (lv_at hl 2 rfl) ?_
              exact hret ff ρ' _ _ _ _ _ hW rfl rfl (by unfold pokerP pickS; rw [if_neg (show ¬ runP (nI w) = 0 from c_1), if_neg (cho_1 c_2), hiw, hBF, if_neg c_10]) dX8_poker_134
            ·
              refine lv_iload_n hx hb dX8_poker_128 rfl (lv_at hl 1 rfl) ?_
              refine lv_goto (tgt := 134) hx hb dX8_poker_129 (by decide) ?_
              exact hret bb ρ' _ _ _ _ _ hW rfl rfl (by unfold pokerP pickS; rw [if_neg (show ¬ runP (nI w) = 0 from c_1), if_neg (cho_1 c_2), hiw, hBF, if_pos c_10]) dX8_poker_134
          ·
            have hlt : i < 10 := mi_nle (a := 10) (b := i) c_9 (by decide) (by omega)
            refine lv_iconst (v := 0) hx hb dX8_poker_45 (by decide) ?_
            refine lv_istore (lv' := [(6, .int 0), (5, .int (nI i)), (3, .int bb), (4, .int ff), (0, .ref (ad 0)), (1, .int (nI w)), (2, .int w0)]) hx hb dX8_poker_46 hl (by decide) rfl (fun ls hl => ?_)
            have L48 : ∀ (k : Nat) (p0 : Nat), (p0 ≤ seatsN T) → (seatsN T + 1 ≤ p0 + k) → ∀ (H : Heap) (locs : List Loc) (ls : Array Slot), MW D cA ad ρ' (rightK T (nI i) p0) σ A s s.heap H locs → lv_has ls 7 [(6, .int (nI p0)), (0, .ref (ad 0)), (1, .int (nI w)), (2, .int w0), (3, .int bb), (4, .int ff), (5, .int (nI i))] → W p l e rm_yX8_poker s m ar below meth c H locs 0 0 Q (F0 m 48 ls []) := by
              intro k
              induction k with
              | zero => intro p0 g1 g2; exact absurd g2 (by omega)
              | succ k ih48 =>
                intro p0 g1 g2 H locs ls hW hl
                have h6r : rightK T (nI i) p0 6 = T 6 := row6_rightK p0 (by omega)
                refine lv_iload hx hb dX8_poker_48 (lv_at hl 0 rfl) ?_
                refine lv_aload_n hx hb dX8_poker_50 rfl (lv_at hl 1 rfl) ?_
                refine mr_f F hW 0 (by decide) rfl fl_RX8_69 dX8_poker_51 ?_
                refine lv_as (z := nI (seatsN T)) (by rw [h6r]; exact hsN) ?_
                refine lv_icmp_ge (tgt := 81) hx hb dX8_poker_54 (by decide) (fun c_11 => ?_) (fun c_11 => ?_)
                ·
                  obtain rfl : p0 = seatsN T := by have := mi_le (a := seatsN T) (b := p0) c_11 (by omega) (by omega); omega
                  refine lv_aload_n hx hb dX8_poker_81 rfl (lv_at hl 1 rfl) ?_
                  refine lv_iload_n hx hb dX8_poker_82 rfl (lv_at hl 2 rfl) ?_
                  refine gw_callVi (As := [.int (nI w)]) (rest := []) F hl.1 hW (fun _ _ _ => trivial) gw_T_E (by decide) (rfl : ment ad cA _ _ _ 0 = _) rfl (kX8_stuckBehind (n := n) (w := w) (Lx := Lx) (T0 := T) (ok_rightK hT (nI i) _ (Nat.le_refl _)).1 hM (by omega) (kept_kp hKk Kp.rf) (out_rightK _ hs6)) pd_yX8_stuckBehind ml_RX8_204 im_yX8_stuckBehind se_yX8_stuckBehind ini_RX8 cd_yX8_stuckBehind ⟨rfl, rfl⟩ ⟨Nat.le_of_ble_eq_true rfl, Nat.le_of_ble_eq_true rfl⟩ rfl rfl (Nat.le_of_ble_eq_true rfl) ⟨Nat.zero_le _, Nat.zero_le _⟩ dX8_poker_83 (fun r u H locs hp hW _ _ => ?_)
                  obtain ⟨ρ_12, T_13⟩ := u
                  obtain ⟨rfl, hk_14, hTe⟩ := hp
                  have hTe : T = T_13 := hTe.symm
                  subst hTe
                  refine lv_as (z := behS Lx (rightK T (nI i) (seatsN T)) w) rfl ?_
                  refine lv_topi (fun vv evv => ?_)
                  refine lv_istore (lv' := [(6, .int vv), (0, .ref (ad 0)), (1, .int (nI w)), (2, .int w0), (3, .int bb), (4, .int ff), (5, .int (nI i))]) hx hb dX8_poker_86 hl (by decide) rfl (fun ls hl => ?_)
                  refine lv_iload hx hb dX8_poker_88 (lv_at hl 0 rfl) ?_
                  refine lv_iload hx hb dX8_poker_90 (lv_at hl 5 rfl) ?_
                  refine lv_icmp_ge (tgt := 100) hx hb dX8_poker_92 (by decide) (fun c_15 => ?_) (fun c_15 => ?_)
                  ·
                    refine lv_iload_n hx hb dX8_poker_100 rfl (lv_at hl 4 rfl) ?_
                    refine lv_istore_n (lv' := [(3, .int bb), (6, .int vv), (0, .ref (ad 0)), (1, .int (nI w)), (2, .int w0), (4, .int ff), (5, .int (nI i))]) hx hb dX8_poker_101 rfl hl (by decide) rfl (fun ls hl => ?_)
                    refine lv_iload hx hb dX8_poker_102 (lv_at hl 1 rfl) ?_
                    refine lv_iload hx hb dX8_poker_104 (lv_at hl 5 rfl) ?_
                    refine lv_icmp_ge (tgt := 114) hx hb dX8_poker_106 (by decide) (fun c_16 => ?_) (fun c_16 => ?_)
                    ·
                      refine lv_iload hx hb dX8_poker_114 (lv_at hl 5 rfl) ?_
                      refine lv_istore (lv' := [(4, .int ff), (3, .int bb), (6, .int vv), (0, .ref (ad 0)), (1, .int (nI w)), (2, .int w0), (5, .int (nI i))]) hx hb dX8_poker_116 hl (by decide) rfl (fun ls hl => ?_)
                      refine lv_iinc (v := nI (i + 1)) (lv' := [(5, .int (nI (i + 1))), (4, .int ff), (3, .int bb), (6, .int vv), (0, .ref (ad 0)), (1, .int (nI w)), (2, .int w0)]) hx hb dX8_poker_118 hl (k := 6) rfl (nI_1 i) (by decide) rfl (fun ls hl => ?_)
                      refine lv_goto (tgt := 38) hx hb dX8_poker_121 (by decide) ?_
                      exact ih38 (i + 1) ρ_12 _ _ (by omega) (by omega) (kept_kp hKk (Kp.trans Kp.rf hk_14)) (by show lessS (pokeK Lx T w i) (nI i) (behS Lx (rightK T (nI i) (seatsN T)) w) = _; rw [hBF]; unfold lessS; rw [if_neg (by rw [← evv]; exact Int32.not_lt.mpr c_15)]) _ _ _ hW (lv_sub hl [0, 2, 1, 4, 5, 6] rfl)
                    ·
                      exact absurd c_15 c_16
                  ·
                    refine lv_iload hx hb dX8_poker_95 (lv_at hl 6 rfl) ?_
                    refine lv_goto (tgt := 101) hx hb dX8_poker_97 (by decide) ?_
                    refine lv_istore_n (lv' := [(3, .int (nI i)), (6, .int vv), (0, .ref (ad 0)), (1, .int (nI w)), (2, .int w0), (4, .int ff), (5, .int (nI i))]) hx hb dX8_poker_101 rfl hl (by decide) rfl (fun ls hl => ?_)
                    refine lv_iload hx hb dX8_poker_102 (lv_at hl 1 rfl) ?_
                    refine lv_iload hx hb dX8_poker_104 (lv_at hl 5 rfl) ?_
                    refine lv_icmp_ge (tgt := 114) hx hb dX8_poker_106 (by decide) (fun c_17 => ?_) (fun c_17 => ?_)
                    ·
                      exact absurd c_17 c_15
                    ·
                      refine lv_iload hx hb dX8_poker_109 (lv_at hl 1 rfl) ?_
                      refine lv_goto (tgt := 116) hx hb dX8_poker_111 (by decide) ?_
                      refine lv_istore (lv' := [(4, .int vv), (3, .int (nI i)), (6, .int vv), (0, .ref (ad 0)), (1, .int (nI w)), (2, .int w0), (5, .int (nI i))]) hx hb dX8_poker_116 hl (by decide) rfl (fun ls hl => ?_)
                      refine lv_iinc (v := nI (i + 1)) (lv' := [(5, .int (nI (i + 1))), (4, .int vv), (3, .int (nI i)), (6, .int vv), (0, .ref (ad 0)), (1, .int (nI w)), (2, .int w0)]) hx hb dX8_poker_118 hl (k := 6) rfl (nI_1 i) (by decide) rfl (fun ls hl => ?_)
                      refine lv_goto (tgt := 38) hx hb dX8_poker_121 (by decide) ?_
                      exact ih38 (i + 1) ρ_12 _ _ (by omega) (by omega) (kept_kp hKk (Kp.trans Kp.rf hk_14)) (by show lessS (pokeK Lx T w i) (nI i) (behS Lx (rightK T (nI i) (seatsN T)) w) = _; rw [hBF]; unfold lessS; rw [if_pos (by rw [← evv]; exact Int32.not_le.mp c_15), ← evv]) _ _ _ hW (lv_sub hl [0, 2, 1, 4, 5, 6] rfl)
                ·
                  have hltp : p0 < seatsN T := mi_nle (a := seatsN T) (b := p0) c_11 (by omega) (by omega)
                  refine lv_aload_n hx hb dX8_poker_57 rfl (lv_at hl 1 rfl) ?_
                  refine mr_f F hW 3 (by decide) rfl fl_RX8_16 dX8_poker_58 ?_
                  refine lv_iconst (v := 5) hx hb dX8_poker_61 (by decide) ?_
                  refine lv_iload hx hb dX8_poker_62 (lv_at hl 0 rfl) ?_
                  refine lv_imul hx hb dX8_poker_64 ?_
                  refine lv_dup2_11 hx hb dX8_poker_65 rfl rfl ?_
                  refine mr_rows p0 0 (by omega) (by decide) (mi_50 p0) F hW dX8_poker_66 ?_
                  refine lv_iconst (v := 1) hx hb dX8_poker_67 (by decide) ?_
                  refine lv_iload hx hb dX8_poker_68 (lv_at hl 6 rfl) ?_
                  refine lv_ishl hx hb dX8_poker_70 ?_
                  refine lv_iconst (v := (-1)) hx hb dX8_poker_71 (by decide) ?_
                  refine lv_ixor hx hb dX8_poker_72 ?_
                  refine lv_iand hx hb dX8_poker_73 ?_
                  refine mw_rows p0 0 (by omega) (by decide) (mi_50 p0) F hW dX8_poker_74 (fun H locs hW => ?_)
                  refine lv_iinc (v := nI (p0 + 1)) (lv' := [(6, .int (nI (p0 + 1))), (0, .ref (ad 0)), (1, .int (nI w)), (2, .int w0), (3, .int bb), (4, .int ff), (5, .int (nI i))]) hx hb dX8_poker_75 hl (k := 0) rfl (nI_1 p0) (by decide) rfl (fun ls hl => ?_)
                  refine lv_goto (tgt := 48) hx hb dX8_poker_78 (by decide) ?_
                  exact ih48 (p0 + 1) (by omega) (by omega) _ _ _ hW (lv_sub hl [0, 1, 2, 3, 4, 5, 6] rfl)
            exact L48 (seatsN T + 1) 0 (Nat.zero_le _) (by omega) _ _ _ hW (lv_sub hl [0, 4, 5, 6, 2, 3, 1] rfl)
      exact L38 (10 + 1) 0 _ _ _ (Nat.zero_le _) (by omega) (kept_kp hK_5 (Kp.trans Kp.rf hk_8)) (by rfl) _ _ _ hW (lv_sub hl [0, 2, 1, 3, 4, 5] rfl)
    ·
      refine lv_bipush (v := (-2)) hx hb dX8_poker_19 (by decide) ?_
      exact hret (-2) ρ _ _ _ _ _ hW rfl rfl (by unfold pokerP; rw [if_neg (show ¬ runP (nI w) = 0 from c_1), if_pos (cho_0 c_2)]) dX8_poker_21
abbrev rm_yX8_alarm : Room := { frames := 9, cells := 0, slots := 0, locals := 208 }
set_option maxHeartbeats 800000 in
set_option maxRecDepth 100000 in
theorem kX8_alarm {l : Launch} {D : va_G} {cA : ClassId} {ad : Nat → Nat} {ρ T σ : Nat → Nat → Int32} {sz : Nat} {n : Nat} {Lx : Lw} {v w0 : Int32} (hT : okT n T) (hM : okML n σ Lx) : MMi l yX8_alarm cX8_alarm 7 FieldType.int rm_yX8_alarm [.ref (ad 0), .int v, .int w0] D cA ad ρ T σ sz (fun (r : Int32) (u : Nat → Nat → Int32) => r = alarmP Lx T v w0) (fun u : Nat → Nat → Int32 => ment ad cA u T σ) := by
  refine gw_stI (Ff := fun u : Nat → Nat → Int32 => ment ad cA u T σ) (own := RX8) (by decide +kernel) rfl (Nat.le_of_ble_eq_true rfl) ?_
  intro p e s m ar below meth c A Q F hE hsz hW hret ls hl
  obtain ⟨hx, hb, hml, hown, hts⟩ := id F
  have hl : lv_has ls 7 [(0, .ref (ad 0)), (1, .int v), (2, .int w0)] := hl
  have hs6 := hT.1
  have hsN := hT.2.1
  refine lv_iload_n hx hb dX8_alarm_0 rfl (lv_at hl 1 rfl) ?_
  refine lv_iconst (v := 0) hx hb dX8_alarm_1 (by decide) ?_
  refine lv_bipush (v := 40) hx hb dX8_alarm_2 (by decide) ?_
  refine gw_callP (As := [.int v, .int 0, .int 40]) (rest := []) F hl.1 (kX8_in) pd_yX8_in ml_RX8_72 st_yX8_in ini_RX8 cd_yX8_in ⟨rfl, rfl⟩ ⟨Nat.le_of_ble_eq_true rfl, Nat.le_of_ble_eq_true rfl⟩ rfl rfl (Nat.le_of_ble_eq_true rfl) ⟨Nat.zero_le _, Nat.zero_le _⟩ dX8_alarm_4 ?_
  refine lv_as (z := inP v 0 40) rfl ?_
  refine lv_if_eq (tgt := 19) hx hb dX8_alarm_7 (by decide) (fun c_1 => ?_) (fun c_1 => ?_)
  ·
    refine lv_bipush (v := (-2)) hx hb dX8_alarm_19 (by decide) ?_
    exact hret (-2) ρ _ _ _ _ _ hW rfl rfl (by unfold alarmP; rw [if_pos (show runP v = 0 from c_1)]) dX8_alarm_21
  ·
    obtain ⟨w, hw40, rfl⟩ := run_nat (v := v) c_1; have hiw : iN (nI w) = w := iN_nI (by omega)
    refine lv_iload_n hx hb dX8_alarm_10 rfl (lv_at hl 2 rfl) ?_
    refine lv_iconst (v := 0) hx hb dX8_alarm_11 (by decide) ?_
    refine lv_iconst (v := 1) hx hb dX8_alarm_12 (by decide) ?_
    refine gw_callP (As := [.int w0, .int 0, .int 1]) (rest := []) F hl.1 (kX8_in) pd_yX8_in ml_RX8_72 st_yX8_in ini_RX8 cd_yX8_in ⟨rfl, rfl⟩ ⟨Nat.le_of_ble_eq_true rfl, Nat.le_of_ble_eq_true rfl⟩ rfl rfl (Nat.le_of_ble_eq_true rfl) ⟨Nat.zero_le _, Nat.zero_le _⟩ dX8_alarm_13 ?_
    refine lv_as (z := inP w0 0 1) rfl ?_
    refine lv_if_ne (tgt := 22) hx hb dX8_alarm_16 (by decide) (fun c_2 => ?_) (fun c_2 => ?_)
    ·
      refine lv_aload_n hx hb dX8_alarm_22 rfl (lv_at hl 0 rfl) ?_
      refine gw_callVv (As := []) (rest := []) F hl.1 hW (fun _ _ _ => trivial) gw_T_E (by decide) (rfl : ment ad cA _ _ _ 0 = _) rfl (kX8_keeps) pd_yX8_keeps ml_RX8_195 im_yX8_keeps se_yX8_keeps ini_RX8 cd_yX8_keeps ⟨rfl, rfl⟩ ⟨Nat.le_of_ble_eq_true rfl, Nat.le_of_ble_eq_true rfl⟩ rfl rfl (Nat.le_of_ble_eq_true rfl) ⟨Nat.zero_le _, Nat.zero_le _⟩ dX8_alarm_23 (fun ρ_3 H locs hp hW _ _ => ?_)
      obtain ⟨h0_4, hK_5⟩ := hp
      refine lv_iconst (v := (-1)) hx hb dX8_alarm_26 (by decide) ?_
      refine lv_istore_n (lv' := [(3, .int (-1)), (0, .ref (ad 0)), (1, .int (nI w)), (2, .int w0)]) hx hb dX8_alarm_27 rfl hl (by decide) rfl (fun ls hl => ?_)
      refine lv_aload_n hx hb dX8_alarm_28 rfl (lv_at hl 1 rfl) ?_
      refine lv_iload_n hx hb dX8_alarm_29 rfl (lv_at hl 2 rfl) ?_
      refine gw_callVi (As := [.int (nI w)]) (rest := []) F hl.1 hW (fun _ _ _ => trivial) gw_T_E (by decide) (rfl : ment ad cA _ _ _ 0 = _) rfl (kX8_ateBehind (n := n) (w := w) (Lx := Lx) (T0 := T) hT hM (by omega) (kept_kp hK_5 Kp.rf) OutT.rf) pd_yX8_ateBehind ml_RX8_207 im_yX8_ateBehind se_yX8_ateBehind ini_RX8 cd_yX8_ateBehind ⟨rfl, rfl⟩ ⟨Nat.le_of_ble_eq_true rfl, Nat.le_of_ble_eq_true rfl⟩ rfl rfl (Nat.le_of_ble_eq_true rfl) ⟨Nat.zero_le _, Nat.zero_le _⟩ dX8_alarm_30 (fun r u H locs hp hW _ _ => ?_)
      obtain ⟨ρ_6, T_7⟩ := u
      obtain ⟨rfl, hk_8, hTe⟩ := hp
      have hTe : T = T_7 := hTe.symm
      subst hTe
      refine lv_as (z := behA Lx T w) rfl ?_
      refine lv_istore (lv' := [(4, .int (behA Lx T w)), (3, .int (-1)), (0, .ref (ad 0)), (1, .int (nI w)), (2, .int w0)]) hx hb dX8_alarm_33 hl (by decide) rfl (fun ls hl => ?_)
      refine lv_iconst (v := 0) hx hb dX8_alarm_35 (by decide) ?_
      refine lv_istore (lv' := [(5, .int 0), (4, .int (behA Lx T w)), (3, .int (-1)), (0, .ref (ad 0)), (1, .int (nI w)), (2, .int w0)]) hx hb dX8_alarm_36 hl (by decide) rfl (fun ls hl => ?_)
      have L38 : ∀ (k : Nat) (i : Nat) (ρ' : Nat → Nat → Int32) (bb ff : Int32), (i ≤ seatsN T) → (seatsN T + 1 ≤ i + k) → (KeptOf (ρ' 17) T) → ((alarK Lx T w i) = (bb, ff)) → ∀ (H : Heap) (locs : List Loc) (ls : Array Slot), MW D cA ad ρ' T σ A s s.heap H locs → lv_has ls 7 [(5, .int (nI i)), (3, .int bb), (4, .int ff), (0, .ref (ad 0)), (1, .int (nI w)), (2, .int w0)] → W p l e rm_yX8_alarm s m ar below meth c H locs 0 0 Q (F0 m 38 ls []) := by
        intro k
        induction k with
        | zero => intro i ρ' bb ff h1 h2 hKk hBF; exact absurd h2 (by omega)
        | succ k ih38 =>
          intro i ρ' bb ff h1 h2 hKk hBF H locs ls hW hl
          refine lv_iload hx hb dX8_alarm_38 (lv_at hl 0 rfl) ?_
          refine lv_aload_n hx hb dX8_alarm_40 rfl (lv_at hl 3 rfl) ?_
          refine mr_f F hW 0 (by decide) rfl fl_RX8_69 dX8_alarm_41 ?_
          refine lv_as (z := nI (seatsN T)) (hsN) ?_
          refine lv_icmp_ge (tgt := 116) hx hb dX8_alarm_44 (by decide) (fun c_9 => ?_) (fun c_9 => ?_)
          ·
            obtain rfl : i = seatsN T := by have := mi_le (a := seatsN T) (b := i) c_9 (by omega) (by omega); omega
            refine lv_iload_n hx hb dX8_alarm_116 rfl (lv_at hl 5 rfl) ?_
            refine lv_if_ne (tgt := 124) hx hb dX8_alarm_117 (by decide) (fun c_10 => ?_) (fun c_10 => ?_)
            ·
              refine lv_iload hx hb dX8_alarm_124 (lv_at hl 2 rfl) ?_
              exact hret ff ρ' _ _ _ _ _ hW rfl rfl (by unfold alarmP pickS; rw [if_neg (show ¬ runP (nI w) = 0 from c_1), if_neg (cho_1 c_2), hiw, hBF, if_neg c_10]) dX8_alarm_126
            ·
              refine lv_iload_n hx hb dX8_alarm_120 rfl (lv_at hl 1 rfl) ?_
              refine lv_goto (tgt := 126) hx hb dX8_alarm_121 (by decide) ?_
              exact hret bb ρ' _ _ _ _ _ hW rfl rfl (by unfold alarmP pickS; rw [if_neg (show ¬ runP (nI w) = 0 from c_1), if_neg (cho_1 c_2), hiw, hBF, if_pos c_10]) dX8_alarm_126
          ·
            have hlt : i < seatsN T := mi_nle (a := seatsN T) (b := i) c_9 (by omega) (by omega)
            refine lv_aload_n hx hb dX8_alarm_47 rfl (lv_at hl 3 rfl) ?_
            refine mr_f F hW 3 (by decide) rfl fl_RX8_16 dX8_alarm_48 ?_
            refine lv_iconst (v := 5) hx hb dX8_alarm_51 (by decide) ?_
            refine lv_iload hx hb dX8_alarm_52 (lv_at hl 0 rfl) ?_
            refine lv_imul hx hb dX8_alarm_54 ?_
            refine lv_iconst (v := 4) hx hb dX8_alarm_55 (by decide) ?_
            refine lv_iadd hx hb dX8_alarm_56 ?_
            refine mr_rows i 4 (by omega) (by decide) (mi_5k i 4) F hW dX8_alarm_57 ?_
            refine lv_if_ne (tgt := 110) hx hb dX8_alarm_58 (by decide) (fun c_11 => ?_) (fun c_11 => ?_)
            ·
              refine lv_iinc (v := nI (i + 1)) (lv' := [(5, .int (nI (i + 1))), (3, .int bb), (4, .int ff), (0, .ref (ad 0)), (1, .int (nI w)), (2, .int w0)]) hx hb dX8_alarm_110 hl (k := 0) rfl (nI_1 i) (by decide) rfl (fun ls hl => ?_)
              refine lv_goto (tgt := 38) hx hb dX8_alarm_113 (by decide) ?_
              exact ih38 (i + 1) ρ' _ _ (by omega) (by omega) (kept_kp hKk Kp.rf) (by show (if T i 6 = 0 then moreS (alarK Lx T w i) (nI i) (behA Lx (upT T i 6 1) w) else alarK Lx T w i) = _; rw [if_neg c_11]; exact hBF) _ _ _ hW (lv_sub hl [0, 1, 2, 3, 4, 5] rfl)
            ·
              refine lv_aload_n hx hb dX8_alarm_61 rfl (lv_at hl 3 rfl) ?_
              refine mr_f F hW 3 (by decide) rfl fl_RX8_16 dX8_alarm_62 ?_
              refine lv_iconst (v := 5) hx hb dX8_alarm_65 (by decide) ?_
              refine lv_iload hx hb dX8_alarm_66 (lv_at hl 0 rfl) ?_
              refine lv_imul hx hb dX8_alarm_68 ?_
              refine lv_iconst (v := 4) hx hb dX8_alarm_69 (by decide) ?_
              refine lv_iadd hx hb dX8_alarm_70 ?_
              refine lv_iconst (v := 1) hx hb dX8_alarm_71 (by decide) ?_
              refine mw_rows i 4 (by omega) (by decide) (mi_5k i 4) F hW dX8_alarm_72 (fun H locs hW => ?_)
              refine lv_aload_n hx hb dX8_alarm_73 rfl (lv_at hl 3 rfl) ?_
              refine lv_iload_n hx hb dX8_alarm_74 rfl (lv_at hl 4 rfl) ?_
              refine gw_callVi (As := [.int (nI w)]) (rest := []) F hl.1 hW (fun _ _ _ => trivial) gw_T_E (by decide) (rfl : ment ad cA _ _ _ 0 = _) rfl (kX8_ateBehind (n := n) (w := w) (Lx := Lx) (T0 := T) (ok_upT hT (by omega) (fun _ => okG_6 (hT.2.2.2.2 i hlt) (Or.inr rfl))) hM (by omega) (kept_kp hKk Kp.rf) (OutT.rf.up (by omega))) pd_yX8_ateBehind ml_RX8_207 im_yX8_ateBehind se_yX8_ateBehind ini_RX8 cd_yX8_ateBehind ⟨rfl, rfl⟩ ⟨Nat.le_of_ble_eq_true rfl, Nat.le_of_ble_eq_true rfl⟩ rfl rfl (Nat.le_of_ble_eq_true rfl) ⟨Nat.zero_le _, Nat.zero_le _⟩ dX8_alarm_75 (fun r u H locs hp hW _ _ => ?_)
              obtain ⟨ρ_12, T_13⟩ := u
              obtain ⟨rfl, hk_14, hTe⟩ := hp
              have hTe : T = T_13 := hTe.symm
              subst hTe
              refine lv_as (z := behA Lx (upT T i 6 1) w) rfl ?_
              refine lv_topi (fun vv evv => ?_)
              refine lv_istore (lv' := [(6, .int vv), (5, .int (nI i)), (3, .int bb), (4, .int ff), (0, .ref (ad 0)), (1, .int (nI w)), (2, .int w0)]) hx hb dX8_alarm_78 hl (by decide) rfl (fun ls hl => ?_)
              refine lv_iload hx hb dX8_alarm_80 (lv_at hl 0 rfl) ?_
              refine lv_iload hx hb dX8_alarm_82 (lv_at hl 3 rfl) ?_
              refine lv_icmp_le (tgt := 92) hx hb dX8_alarm_84 (by decide) (fun c_15 => ?_) (fun c_15 => ?_)
              ·
                refine lv_iload_n hx hb dX8_alarm_92 rfl (lv_at hl 2 rfl) ?_
                refine lv_istore_n (lv' := [(3, .int bb), (6, .int vv), (5, .int (nI i)), (4, .int ff), (0, .ref (ad 0)), (1, .int (nI w)), (2, .int w0)]) hx hb dX8_alarm_93 rfl hl (by decide) rfl (fun ls hl => ?_)
                refine lv_iload hx hb dX8_alarm_94 (lv_at hl 1 rfl) ?_
                refine lv_iload hx hb dX8_alarm_96 (lv_at hl 3 rfl) ?_
                refine lv_icmp_le (tgt := 106) hx hb dX8_alarm_98 (by decide) (fun c_16 => ?_) (fun c_16 => ?_)
                ·
                  refine lv_iload hx hb dX8_alarm_106 (lv_at hl 3 rfl) ?_
                  refine lv_istore (lv' := [(4, .int ff), (3, .int bb), (6, .int vv), (5, .int (nI i)), (0, .ref (ad 0)), (1, .int (nI w)), (2, .int w0)]) hx hb dX8_alarm_108 hl (by decide) rfl (fun ls hl => ?_)
                  refine lv_iinc (v := nI (i + 1)) (lv' := [(5, .int (nI (i + 1))), (4, .int ff), (3, .int bb), (6, .int vv), (0, .ref (ad 0)), (1, .int (nI w)), (2, .int w0)]) hx hb dX8_alarm_110 hl (k := 3) rfl (nI_1 i) (by decide) rfl (fun ls hl => ?_)
                  refine lv_goto (tgt := 38) hx hb dX8_alarm_113 (by decide) ?_
                  exact ih38 (i + 1) ρ_12 _ _ (by omega) (by omega) (kept_kp hKk (Kp.trans Kp.rf hk_14)) (by show (if T i 6 = 0 then moreS (alarK Lx T w i) (nI i) (behA Lx (upT T i 6 1) w) else alarK Lx T w i) = _; rw [if_pos c_11, hBF]; unfold moreS; rw [if_neg (by rw [← evv]; exact Int32.not_lt.mpr c_15)]) _ _ _ hW (lv_sub hl [0, 2, 1, 4, 5, 6] rfl)
                ·
                  exact absurd c_15 c_16
              ·
                refine lv_iload hx hb dX8_alarm_87 (lv_at hl 1 rfl) ?_
                refine lv_goto (tgt := 93) hx hb dX8_alarm_89 (by decide) ?_
                refine lv_istore_n (lv' := [(3, .int (nI i)), (6, .int vv), (5, .int (nI i)), (4, .int ff), (0, .ref (ad 0)), (1, .int (nI w)), (2, .int w0)]) hx hb dX8_alarm_93 rfl hl (by decide) rfl (fun ls hl => ?_)
                refine lv_iload hx hb dX8_alarm_94 (lv_at hl 1 rfl) ?_
                refine lv_iload hx hb dX8_alarm_96 (lv_at hl 3 rfl) ?_
                refine lv_icmp_le (tgt := 106) hx hb dX8_alarm_98 (by decide) (fun c_17 => ?_) (fun c_17 => ?_)
                ·
                  exact absurd c_17 c_15
                ·
                  refine lv_iload hx hb dX8_alarm_101 (lv_at hl 1 rfl) ?_
                  refine lv_goto (tgt := 108) hx hb dX8_alarm_103 (by decide) ?_
                  refine lv_istore (lv' := [(4, .int vv), (3, .int (nI i)), (6, .int vv), (5, .int (nI i)), (0, .ref (ad 0)), (1, .int (nI w)), (2, .int w0)]) hx hb dX8_alarm_108 hl (by decide) rfl (fun ls hl => ?_)
                  refine lv_iinc (v := nI (i + 1)) (lv' := [(5, .int (nI (i + 1))), (4, .int vv), (3, .int (nI i)), (6, .int vv), (0, .ref (ad 0)), (1, .int (nI w)), (2, .int w0)]) hx hb dX8_alarm_110 hl (k := 3) rfl (nI_1 i) (by decide) rfl (fun ls hl => ?_)
                  refine lv_goto (tgt := 38) hx hb dX8_alarm_113 (by decide) ?_
                  exact ih38 (i + 1) ρ_12 _ _ (by omega) (by omega) (kept_kp hKk (Kp.trans Kp.rf hk_14)) (by show (if T i 6 = 0 then moreS (alarK Lx T w i) (nI i) (behA Lx (upT T i 6 1) w) else alarK Lx T w i) = _; rw [if_pos c_11, hBF]; unfold moreS; rw [if_pos (by rw [← evv]; exact Int32.not_le.mp c_15), ← evv]) _ _ _ hW (lv_sub hl [0, 2, 1, 4, 5, 6] rfl)
      exact L38 (seatsN T + 1) 0 _ _ _ (Nat.zero_le _) (by omega) (kept_kp hK_5 (Kp.trans Kp.rf hk_8)) (by rfl) _ _ _ hW (lv_sub hl [0, 2, 1, 3, 4, 5] rfl)
    ·
      refine lv_bipush (v := (-2)) hx hb dX8_alarm_19 (by decide) ?_
      exact hret (-2) ρ _ _ _ _ _ hW rfl rfl (by unfold alarmP; rw [if_neg (show ¬ runP (nI w) = 0 from c_1), if_pos (cho_0 c_2)]) dX8_alarm_21
