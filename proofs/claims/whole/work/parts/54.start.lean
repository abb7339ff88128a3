/-! ===== start, readToken ===== -/
abbrev rm_yX5_start : Room := { frames := 7, cells := 0, slots := 0, locals := 147 }
set_option maxHeartbeats 800000 in
set_option maxRecDepth 100000 in
theorem kX5_start {l : Launch} {D : va_G} {cs : Nat → ClassId} {ad : Nat → Nat} {n : Nat} {ρ σ : Nat → Nat → Int32} {TT τ : Nat → Nat → Nat → Int32} {sz : Nat} {adK adV : Nat → Nat} {z a : Nat} {k0 t0 m0 : Int32} (hz : σ 1 1 = nI z) (hz1 : z ≤ 160) (haz : a ≤ z) : XSv l yX5_start cX5_start 1 rm_yX5_start [.ref (ad 1)] D cs ad n ρ TT τ (tpS σ (nI a) k0 t0 m0) sz adK adV (fun (u : Nat → Nat → Int32) => u = tpS σ (nI (nxA (σ 2) z (skpG (σ 2) z 161 0))) (nxK (σ 2) z (skpG (σ 2) z 161 0)) (nI (skpG (σ 2) z 161 0)) (nxM (σ 2) z (skpG (σ 2) z 161 0) m0)) (fun u : Nat → Nat → Int32 => xent ad cs n ρ TT τ u) := by
  refine gw_stVs (Ff := fun u : Nat → Nat → Int32 => xent ad cs n ρ TT τ u) (own := RX5) (by decide +kernel) rfl (Nat.le_of_ble_eq_true rfl) ?_
  intro p e s m ar below meth c A Q F hE hsz hA hW hret ls hl
  obtain ⟨hx, hb, hml, hown, hts⟩ := id F
  have hl : lv_has ls 1 [(0, .ref (ad 1))] := hl
  refine lv_aload_n hx hb dX5_start_0 rfl (lv_at hl 0 rfl) ?_
  refine lv_iconst (v := 0) hx hb dX5_start_1 (by decide) ?_
  refine xw_P F hW 2 (by decide) fl_RX5_19 rfl (ty := .int) rfl rfl rfl rfl dX5_start_2 (fun H locs hW => ?_)
  have hW : XW D cs ad n ρ TT τ (tpS σ 0 k0 t0 m0) A s s.heap H locs := by rw [tp_2] at hW; exact hW
  refine lv_aload_n hx hb dX5_start_5 rfl (lv_at hl 0 rfl) ?_
  refine gw_callVv (As := []) (rest := []) F hl.1 hW (xs_hE hE hA hsz hW) XS_E (by omega) xe_1 rfl (kX5_next (adK := adK) (adV := adV) (σ := σ) (z := z) (a := 0) hz hz1 (by omega)) pd_yX5_next ml_RX5_22 im_yX5_next se_yX5_next ini_RX5 cd_yX5_next ⟨rfl, rfl⟩ ⟨Nat.le_of_ble_eq_true rfl, Nat.le_of_ble_eq_true rfl⟩ rfl rfl (Nat.le_of_ble_eq_true rfl) ⟨Nat.zero_le _, Nat.zero_le _⟩ dX5_start_6 (fun σ_1 H locs hp hW _ _ => ?_)
  subst hp
  exact hret (tpS σ (nI (nxA (σ 2) z (skpG (σ 2) z 161 0))) (nxK (σ 2) z (skpG (σ 2) z 161 0)) (nI (skpG (σ 2) z 161 0)) (nxM (σ 2) z (skpG (σ 2) z 161 0) m0)) _ _ _ _ _ hW rfl (rfl) dX5_start_9
abbrev rm_yX2_readToken : Room := { frames := 7, cells := 0, slots := 0, locals := 147 }
set_option maxHeartbeats 800000 in
set_option maxRecDepth 100000 in
theorem kX2_readToken {l : Launch} {D : va_G} {cs : Nat → ClassId} {ad : Nat → Nat} {n : Nat} {ρ σ : Nat → Nat → Int32} {TT τ : Nat → Nat → Nat → Int32} {sz : Nat} {adK adV : Nat → Nat} {z a : Nat} {k0 t0 m0 v0 : Int32} (hz : σ 1 1 = nI z) (hz1 : z ≤ 160) (haz : a ≤ z) : XSi l yX2_readToken cX2_readToken 2 FieldType.boolean rm_yX2_readToken [.ref (ad 3), .int v0] D cs ad n ρ TT τ (tpS σ (nI a) k0 t0 m0) sz adK adV (fun (r : Int32) (u : Nat → Nat → Int32) => r = (if k0 = v0 then 1 else 0) ∧ u = if k0 = v0 then tpS σ (nI (nxA (σ 2) z (skpG (σ 2) z 161 a))) (nxK (σ 2) z (skpG (σ 2) z 161 a)) (nI (skpG (σ 2) z 161 a)) (nxM (σ 2) z (skpG (σ 2) z 161 a) m0) else tpS σ (nI a) k0 t0 m0) (fun u : Nat → Nat → Int32 => xent ad cs n ρ TT τ u) := by
  refine gw_stIs (Ff := fun u : Nat → Nat → Int32 => xent ad cs n ρ TT τ u) (own := RX2) (by decide +kernel) rfl (Nat.le_of_ble_eq_true rfl) ?_
  intro p e s m ar below meth c A Q F hE hsz hA hW hret ls hl
  obtain ⟨hx, hb, hml, hown, hts⟩ := id F
  have hl : lv_has ls 2 [(0, .ref (ad 3)), (1, .int v0)] := hl
  refine lv_aload_n hx hb dX2_readToken_0 rfl (lv_at hl 0 rfl) ?_
  refine xr_D F hW 0 (by decide) rfl fl_RX2_9 dX2_readToken_1 ?_
  refine xr_P F hW 3 (by decide) rfl fl_RX2_35 dX2_readToken_4 ?_
  refine lv_as (z := k0) rfl ?_
  refine lv_iload_n hx hb dX2_readToken_7 rfl (lv_at hl 1 rfl) ?_
  refine lv_icmp_eq (tgt := 13) hx hb dX2_readToken_8 (by decide) (fun c_1 => ?_) (fun c_1 => ?_)
  ·
    refine lv_aload_n hx hb dX2_readToken_13 rfl (lv_at hl 0 rfl) ?_
    refine xr_D F hW 0 (by decide) rfl fl_RX2_9 dX2_readToken_14 ?_
    refine gw_callVv (As := []) (rest := []) F hl.1 hW (xs_hE hE hA hsz hW) XS_E (by omega) xe_1 rfl (kX5_next (adK := adK) (adV := adV) (σ := σ) (z := z) (a := a) hz hz1 (by omega)) pd_yX5_next ml_RX2_48 im_yX5_next se_yX5_next ini_RX5 cd_yX5_next ⟨rfl, rfl⟩ ⟨Nat.le_of_ble_eq_true rfl, Nat.le_of_ble_eq_true rfl⟩ rfl rfl (Nat.le_of_ble_eq_true rfl) ⟨Nat.zero_le _, Nat.zero_le _⟩ dX2_readToken_17 (fun σ_2 H locs hp hW _ _ => ?_)
    subst hp
    refine lv_iconst (v := 1) hx hb dX2_readToken_20 (by decide) ?_
    exact hret 1 (tpS σ (nI (nxA (σ 2) z (skpG (σ 2) z 161 a))) (nxK (σ 2) z (skpG (σ 2) z 161 a)) (nI (skpG (σ 2) z 161 a)) (nxM (σ 2) z (skpG (σ 2) z 161 a) m0)) _ _ _ _ _ hW rfl rfl (⟨(if_pos c_1).symm, (if_pos c_1).symm⟩) dX2_readToken_21
  ·
    refine lv_iconst (v := 0) hx hb dX2_readToken_11 (by decide) ?_
    exact hret 0 (tpS σ (nI a) k0 t0 m0) _ _ _ _ _ hW rfl rfl (⟨(if_neg c_1).symm, (if_neg c_1).symm⟩) dX2_readToken_12
