/-! ===== sheets ===== -/
def fillR (g : Nat → Int32) (v : Int32) : Nat → (Nat → Int32)
  | 0 => g
  | k + 1 => upd (fillR g v k) k v
def becS (σ : Nat → Nat → Int32) (j : Nat) (so sz : Int32) : Nat → Nat → Int32 := va_up (upR (upR σ (34 + j) 1 so) (34 + j) 2 sz) (34 + j + 4) (fillR (upR (upR σ (34 + j) 1 so) (34 + j) 2 sz (34 + j + 4)) 0 40)
def setS (σ : Nat → Nat → Int32) (j : Nat) (i v : Int32) : Nat → Nat → Int32 := if i < 0 then σ else if σ (34 + j) 2 ≤ i then σ else if σ (34 + j) 1 = 0 then upR σ (34 + j + 4) (iN i) v.toInt8.toInt32 else if σ (34 + j) 1 = 1 then upR σ (34 + j + 4) (iN i) v.toInt16.toInt32 else upR σ (34 + j + 4) (iN i) v
theorem setS_row {σ : Nat → Nat → Int32} {j : Nat} {i v : Int32} {o : Nat} (h : o ≠ 34 + j + 4) : setS σ j i v o = σ o := by
  have r : ∀ k w, upR σ (34 + j + 4) k w o = σ o := fun k w => va_up_ne _ _ h
  unfold setS
  by_cases h1 : i < 0
  · rw [if_pos h1]
  · rw [if_neg h1]
    by_cases h2 : σ (34 + j) 2 ≤ i
    · rw [if_pos h2]
    · rw [if_neg h2]
      by_cases h3 : σ (34 + j) 1 = 0
      · rw [if_pos h3, r]
      · rw [if_neg h3]
        by_cases h4 : σ (34 + j) 1 = 1
        · rw [if_pos h4, r]
        · rw [if_neg h4, r]
theorem becS_so {σ : Nat → Nat → Int32} {j : Nat} {so sz : Int32} : becS σ j so sz (34 + j) = upd (upd (σ (34 + j)) 1 so) 2 sz := by
  unfold becS
  rw [va_up_ne _ _ (by omega), upR_self, upR_self]
theorem becS_ne {σ : Nat → Nat → Int32} {j : Nat} {so sz : Int32} {o : Nat} (h : o ≠ 34 + j) (h2 : o ≠ 34 + j + 4) : becS σ j so sz o = σ o := by
  unfold becS upR
  rw [va_up_ne _ _ h2, va_up_ne _ _ h, va_up_ne _ _ h]
def filmK (Lx : Lw) (T : Tb) (σ : Nat → Nat → Int32) (j k : Nat) : Nat → Tb × (Nat → Nat → Int32)
  | 0 => (T, becS σ j 0 (nI k))
  | i + 1 => ((passS Lx (filmK Lx T σ j k i).1).1, setS (filmK Lx T σ j k i).2 j (nI i) (passS Lx (filmK Lx T σ j k i).1).2)
def filmP (Lx : Lw) (T : Tb) (σ : Nat → Nat → Int32) (z v : Int32) : Int32 × (Nat → Nat → Int32) := if shP z = 0 then (-2, σ) else if v < 0 then (-7, σ) else if 20 < v then (-7, σ) else (v, (filmK Lx T σ (iN z) (iN v) (iN v)).2)
def sheetP (σ : Nat → Nat → Int32) (z w v : Int32) : Int32 × (Nat → Nat → Int32) := if shP z = 0 then (-2, σ) else if w < -1 then (-2, σ) else if 2 < w then (-2, σ) else if w = -1 then (1, becS σ (iN z) (-1) 0) else if 40 < v then (-2, σ) else if v < 0 then (-14, σ) else (1, becS σ (iN z) w v)
def cellP (σ : Nat → Nat → Int32) (z i v : Int32) : Int32 × (Nat → Nat → Int32) := if shP z = 0 then (-2, σ) else if σ (34 + iN z) 1 = -1 then (-11, σ) else if i < 0 then (-12, σ) else if i < σ (34 + iN z) 2 then (1, setS σ (iN z) i v) else (-12, σ)
def byF (ν : Nat → Int32) (sz z : Int32) : Nat → Nat → Int32 → Tb → Int32 × Tb
  | 0, _, c, T => (c, T)
  | f + 1, i, c, T => if z + 3 * nI i < 0 then (-12, T) else if sz - 3 < z + 3 * nI i then (-12, T) else if (guestP T (ν (iN (z + 3 * nI i))) (ν (iN (z + 3 * nI i) + 1)) (ν (iN (z + 3 * nI i) + 2))).1 < 0 then byF ν sz z f (i + 1) c (guestP T (ν (iN (z + 3 * nI i))) (ν (iN (z + 3 * nI i) + 1)) (ν (iN (z + 3 * nI i) + 2))).2 else byF ν sz z f (i + 1) (c + 1) (guestP T (ν (iN (z + 3 * nI i))) (ν (iN (z + 3 * nI i) + 1)) (ν (iN (z + 3 * nI i) + 2))).2
def byP (so si : Nat → Int32) (nu : Nat → Nat → Int32) (T : Tb) (z w v q : Int32) : Int32 × Tb := if shP z = 0 then (-2, T) else if w < 0 then (-2, T) else if 2 < w then (-2, T) else if q < 0 then (-2, T) else if 6 < q then (-2, T) else if so (iN z) = -1 then (-11, T) else if so (iN z) = w then byF (nu (iN z)) (si (iN z)) v (iN q) 0 0 T else (-13, T)
theorem by_at {x : Int32} {k : Nat} (hk : k ≤ 40) (h0 : ¬ x < 0) (h : ¬ nI k - 3 < x) : ∃ t, t + 3 ≤ k ∧ x = nI t := by
  obtain ⟨t, ht, rfl⟩ := nI_of h0
  have low : nI k - 3 < 0 → False := fun z => h (Int32.lt_of_lt_of_le z (Int32.not_lt.mp h0))
  rcases Nat.lt_or_ge k 3 with h3 | h3
  · exact absurd (show nI k - 3 < 0 by
      have e : k = 0 ∨ k = 1 ∨ k = 2 := by omega
      rcases e with rfl | rfl | rfl <;> decide) low
  · obtain ⟨j, rfl⟩ : ∃ j, k = j + 3 := ⟨k - 3, by omega⟩
    have e : nI (j + 3) - 3 = nI j := by rw [← nI_add, show (nI 3 : Int32) = 3 from rfl]; exact Int32.add_sub_cancel _ _
    rw [e] at h
    exact ⟨t, by have := mi_nlt h (by omega) ht; omega, rfl⟩
abbrev rm_yJ7_fill_53178 : Room := { frames := 0, cells := 0, slots := 0, locals := 0 }
set_option maxHeartbeats 800000 in
set_option maxRecDepth 100000 in
theorem kJ7_fill_53178 {l : Launch} {D : va_G} {cs : Nat → ClassId} {ad : Nat → Nat} {n : Nat} {ρ σ : Nat → Nat → Int32} {TT τ : Nat → Nat → Nat → Int32} {sz : Nat} {j : Nat} {z0 : Int32} (hj : j < 4) : XMv l yJ7_fill_53178 cJ7_fill_53178 4 rm_yJ7_fill_53178 [.ref (ad (34 + j + 4)), .int z0] D cs ad n ρ TT τ σ sz (fun (u : Nat → Nat → Int32) => u = va_up σ (34 + j + 4) (fillR (σ (34 + j + 4)) z0 40)) (fun u : Nat → Nat → Int32 => xent ad cs n ρ TT τ u) := by
  refine gw_stV (Ff := fun u : Nat → Nat → Int32 => xent ad cs n ρ TT τ u) (own := RJ7) (by decide +kernel) rfl (Nat.le_of_ble_eq_true rfl) ?_
  intro p e s m ar below meth c A Q F hE hsz hW hret ls hl
  obtain ⟨hx, hb, hml, hown, hts⟩ := id F
  have hl : lv_has ls 4 [(0, .ref (ad (34 + j + 4))), (1, .int z0)] := hl
  refine lv_iconst (v := 0) hx hb dJ7_fill_53178_0 (by decide) ?_
  refine lv_istore_n (lv' := [(2, .int 0), (0, .ref (ad (34 + j + 4))), (1, .int z0)]) hx hb dJ7_fill_53178_1 rfl hl (by decide) rfl (fun ls hl => ?_)
  refine lv_aload_n hx hb dJ7_fill_53178_2 rfl (lv_at hl 1 rfl) ?_
  refine xr_Nl (j := j) (by omega) F hW dJ7_fill_53178_3 ?_
  refine lv_istore_n (lv' := [(3, .int 40), (2, .int 0), (0, .ref (ad (34 + j + 4))), (1, .int z0)]) hx hb dJ7_fill_53178_4 rfl hl (by decide) rfl (fun ls hl => ?_)
  have L5 : ∀ (k : Nat) (i : Nat) (σ' : Nat → Nat → Int32), (i ≤ 40) → (41 ≤ i + k) → (σ' = va_up σ (34 + j + 4) (fillR (σ (34 + j + 4)) z0 i)) → ∀ (H : Heap) (locs : List Loc) (ls : Array Slot), XW D cs ad n ρ TT τ σ' A s s.heap H locs → lv_has ls 4 [(2, .int (nI i)), (3, .int 40), (0, .ref (ad (34 + j + 4))), (1, .int z0)] → W p l e rm_yJ7_fill_53178 s m ar below meth c H locs 0 0 Q (F0 m 5 ls []) := by
    intro k
    induction k with
    | zero => intro i σ' h1 h2 hσ; exact absurd h2 (by omega)
    | succ k ih5 =>
      intro i σ' h1 h2 hσ H locs ls hW hl
      refine lv_iload_n hx hb dJ7_fill_53178_5 rfl (lv_at hl 0 rfl) ?_
      refine lv_iload_n hx hb dJ7_fill_53178_6 rfl (lv_at hl 1 rfl) ?_
      refine lv_icmp_ge (tgt := 20) hx hb dJ7_fill_53178_7 (by decide) (fun c_1 => ?_) (fun c_1 => ?_)
      ·
        obtain rfl : i = 40 := by have := mi_le (a := 40) (b := i) c_1 (by decide) (by omega); omega
        exact hret σ' _ _ _ _ _ hW rfl (hσ) dJ7_fill_53178_20
      ·
        have hlt : i < 40 := mi_nle (a := 40) (b := i) c_1 (by decide) (by omega)
        refine lv_aload_n hx hb dJ7_fill_53178_10 rfl (lv_at hl 2 rfl) ?_
        refine lv_iload_n hx hb dJ7_fill_53178_11 rfl (lv_at hl 0 rfl) ?_
        refine lv_iload_n hx hb dJ7_fill_53178_12 rfl (lv_at hl 3 rfl) ?_
        refine xw_Ne (j := j) (by omega) F hW (vp_in_nI (by omega) (by decide)) dJ7_fill_53178_13 (fun H locs hW => ?_)
        refine lv_iinc (v := nI (i + 1)) (lv' := [(2, .int (nI (i + 1))), (3, .int 40), (0, .ref (ad (34 + j + 4))), (1, .int z0)]) hx hb dJ7_fill_53178_14 hl (k := 0) rfl (nI_1 i) (by decide) rfl (fun ls hl => ?_)
        refine lv_goto (tgt := 5) hx hb dJ7_fill_53178_17 (by decide) ?_
        exact ih5 (i + 1) _ (by omega) (by omega) (by rw [hσ, nI_clamp (by omega)]; unfold upR; rw [va_up_self, bx_uu]; rfl) _ _ _ hW (lv_sub hl [0, 1, 2, 3] rfl)
  exact L5 41 0 _ (Nat.zero_le _) (by omega) ((va_up_eta _ _).symm) _ _ _ hW (lv_sub hl [1, 0, 2, 3] rfl)
abbrev rm_yX3_become : Room := { frames := 1, cells := 0, slots := 0, locals := 23 }
set_option maxHeartbeats 800000 in
set_option maxRecDepth 100000 in
theorem kX3_become {l : Launch} {D : va_G} {cs : Nat → ClassId} {ad : Nat → Nat} {n : Nat} {ρ σ : Nat → Nat → Int32} {TT τ : Nat → Nat → Nat → Int32} {sz : Nat} {j : Nat} {z0 z1 : Int32} (hj : j < 4) : XMv l yX3_become cX3_become 3 rm_yX3_become [.ref (ad (34 + j)), .int z0, .int z1] D cs ad n ρ TT τ σ sz (fun (u : Nat → Nat → Int32) => u = becS σ j z0 z1) (fun u : Nat → Nat → Int32 => xent ad cs n ρ TT τ u) := by
  refine gw_stV (Ff := fun u : Nat → Nat → Int32 => xent ad cs n ρ TT τ u) (own := RX3) (by decide +kernel) rfl (Nat.le_of_ble_eq_true rfl) ?_
  intro p e s m ar below meth c A Q F hE hsz hW hret ls hl
  obtain ⟨hx, hb, hml, hown, hts⟩ := id F
  have hl : lv_has ls 3 [(0, .ref (ad (34 + j))), (1, .int z0), (2, .int z1)] := hl
  refine lv_aload_n hx hb dX3_become_0 rfl (lv_at hl 0 rfl) ?_
  refine lv_iload_n hx hb dX3_become_1 rfl (lv_at hl 1 rfl) ?_
  refine xw_S (j := j) (by omega) F hW 1 (by decide) fl_RX3_15 dX3_become_2 (fun H locs hW => ?_)
  refine lv_aload_n hx hb dX3_become_5 rfl (lv_at hl 0 rfl) ?_
  refine lv_iload_n hx hb dX3_become_6 rfl (lv_at hl 2 rfl) ?_
  refine xw_S (j := j) (by omega) F hW 2 (by decide) fl_RX3_19 dX3_become_7 (fun H locs hW => ?_)
  refine lv_aload_n hx hb dX3_become_10 rfl (lv_at hl 0 rfl) ?_
  refine xr_S (j := j) (by omega) F hW 0 (by decide) rfl fl_RX3_9 dX3_become_11 ?_
  refine lv_iconst (v := 0) hx hb dX3_become_14 (by decide) ?_
  refine gw_callSv (As := [.ref (ad (34 + j + 4)), .int 0]) (rest := []) F hl.1 hW (fun _ _ hw => va_Nw.warmM hw hE) XE_E (kJ7_fill_53178 (j := j) (by omega)) pd_yJ7_fill_53178 ml_RX3_22 st_yJ7_fill_53178 ini_RJ7 cd_yJ7_fill_53178 ⟨rfl, rfl⟩ ⟨Nat.le_of_ble_eq_true rfl, Nat.le_of_ble_eq_true rfl⟩ rfl rfl (Nat.le_of_ble_eq_true rfl) ⟨Nat.zero_le _, Nat.zero_le _⟩ dX3_become_15 (fun σ_1 H locs hp hW _ _ => ?_)
  subst hp
  exact hret (va_up (upR (upR σ (34 + j) 1 z0) (34 + j) 2 z1) (34 + j + 4) (fillR ((upR (upR σ (34 + j) 1 z0) (34 + j) 2 z1) (34 + j + 4)) 0 40)) _ _ _ _ _ hW rfl (rfl) dX3_become_18
abbrev rm_yX3_set : Room := { frames := 0, cells := 0, slots := 0, locals := 0 }
set_option maxHeartbeats 800000 in
set_option maxRecDepth 100000 in
theorem kX3_set {l : Launch} {D : va_G} {cs : Nat → ClassId} {ad : Nat → Nat} {n : Nat} {ρ σ : Nat → Nat → Int32} {TT τ : Nat → Nat → Nat → Int32} {sz : Nat} {j kt : Nat} {z0 z1 : Int32} (hj : j < 4) (hkt : kt ≤ 40) (hkz : σ (34 + j) 2 = nI kt) : XMv l yX3_set cX3_set 3 rm_yX3_set [.ref (ad (34 + j)), .int z0, .int z1] D cs ad n ρ TT τ σ sz (fun (u : Nat → Nat → Int32) => u = setS σ j z0 z1) (fun u : Nat → Nat → Int32 => xent ad cs n ρ TT τ u) := by
  refine gw_stV (Ff := fun u : Nat → Nat → Int32 => xent ad cs n ρ TT τ u) (own := RX3) (by decide +kernel) rfl (Nat.le_of_ble_eq_true rfl) ?_
  intro p e s m ar below meth c A Q F hE hsz hW hret ls hl
  obtain ⟨hx, hb, hml, hown, hts⟩ := id F
  have hl : lv_has ls 3 [(0, .ref (ad (34 + j))), (1, .int z0), (2, .int z1)] := hl
  refine lv_iload_n hx hb dX3_set_0 rfl (lv_at hl 1 rfl) ?_
  refine lv_if_lt (tgt := 44) hx hb dX3_set_1 (by decide) (fun c_1 => ?_) (fun c_1 => ?_)
  ·
    exact hret σ _ _ _ _ _ hW rfl (by unfold setS; rw [if_pos c_1]) dX3_set_44
  ·
    refine lv_iload_n hx hb dX3_set_4 rfl (lv_at hl 1 rfl) ?_
    refine lv_aload_n hx hb dX3_set_5 rfl (lv_at hl 0 rfl) ?_
    refine xr_S (j := j) (by omega) F hW 2 (by decide) rfl fl_RX3_19 dX3_set_6 ?_
    refine lv_icmp_ge (tgt := 44) hx hb dX3_set_9 (by decide) (fun c_2 => ?_) (fun c_2 => ?_)
    ·
      exact hret σ _ _ _ _ _ hW rfl (by unfold setS; rw [if_neg c_1, if_pos c_2]) dX3_set_44
    ·
      obtain ⟨qi, hqi, rfl⟩ := ge_nat (N := kt) c_1 (by rw [← hkz]; exact c_2) (by omega)
      refine lv_aload_n hx hb dX3_set_12 rfl (lv_at hl 0 rfl) ?_
      refine xr_S (j := j) (by omega) F hW 0 (by decide) rfl fl_RX3_9 dX3_set_13 ?_
      refine lv_iload_n hx hb dX3_set_16 rfl (lv_at hl 1 rfl) ?_
      refine lv_aload_n hx hb dX3_set_17 rfl (lv_at hl 0 rfl) ?_
      refine xr_S (j := j) (by omega) F hW 1 (by decide) rfl fl_RX3_15 dX3_set_18 ?_
      refine lv_if_ne (tgt := 29) hx hb dX3_set_21 (by decide) (fun c_3 => ?_) (fun c_3 => ?_)
      ·
        refine lv_aload_n hx hb dX3_set_29 rfl (lv_at hl 0 rfl) ?_
        refine xr_S (j := j) (by omega) F hW 1 (by decide) rfl fl_RX3_15 dX3_set_30 ?_
        refine lv_iconst (v := 1) hx hb dX3_set_33 (by decide) ?_
        refine lv_icmp_ne (tgt := 42) hx hb dX3_set_34 (by decide) (fun c_4 => ?_) (fun c_4 => ?_)
        ·
          refine lv_iload_n hx hb dX3_set_42 rfl (lv_at hl 2 rfl) ?_
          refine xw_Ne (j := j) (by omega) F hW (vp_in_nI (by omega) (by decide)) dX3_set_43 (fun H locs hW => ?_)
          exact hret (upR σ (34 + j + 4) ((nI qi).toNatClampNeg) z1) _ _ _ _ _ hW rfl (by unfold setS; rw [if_neg c_1, if_neg c_2, if_neg c_3, if_neg c_4]; rfl) dX3_set_44
        ·
          refine lv_iload_n hx hb dX3_set_37 rfl (lv_at hl 2 rfl) ?_
          refine lv_i2s hx hb dX3_set_38 rfl ?_
          refine lv_goto (tgt := 43) hx hb dX3_set_39 (by decide) ?_
          refine xw_Ne (j := j) (by omega) F hW (vp_in_nI (by omega) (by decide)) dX3_set_43 (fun H locs hW => ?_)
          exact hret (upR σ (34 + j + 4) ((nI qi).toNatClampNeg) z1.toInt16.toInt32) _ _ _ _ _ hW rfl (by unfold setS; rw [if_neg c_1, if_neg c_2, if_neg c_3, if_pos c_4]; rfl) dX3_set_44
      ·
        refine lv_iload_n hx hb dX3_set_24 rfl (lv_at hl 2 rfl) ?_
        refine lv_i2b hx hb dX3_set_25 rfl ?_
        refine lv_goto (tgt := 43) hx hb dX3_set_26 (by decide) ?_
        refine xw_Ne (j := j) (by omega) F hW (vp_in_nI (by omega) (by decide)) dX3_set_43 (fun H locs hW => ?_)
        exact hret (upR σ (34 + j + 4) ((nI qi).toNatClampNeg) z1.toInt8.toInt32) _ _ _ _ _ hW rfl (by unfold setS; rw [if_neg c_1, if_neg c_2, if_pos c_3]; rfl) dX3_set_44
abbrev rm_yX7_film : Room := { frames := 6, cells := 0, slots := 0, locals := 139 }
set_option maxHeartbeats 800000 in
set_option maxRecDepth 100000 in
theorem kX7_film {l : Launch} {D : va_G} {cs : Nat → ClassId} {ad : Nat → Nat} {n : Nat} {ρ σ : Nat → Nat → Int32} {TT τ : Nat → Nat → Nat → Int32} {sz : Nat} {z v0 : Int32} (hO : okO n TT τ σ) : XMi l yX7_film cX7_film 4 FieldType.int rm_yX7_film [.ref (ad 0), .int z, .int v0] D cs ad n ρ TT τ σ sz (fun (r : Int32) (u : (Nat → Nat → Int32) × Tb × (Nat → Nat → Int32)) => r = (filmP (xLx n τ) (TT 0) σ z v0).1 ∧ u.2.2 = (filmP (xLx n τ) (TT 0) σ z v0).2) (fun u : (Nat → Nat → Int32) × Tb × (Nat → Nat → Int32) => xent ad cs n u.1 (va_up TT 1 u.2.1) τ u.2.2) := by
  refine gw_stI (Ff := fun u : (Nat → Nat → Int32) × Tb × (Nat → Nat → Int32) => xent ad cs n u.1 (va_up TT 1 u.2.1) τ u.2.2) (own := RX7) (by decide +kernel) rfl (Nat.le_of_ble_eq_true rfl) ?_
  intro p e s m ar below meth c A Q F hE hsz hW hret ls hl
  obtain ⟨hx, hb, hml, hown, hts⟩ := id F
  have hl : lv_has ls 4 [(0, .ref (ad 0)), (1, .int z), (2, .int v0)] := hl
  obtain ⟨hn1, hn6, hT, hX, hc, hnum⟩ := hO
  have hs6 := hT.1
  have hsN := hT.2.1
  have ht0 : (TT 0 6 3).toNatClampNeg < n := hT.2.2.1
  have hW : XW D cs ad n ρ (va_up TT 1 (TT 1)) τ σ A s s.heap s.heap [] := by rw [va_up_eta]; exact hW
  refine lv_iload_n hx hb dX7_film_0 rfl (lv_at hl 1 rfl) ?_
  refine gw_callP (As := [.int z]) (rest := []) F hl.1 (kX7_isSheet) pd_yX7_isSheet ml_RX7_251 st_yX7_isSheet ini_RX7 cd_yX7_isSheet ⟨rfl, rfl⟩ ⟨Nat.le_of_ble_eq_true rfl, Nat.le_of_ble_eq_true rfl⟩ rfl rfl (Nat.le_of_ble_eq_true rfl) ⟨Nat.zero_le _, Nat.zero_le _⟩ dX7_film_1 ?_
  refine lv_as (z := shP z) rfl ?_
  refine lv_if_ne (tgt := 10) hx hb dX7_film_4 (by decide) (fun c_1 => ?_) (fun c_1 => ?_)
  ·
    obtain ⟨q, hq, rfl⟩ := sh_nat c_1; have hiq : iN (nI q) = q := iN_nI (by omega)
    refine lv_iload_n hx hb dX7_film_10 rfl (lv_at hl 2 rfl) ?_
    refine lv_if_lt (tgt := 20) hx hb dX7_film_11 (by decide) (fun c_2 => ?_) (fun c_2 => ?_)
    ·
      refine lv_bipush (v := (-7)) hx hb dX7_film_20 (by decide) ?_
      exact hret (-7) (ρ, (TT 1), σ) _ _ _ _ _ hW rfl rfl (by unfold filmP; rw [if_neg c_1, if_pos c_2]; exact ⟨rfl, rfl⟩) dX7_film_22
    ·
      refine lv_iload_n hx hb dX7_film_14 rfl (lv_at hl 2 rfl) ?_
      refine lv_bipush (v := 20) hx hb dX7_film_15 (by decide) ?_
      refine lv_icmp_le (tgt := 23) hx hb dX7_film_17 (by decide) (fun c_3 => ?_) (fun c_3 => ?_)
      ·
        have c17n : ¬ 20 < v0 := (by rw [← i32_le]; exact c_3); obtain ⟨kt, hkt20, rfl⟩ : ∃ w, w ≤ 20 ∧ v0 = nI w := nI_of2 rfl c_2 c_3; have hkt : kt ≤ 40 := (by omega); have hik : iN (nI kt) = kt := iN_nI (by omega)
        refine lv_aload_n hx hb dX7_film_23 rfl (lv_at hl 0 rfl) ?_
        refine gw_callVv (As := []) (rest := []) F hl.1 hW (fun _ _ hw => va_Nw.warmM hw hE) XE_E (by omega) xe_0 rfl (kX7_think (TT := TT) (X := (TT 1)) hT) pd_yX7_think ml_RX7_207 im_yX7_think se_yX7_think ini_RX7 cd_yX7_think ⟨rfl, rfl⟩ ⟨Nat.le_of_ble_eq_true rfl, Nat.le_of_ble_eq_true rfl⟩ rfl rfl (Nat.le_of_ble_eq_true rfl) ⟨Nat.zero_le _, Nat.zero_le _⟩ dX7_film_24 (fun C_4 H locs hp hW _ _ => ?_)
        have hC_C_4 : EqT C_4 (TT 0) := hp
        have hCo_C_4 : okT n C_4 := hC_C_4.symm.ok hT
        have hCs_C_4 : seatsN C_4 = seatsN (TT 0) := hC_C_4.seats
        refine lv_aload_n hx hb dX7_film_27 rfl (lv_at hl 0 rfl) ?_
        refine xr_O F hW 9 (by decide) rfl fl_RX7_62 dX7_film_28 ?_
        refine lv_iload_n hx hb dX7_film_31 rfl (lv_at hl 1 rfl) ?_
        refine xr_San (q := q) rfl (by omega) F hW dX7_film_32 ?_
        refine lv_iconst (v := 0) hx hb dX7_film_33 (by decide) ?_
        refine lv_iload_n hx hb dX7_film_34 rfl (lv_at hl 2 rfl) ?_
        refine gw_callVv (As := [.int 0, .int (nI kt)]) (rest := []) F hl.1 hW (fun _ _ hw => va_Nw.warmM hw hE) XE_E (by omega) (xe_S (j := q) (by omega)) rfl (kX3_become (j := q) (by omega)) pd_yX3_become ml_RX7_254 im_yX3_become se_yX3_become ini_RX3 cd_yX3_become ⟨rfl, rfl⟩ ⟨Nat.le_of_ble_eq_true rfl, Nat.le_of_ble_eq_true rfl⟩ rfl rfl (Nat.le_of_ble_eq_true rfl) ⟨Nat.zero_le _, Nat.zero_le _⟩ dX7_film_35 (fun σ_5 H locs hp hW _ _ => ?_)
        subst hp
        refine lv_iconst (v := 0) hx hb dX7_film_38 (by decide) ?_
        refine lv_istore_n (lv' := [(3, .int 0), (0, .ref (ad 0)), (1, .int (nI q)), (2, .int (nI kt))]) hx hb dX7_film_39 rfl hl (by decide) rfl (fun ls hl => ?_)
        have L40 : ∀ (k : Nat) (i : Nat) (ρ' : Nat → Nat → Int32) (X : Tb) (σ' : Nat → Nat → Int32), (i ≤ kt) → (kt + 1 ≤ i + k) → (okT n X) → (EqT X (filmK (xLx n τ) (TT 0) σ q kt i).1) → (σ' = (filmK (xLx n τ) (TT 0) σ q kt i).2) → (σ' (34 + q) 2 = nI kt) → ∀ (H : Heap) (locs : List Loc) (ls : Array Slot), XW D cs ad n ρ' (va_up TT 1 X) τ σ' A s s.heap H locs → lv_has ls 4 [(3, .int (nI i)), (0, .ref (ad 0)), (1, .int (nI q)), (2, .int (nI kt))] → W p l e rm_yX7_film s m ar below meth c H locs 0 0 Q (F0 m 40 ls []) := by
          intro k
          induction k with
          | zero => intro i ρ' X σ' h1 h2 hX1 hXE hσ hz2; exact absurd h2 (by omega)
          | succ k ih40 =>
            intro i ρ' X σ' h1 h2 hX1 hXE hσ hz2 H locs ls hW hl
            refine lv_iload_n hx hb dX7_film_40 rfl (lv_at hl 0 rfl) ?_
            refine lv_iload_n hx hb dX7_film_41 rfl (lv_at hl 3 rfl) ?_
            refine lv_icmp_ge (tgt := 68) hx hb dX7_film_42 (by decide) (fun c_6 => ?_) (fun c_6 => ?_)
            ·
              obtain rfl : kt = i := by have := mi_le c_6 (by omega) (by omega); omega
              refine lv_iload_n hx hb dX7_film_68 rfl (lv_at hl 3 rfl) ?_
              exact hret (nI kt) (ρ', X, σ') _ _ _ _ _ hW rfl rfl (by unfold filmP; rw [if_neg c_1, if_neg c_2, if_neg c17n, hiq, hik]; exact ⟨rfl, hσ⟩) dX7_film_69
            ·
              have hlt : i < kt := mi_nle c_6 (by omega) (by omega)
              refine lv_aload_n hx hb dX7_film_45 rfl (lv_at hl 1 rfl) ?_
              refine xr_O F hW 9 (by decide) rfl fl_RX7_62 dX7_film_46 ?_
              refine lv_iload_n hx hb dX7_film_49 rfl (lv_at hl 2 rfl) ?_
              refine xr_San (q := q) rfl (by omega) F hW dX7_film_50 ?_
              refine lv_iload_n hx hb dX7_film_51 rfl (lv_at hl 0 rfl) ?_
              refine lv_aload_n hx hb dX7_film_52 rfl (lv_at hl 1 rfl) ?_
              refine xr_O F hW 6 (by decide) rfl fl_RX7_54 dX7_film_53 ?_
              refine gw_callVi (As := []) (rest := [.int (nI i), .ref (ad (34 + q))]) F hl.1 hW (fun _ _ hw => va_Nw.warmM hw hE) XE_E (by omega) (xe_T (b := 1) (by decide)) rfl (kX4_pass (b := 1) (by decide) hX1 hX) pd_yX4_pass ml_RX7_192 im_yX4_pass se_yX4_pass ini_RX4 cd_yX4_pass ⟨rfl, rfl⟩ ⟨Nat.le_of_ble_eq_true rfl, Nat.le_of_ble_eq_true rfl⟩ rfl rfl (Nat.le_of_ble_eq_true rfl) ⟨Nat.zero_le _, Nat.zero_le _⟩ dX7_film_56 (fun r u H locs hp hW _ _ => ?_)
              obtain ⟨ρ_7, TT_8⟩ := u
              obtain ⟨rfl, hp⟩ := hp
              have hp : TT_8 = va_up TT 1 (passS (xLx n τ) X).1 := hp.trans (bx_uu _ _ _ _)
              subst hp
              refine lv_as (z := (passS (xLx n τ) X).2) rfl ?_
              refine gw_callVv (As := [.int (nI i), .int ((passS (xLx n τ) X).2)]) (rest := []) F hl.1 hW (fun _ _ hw => va_Nw.warmM hw hE) XE_E (by omega) (xe_S (j := q) (by omega)) rfl (kX3_set (j := q) (kt := kt) (by omega) hkt hz2) pd_yX3_set ml_RX7_257 im_yX3_set se_yX3_set ini_RX3 cd_yX3_set ⟨rfl, rfl⟩ ⟨Nat.le_of_ble_eq_true rfl, Nat.le_of_ble_eq_true rfl⟩ rfl rfl (Nat.le_of_ble_eq_true rfl) ⟨Nat.zero_le _, Nat.zero_le _⟩ dX7_film_59 (fun σ_9 H locs hp hW _ _ => ?_)
              subst hp
              refine lv_iinc (v := nI (i + 1)) (lv' := [(3, .int (nI (i + 1))), (0, .ref (ad 0)), (1, .int (nI q)), (2, .int (nI kt))]) hx hb dX7_film_62 hl (k := 0) rfl (nI_1 i) (by decide) rfl (fun ls hl => ?_)
              refine lv_goto (tgt := 40) hx hb dX7_film_65 (by decide) ?_
              exact ih40 (i + 1) _ _ _ (by omega) (by omega) ((ok_pass (Lx := xLx n τ) hX1).1) ((hXE.pass hX1 (xLx n τ)).1) (by show _ = setS (filmK (xLx n τ) (TT 0) σ q kt i).2 q (nI i) (passS (xLx n τ) (filmK (xLx n τ) (TT 0) σ q kt i).1).2; rw [← hσ, ← (hXE.pass hX1 (xLx n τ)).2]) (by rw [setS_row (by omega)]; exact hz2) _ _ _ hW (lv_sub hl [0, 1, 2, 3] rfl)
        exact L40 (kt + 1) 0 _ _ _ (Nat.zero_le _) (by omega) (hCo_C_4) (hC_C_4) (rfl) (show becS σ q 0 (nI kt) (34 + q) 2 = nI kt by rw [becS_so]; exact pk_us) _ _ _ hW (lv_sub hl [0, 1, 2, 3] rfl)
      ·
        refine lv_bipush (v := (-7)) hx hb dX7_film_20 (by decide) ?_
        exact hret (-7) (ρ, (TT 1), σ) _ _ _ _ _ hW rfl rfl (by unfold filmP; rw [if_neg c_1, if_neg c_2, if_pos (Int32.not_le.mp c_3)]; exact ⟨rfl, rfl⟩) dX7_film_22
  ·
    refine lv_bipush (v := (-2)) hx hb dX7_film_7 (by decide) ?_
    exact hret (-2) (ρ, (TT 1), σ) _ _ _ _ _ hW rfl rfl (by unfold filmP; rw [if_pos c_1]; exact ⟨rfl, rfl⟩) dX7_film_9
abbrev rm_yX7_sheet : Room := { frames := 2, cells := 0, slots := 0, locals := 45 }
set_option maxHeartbeats 800000 in
set_option maxRecDepth 100000 in
theorem kX7_sheet {l : Launch} {D : va_G} {cs : Nat → ClassId} {ad : Nat → Nat} {n : Nat} {ρ σ : Nat → Nat → Int32} {TT τ : Nat → Nat → Nat → Int32} {sz : Nat} {z w v0 : Int32}  : XMi l yX7_sheet cX7_sheet 4 FieldType.int rm_yX7_sheet [.ref (ad 0), .int z, .int w, .int v0] D cs ad n ρ TT τ σ sz (fun (r : Int32) (u : Nat → Nat → Int32) => r = (sheetP σ z w v0).1 ∧ u = (sheetP σ z w v0).2) (fun u : Nat → Nat → Int32 => xent ad cs n ρ TT τ u) := by
  refine gw_stI (Ff := fun u : Nat → Nat → Int32 => xent ad cs n ρ TT τ u) (own := RX7) (by decide +kernel) rfl (Nat.le_of_ble_eq_true rfl) ?_
  intro p e s m ar below meth c A Q F hE hsz hW hret ls hl
  obtain ⟨hx, hb, hml, hown, hts⟩ := id F
  have hl : lv_has ls 4 [(0, .ref (ad 0)), (1, .int z), (2, .int w), (3, .int v0)] := hl
  refine lv_iload_n hx hb dX7_sheet_0 rfl (lv_at hl 1 rfl) ?_
  refine gw_callP (As := [.int z]) (rest := []) F hl.1 (kX7_isSheet) pd_yX7_isSheet ml_RX7_251 st_yX7_isSheet ini_RX7 cd_yX7_isSheet ⟨rfl, rfl⟩ ⟨Nat.le_of_ble_eq_true rfl, Nat.le_of_ble_eq_true rfl⟩ rfl rfl (Nat.le_of_ble_eq_true rfl) ⟨Nat.zero_le _, Nat.zero_le _⟩ dX7_sheet_1 ?_
  refine lv_as (z := shP z) rfl ?_
  refine lv_if_eq (tgt := 17) hx hb dX7_sheet_4 (by decide) (fun c_1 => ?_) (fun c_1 => ?_)
  ·
    refine lv_bipush (v := (-2)) hx hb dX7_sheet_17 (by decide) ?_
    exact hret (-2) σ _ _ _ _ _ hW rfl rfl (by unfold sheetP; rw [if_pos c_1]; exact ⟨rfl, rfl⟩) dX7_sheet_19
  ·
    obtain ⟨q, hq, rfl⟩ := sh_nat c_1; have hiq : iN (nI q) = q := iN_nI (by omega)
    refine lv_iload_n hx hb dX7_sheet_7 rfl (lv_at hl 2 rfl) ?_
    refine lv_iconst (v := (-1)) hx hb dX7_sheet_8 (by decide) ?_
    refine lv_icmp_lt (tgt := 17) hx hb dX7_sheet_9 (by decide) (fun c_2 => ?_) (fun c_2 => ?_)
    ·
      refine lv_bipush (v := (-2)) hx hb dX7_sheet_17 (by decide) ?_
      exact hret (-2) σ _ _ _ _ _ hW rfl rfl (by unfold sheetP; rw [if_neg c_1, if_pos c_2]; exact ⟨rfl, rfl⟩) dX7_sheet_19
    ·
      refine lv_iload_n hx hb dX7_sheet_12 rfl (lv_at hl 2 rfl) ?_
      refine lv_iconst (v := 2) hx hb dX7_sheet_13 (by decide) ?_
      refine lv_icmp_le (tgt := 20) hx hb dX7_sheet_14 (by decide) (fun c_3 => ?_) (fun c_3 => ?_)
      ·
        refine lv_iload_n hx hb dX7_sheet_20 rfl (lv_at hl 2 rfl) ?_
        refine lv_iconst (v := (-1)) hx hb dX7_sheet_21 (by decide) ?_
        refine lv_icmp_ne (tgt := 38) hx hb dX7_sheet_22 (by decide) (fun c_4 => ?_) (fun c_4 => ?_)
        ·
          refine lv_iload_n hx hb dX7_sheet_38 rfl (lv_at hl 3 rfl) ?_
          refine lv_bipush (v := 40) hx hb dX7_sheet_39 (by decide) ?_
          refine lv_icmp_le (tgt := 47) hx hb dX7_sheet_41 (by decide) (fun c_5 => ?_) (fun c_5 => ?_)
          ·
            refine lv_iload_n hx hb dX7_sheet_47 rfl (lv_at hl 3 rfl) ?_
            refine lv_if_ge (tgt := 54) hx hb dX7_sheet_48 (by decide) (fun c_6 => ?_) (fun c_6 => ?_)
            ·
              refine lv_aload_n hx hb dX7_sheet_54 rfl (lv_at hl 0 rfl) ?_
              refine xr_O F hW 9 (by decide) rfl fl_RX7_62 dX7_sheet_55 ?_
              refine lv_iload_n hx hb dX7_sheet_58 rfl (lv_at hl 1 rfl) ?_
              refine xr_San (q := q) rfl (by omega) F hW dX7_sheet_59 ?_
              refine lv_iload_n hx hb dX7_sheet_60 rfl (lv_at hl 2 rfl) ?_
              refine lv_iload_n hx hb dX7_sheet_61 rfl (lv_at hl 3 rfl) ?_
              refine gw_callVv (As := [.int w, .int v0]) (rest := []) F hl.1 hW (fun _ _ hw => va_Nw.warmM hw hE) XE_E (by omega) (xe_S (j := q) (by omega)) rfl (kX3_become (j := q) (by omega)) pd_yX3_become ml_RX7_254 im_yX3_become se_yX3_become ini_RX3 cd_yX3_become ⟨rfl, rfl⟩ ⟨Nat.le_of_ble_eq_true rfl, Nat.le_of_ble_eq_true rfl⟩ rfl rfl (Nat.le_of_ble_eq_true rfl) ⟨Nat.zero_le _, Nat.zero_le _⟩ dX7_sheet_62 (fun σ_7 H locs hp hW _ _ => ?_)
              subst hp
              refine lv_iconst (v := 1) hx hb dX7_sheet_65 (by decide) ?_
              exact hret 1 (becS σ q w v0) _ _ _ _ _ hW rfl rfl (by unfold sheetP; rw [if_neg c_1, if_neg c_2, if_neg (Int32.not_lt.mpr c_3), if_neg c_4, if_neg (Int32.not_lt.mpr c_5), if_neg (Int32.not_lt.mpr c_6), hiq]; exact ⟨rfl, rfl⟩) dX7_sheet_66
            ·
              refine lv_bipush (v := (-14)) hx hb dX7_sheet_51 (by decide) ?_
              exact hret (-14) σ _ _ _ _ _ hW rfl rfl (by unfold sheetP; rw [if_neg c_1, if_neg c_2, if_neg (Int32.not_lt.mpr c_3), if_neg c_4, if_neg (Int32.not_lt.mpr c_5), if_pos (Int32.not_le.mp c_6)]; exact ⟨rfl, rfl⟩) dX7_sheet_53
          ·
            refine lv_bipush (v := (-2)) hx hb dX7_sheet_44 (by decide) ?_
            exact hret (-2) σ _ _ _ _ _ hW rfl rfl (by unfold sheetP; rw [if_neg c_1, if_neg c_2, if_neg (Int32.not_lt.mpr c_3), if_neg c_4, if_pos (Int32.not_le.mp c_5)]; exact ⟨rfl, rfl⟩) dX7_sheet_46
        ·
          refine lv_aload_n hx hb dX7_sheet_25 rfl (lv_at hl 0 rfl) ?_
          refine xr_O F hW 9 (by decide) rfl fl_RX7_62 dX7_sheet_26 ?_
          refine lv_iload_n hx hb dX7_sheet_29 rfl (lv_at hl 1 rfl) ?_
          refine xr_San (q := q) rfl (by omega) F hW dX7_sheet_30 ?_
          refine lv_iconst (v := (-1)) hx hb dX7_sheet_31 (by decide) ?_
          refine lv_iconst (v := 0) hx hb dX7_sheet_32 (by decide) ?_
          refine gw_callVv (As := [.int (-1), .int 0]) (rest := []) F hl.1 hW (fun _ _ hw => va_Nw.warmM hw hE) XE_E (by omega) (xe_S (j := q) (by omega)) rfl (kX3_become (j := q) (by omega)) pd_yX3_become ml_RX7_254 im_yX3_become se_yX3_become ini_RX3 cd_yX3_become ⟨rfl, rfl⟩ ⟨Nat.le_of_ble_eq_true rfl, Nat.le_of_ble_eq_true rfl⟩ rfl rfl (Nat.le_of_ble_eq_true rfl) ⟨Nat.zero_le _, Nat.zero_le _⟩ dX7_sheet_33 (fun σ_8 H locs hp hW _ _ => ?_)
          subst hp
          refine lv_iconst (v := 1) hx hb dX7_sheet_36 (by decide) ?_
          exact hret 1 (becS σ q (-1) 0) _ _ _ _ _ hW rfl rfl (by unfold sheetP; rw [if_neg c_1, if_neg c_2, if_neg (Int32.not_lt.mpr c_3), if_pos c_4, hiq]; exact ⟨rfl, rfl⟩) dX7_sheet_37
      ·
        refine lv_bipush (v := (-2)) hx hb dX7_sheet_17 (by decide) ?_
        exact hret (-2) σ _ _ _ _ _ hW rfl rfl (by unfold sheetP; rw [if_neg c_1, if_neg c_2, if_pos (Int32.not_le.mp c_3)]; exact ⟨rfl, rfl⟩) dX7_sheet_19
abbrev rm_yX7_cell : Room := { frames := 1, cells := 0, slots := 0, locals := 22 }
set_option maxHeartbeats 800000 in
set_option maxRecDepth 100000 in
theorem kX7_cell {l : Launch} {D : va_G} {cs : Nat → ClassId} {ad : Nat → Nat} {n : Nat} {ρ σ : Nat → Nat → Int32} {TT τ : Nat → Nat → Nat → Int32} {sz : Nat} {z w v0 : Int32} (hSh : okS σ) : XMi l yX7_cell cX7_cell 4 FieldType.int rm_yX7_cell [.ref (ad 0), .int z, .int w, .int v0] D cs ad n ρ TT τ σ sz (fun (r : Int32) (u : Nat → Nat → Int32) => r = (cellP σ z w v0).1 ∧ u = (cellP σ z w v0).2) (fun u : Nat → Nat → Int32 => xent ad cs n ρ TT τ u) := by
  refine gw_stI (Ff := fun u : Nat → Nat → Int32 => xent ad cs n ρ TT τ u) (own := RX7) (by decide +kernel) rfl (Nat.le_of_ble_eq_true rfl) ?_
  intro p e s m ar below meth c A Q F hE hsz hW hret ls hl
  obtain ⟨hx, hb, hml, hown, hts⟩ := id F
  have hl : lv_has ls 4 [(0, .ref (ad 0)), (1, .int z), (2, .int w), (3, .int v0)] := hl
  refine lv_iload_n hx hb dX7_cell_0 rfl (lv_at hl 1 rfl) ?_
  refine gw_callP (As := [.int z]) (rest := []) F hl.1 (kX7_isSheet) pd_yX7_isSheet ml_RX7_251 st_yX7_isSheet ini_RX7 cd_yX7_isSheet ⟨rfl, rfl⟩ ⟨Nat.le_of_ble_eq_true rfl, Nat.le_of_ble_eq_true rfl⟩ rfl rfl (Nat.le_of_ble_eq_true rfl) ⟨Nat.zero_le _, Nat.zero_le _⟩ dX7_cell_1 ?_
  refine lv_as (z := shP z) rfl ?_
  refine lv_if_ne (tgt := 10) hx hb dX7_cell_4 (by decide) (fun c_1 => ?_) (fun c_1 => ?_)
  ·
    obtain ⟨q, hq, rfl⟩ := sh_nat c_1; have hiq : iN (nI q) = q := iN_nI (by omega)
    refine lv_aload_n hx hb dX7_cell_10 rfl (lv_at hl 0 rfl) ?_
    refine xr_O F hW 9 (by decide) rfl fl_RX7_62 dX7_cell_11 ?_
    refine lv_iload_n hx hb dX7_cell_14 rfl (lv_at hl 1 rfl) ?_
    refine xr_San (q := q) rfl (by omega) F hW dX7_cell_15 ?_
    refine xr_S (j := q) (by omega) F hW 1 (by decide) rfl fl_RX7_272 dX7_cell_16 ?_
    refine lv_iconst (v := (-1)) hx hb dX7_cell_19 (by decide) ?_
    refine lv_icmp_ne (tgt := 26) hx hb dX7_cell_20 (by decide) (fun c_2 => ?_) (fun c_2 => ?_)
    ·
      refine lv_iload_n hx hb dX7_cell_26 rfl (lv_at hl 2 rfl) ?_
      refine lv_if_lt (tgt := 43) hx hb dX7_cell_27 (by decide) (fun c_3 => ?_) (fun c_3 => ?_)
      ·
        refine lv_bipush (v := (-12)) hx hb dX7_cell_43 (by decide) ?_
        exact hret (-12) σ _ _ _ _ _ hW rfl rfl (by unfold cellP; rw [if_neg c_1, hiq, if_neg c_2, if_pos c_3]; exact ⟨rfl, rfl⟩) dX7_cell_45
      ·
        refine lv_iload_n hx hb dX7_cell_30 rfl (lv_at hl 2 rfl) ?_
        refine lv_aload_n hx hb dX7_cell_31 rfl (lv_at hl 0 rfl) ?_
        refine xr_O F hW 9 (by decide) rfl fl_RX7_62 dX7_cell_32 ?_
        refine lv_iload_n hx hb dX7_cell_35 rfl (lv_at hl 1 rfl) ?_
        refine xr_San (q := q) rfl (by omega) F hW dX7_cell_36 ?_
        refine xr_S (j := q) (by omega) F hW 2 (by decide) rfl fl_RX7_275 dX7_cell_37 ?_
        refine lv_icmp_lt (tgt := 46) hx hb dX7_cell_40 (by decide) (fun c_4 => ?_) (fun c_4 => ?_)
        ·
          obtain ⟨kt, hkt, hkz⟩ := hSh q hq
          refine lv_aload_n hx hb dX7_cell_46 rfl (lv_at hl 0 rfl) ?_
          refine xr_O F hW 9 (by decide) rfl fl_RX7_62 dX7_cell_47 ?_
          refine lv_iload_n hx hb dX7_cell_50 rfl (lv_at hl 1 rfl) ?_
          refine xr_San (q := q) rfl (by omega) F hW dX7_cell_51 ?_
          refine lv_iload_n hx hb dX7_cell_52 rfl (lv_at hl 2 rfl) ?_
          refine lv_iload_n hx hb dX7_cell_53 rfl (lv_at hl 3 rfl) ?_
          refine gw_callVv (As := [.int w, .int v0]) (rest := []) F hl.1 hW (fun _ _ hw => va_Nw.warmM hw hE) XE_E (by omega) (xe_S (j := q) (by omega)) rfl (kX3_set (j := q) (kt := kt) (by omega) hkt hkz) pd_yX3_set ml_RX7_257 im_yX3_set se_yX3_set ini_RX3 cd_yX3_set ⟨rfl, rfl⟩ ⟨Nat.le_of_ble_eq_true rfl, Nat.le_of_ble_eq_true rfl⟩ rfl rfl (Nat.le_of_ble_eq_true rfl) ⟨Nat.zero_le _, Nat.zero_le _⟩ dX7_cell_54 (fun σ_5 H locs hp hW _ _ => ?_)
          subst hp
          refine lv_iconst (v := 1) hx hb dX7_cell_57 (by decide) ?_
          exact hret 1 (setS σ q w v0) _ _ _ _ _ hW rfl rfl (by unfold cellP; rw [if_neg c_1, hiq, if_neg c_2, if_neg c_3, if_pos c_4]; exact ⟨rfl, rfl⟩) dX7_cell_58
        ·
          refine lv_bipush (v := (-12)) hx hb dX7_cell_43 (by decide) ?_
          exact hret (-12) σ _ _ _ _ _ hW rfl rfl (by unfold cellP; rw [if_neg c_1, hiq, if_neg c_2, if_neg c_3, if_neg c_4]; exact ⟨rfl, rfl⟩) dX7_cell_45
    ·
      refine lv_bipush (v := (-11)) hx hb dX7_cell_23 (by decide) ?_
      exact hret (-11) σ _ _ _ _ _ hW rfl rfl (by unfold cellP; rw [if_neg c_1, hiq, if_pos c_2]; exact ⟨rfl, rfl⟩) dX7_cell_25
  ·
    refine lv_bipush (v := (-2)) hx hb dX7_cell_7 (by decide) ?_
    exact hret (-2) σ _ _ _ _ _ hW rfl rfl (by unfold cellP; rw [if_pos c_1]; exact ⟨rfl, rfl⟩) dX7_cell_9
abbrev rm_yX7_image : Room := { frames := 2, cells := 0, slots := 0, locals := 43 }
set_option maxHeartbeats 800000 in
set_option maxRecDepth 100000 in
theorem kX7_image {l : Launch} {D : va_G} {cs : Nat → ClassId} {ad : Nat → Nat} {n : Nat} {ρ σ : Nat → Nat → Int32} {TT τ : Nat → Nat → Nat → Int32} {sz : Nat}  (hT : okT n (TT 0)) : XMi l yX7_image cX7_image 1 FieldType.int rm_yX7_image [.ref (ad 0)] D cs ad n ρ TT τ σ sz (fun (r : Int32) (u : Tb × (Nat → Nat → Int32)) => r = TT 0 6 1 ∧ EqT u.1 (TT 0) ∧ u.2 = upR σ 0 8 1) (fun u : Tb × (Nat → Nat → Int32) => xent ad cs n ρ (va_up TT 2 u.1) τ u.2) := by
  refine gw_stI (Ff := fun u : Tb × (Nat → Nat → Int32) => xent ad cs n ρ (va_up TT 2 u.1) τ u.2) (own := RX7) (by decide +kernel) rfl (Nat.le_of_ble_eq_true rfl) ?_
  intro p e s m ar below meth c A Q F hE hsz hW hret ls hl
  obtain ⟨hx, hb, hml, hown, hts⟩ := id F
  have hl : lv_has ls 1 [(0, .ref (ad 0))] := hl
  refine lv_aload_n hx hb dX7_image_0 rfl (lv_at hl 0 rfl) ?_
  refine xr_O F hW 7 (by decide) rfl fl_RX7_57 dX7_image_1 ?_
  refine lv_aload_n hx hb dX7_image_4 rfl (lv_at hl 0 rfl) ?_
  refine xr_O F hW 5 (by decide) rfl fl_RX7_50 dX7_image_5 ?_
  refine gw_callVv (As := [.ref (ad (9 + 8 * 0))]) (rest := []) F hl.1 hW (fun _ _ hw => va_Nw.warmM hw hE) XE_E (by omega) (xe_T (b := 2) (by decide)) rfl (kX4_become (b := 2) (b2 := 0) (by decide) (by decide) (by decide) hT) pd_yX4_become ml_RX7_266 im_yX4_become se_yX4_become ini_RX4 cd_yX4_become ⟨rfl, rfl⟩ ⟨Nat.le_of_ble_eq_true rfl, Nat.le_of_ble_eq_true rfl⟩ rfl rfl (Nat.le_of_ble_eq_true rfl) ⟨Nat.zero_le _, Nat.zero_le _⟩ dX7_image_8 (fun TT_1 H locs hp hW _ _ => ?_)
  subst hp
  refine lv_aload_n hx hb dX7_image_11 rfl (lv_at hl 0 rfl) ?_
  refine lv_iconst (v := 1) hx hb dX7_image_12 (by decide) ?_
  refine xw_O F hW 8 (by decide) fl_RX7_269 rfl (ty := .boolean) rfl rfl rfl rfl dX7_image_13 (fun H locs hW => ?_)
  refine lv_aload_n hx hb dX7_image_16 rfl (lv_at hl 0 rfl) ?_
  refine xr_O F hW 7 (by decide) rfl fl_RX7_57 dX7_image_17 ?_
  refine xr_Ti (b := 2) F hW (by decide) 1 (by decide) fl_RX7_67 dX7_image_20 ?_
  have hCe : EqT (copyT (TT 2) (TT 0)) (TT 0) := copyT_eq (TT 2) (TT 0) hT
  refine lv_as (z := TT 0 6 1) hCe.1 ?_
  exact hret (TT 0 6 1) (copyT (TT 2) (TT 0), upR σ 0 8 1) _ _ _ _ _ hW rfl rfl (⟨rfl, hCe, rfl⟩) dX7_image_23
abbrev rm_yX7_back : Room := { frames := 2, cells := 0, slots := 0, locals := 43 }
set_option maxHeartbeats 800000 in
set_option maxRecDepth 100000 in
theorem kX7_back {l : Launch} {D : va_G} {cs : Nat → ClassId} {ad : Nat → Nat} {n : Nat} {ρ σ : Nat → Nat → Int32} {TT τ : Nat → Nat → Nat → Int32} {sz : Nat}  (hK : ¬ σ 0 8 = 0 → okT n (TT 2)) : XMi l yX7_back cX7_back 1 FieldType.int rm_yX7_back [.ref (ad 0)] D cs ad n ρ TT τ σ sz (fun (r : Int32) (u : Nat → Nat → Nat → Int32) => r = (if σ 0 8 = 0 then -3 else TT 2 6 1) ∧ (σ 0 8 = 0 → u = TT) ∧ (¬ σ 0 8 = 0 → ∃ Y, EqT Y (TT 2) ∧ u = va_up TT 0 Y)) (fun u : Nat → Nat → Nat → Int32 => xent ad cs n ρ u τ σ) := by
  refine gw_stI (Ff := fun u : Nat → Nat → Nat → Int32 => xent ad cs n ρ u τ σ) (own := RX7) (by decide +kernel) rfl (Nat.le_of_ble_eq_true rfl) ?_
  intro p e s m ar below meth c A Q F hE hsz hW hret ls hl
  obtain ⟨hx, hb, hml, hown, hts⟩ := id F
  have hl : lv_has ls 1 [(0, .ref (ad 0))] := hl
  refine lv_aload_n hx hb dX7_back_0 rfl (lv_at hl 0 rfl) ?_
  refine xr_O F hW 8 (by decide) rfl fl_RX7_269 dX7_back_1 ?_
  refine lv_if_ne (tgt := 10) hx hb dX7_back_4 (by decide) (fun c_1 => ?_) (fun c_1 => ?_)
  ·
    refine lv_aload_n hx hb dX7_back_10 rfl (lv_at hl 0 rfl) ?_
    refine xr_O F hW 5 (by decide) rfl fl_RX7_50 dX7_back_11 ?_
    refine lv_aload_n hx hb dX7_back_14 rfl (lv_at hl 0 rfl) ?_
    refine xr_O F hW 7 (by decide) rfl fl_RX7_57 dX7_back_15 ?_
    refine gw_callVv (As := [.ref (ad (9 + 8 * 2))]) (rest := []) F hl.1 hW (fun _ _ hw => va_Nw.warmM hw hE) XE_E (by omega) (xe_T (b := 0) (by decide)) rfl (kX4_become (b := 0) (b2 := 2) (by decide) (by decide) (by decide) (hK c_1)) pd_yX4_become ml_RX7_266 im_yX4_become se_yX4_become ini_RX4 cd_yX4_become ⟨rfl, rfl⟩ ⟨Nat.le_of_ble_eq_true rfl, Nat.le_of_ble_eq_true rfl⟩ rfl rfl (Nat.le_of_ble_eq_true rfl) ⟨Nat.zero_le _, Nat.zero_le _⟩ dX7_back_18 (fun TT_2 H locs hp hW _ _ => ?_)
    subst hp
    refine lv_aload_n hx hb dX7_back_21 rfl (lv_at hl 0 rfl) ?_
    refine xr_O F hW 5 (by decide) rfl fl_RX7_50 dX7_back_22 ?_
    refine xr_Ti (b := 0) F hW (by decide) 1 (by decide) fl_RX7_67 dX7_back_25 ?_
    have hCe : EqT (copyT (TT 0) (TT 2)) (TT 2) := copyT_eq (TT 0) (TT 2) (hK c_1)
    refine lv_as (z := TT 2 6 1) hCe.1 ?_
    exact hret (TT 2 6 1) (va_up TT 0 (copyT (TT 0) (TT 2))) _ _ _ _ _ hW rfl rfl (⟨(if_neg c_1).symm, fun z => absurd z c_1, fun _ => ⟨_, hCe, rfl⟩⟩) dX7_back_28
  ·
    refine lv_bipush (v := (-3)) hx hb dX7_back_7 (by decide) ?_
    exact hret (-3) TT _ _ _ _ _ hW rfl rfl (⟨(if_pos c_1).symm, fun _ => rfl, fun z => absurd c_1 z⟩) dX7_back_9
theorem guest_ok {n : Nat} {T : Tb} (hT : okT n T) (km w sh : Int32) : okT n (guestP T km w sh).2 := by
  unfold guestP
  by_cases h1 : km < 0
  · rw [if_pos h1]; exact hT
  rw [if_neg h1]
  by_cases h2 : 60 ≤ km
  · rw [if_pos h2]; exact hT
  rw [if_neg h2]
  by_cases h3 : w < 0
  · rw [if_pos h3]; exact hT
  rw [if_neg h3]
  by_cases h4 : 1023 < w
  · rw [if_pos h4]; exact hT
  rw [if_neg h4]
  by_cases h5 : sh < 0
  · rw [if_pos h5]; exact hT
  rw [if_neg h5]
  by_cases h6 : 99 < sh
  · rw [if_pos h6]; exact hT
  rw [if_neg h6]
  by_cases h7 : T 6 1 < 6
  · rw [if_pos h7]
    show okT n (newG T km w sh)
    obtain ⟨a, ha, rfl⟩ := ge_nat (N := 60) h1 h2 (by decide)
    obtain ⟨b, hb, rfl⟩ := nI_of2 (n := 1023) rfl h3 (by rw [i32_le]; exact h4)
    obtain ⟨d, hd, rfl⟩ := nI_of2 (n := 99) rfl h5 (by rw [i32_le]; exact h6)
    have h8 : seatsN T < 6 := mi_lt (b := 6) (by rw [← hT.2.1]; exact h7) (by have := hT.1; omega) (by decide)
    have e6 : newG T (nI a) (nI b) (nI d) 6 = upd (T 6) 1 (T 6 1 + 1) := by
      unfold newG upT
      rw [va_up_self, va_up_ne _ _ (by omega)]
    have eo : ∀ q, q ≠ 6 → newG T (nI a) (nI b) (nI d) q = va_up T (seatsN T) (comeR (T (seatsN T)) (nI a) (nI b) (nI d)) q := fun q hq => by
      unfold newG
      exact va_up_ne _ _ hq
    have es : seatsN (newG T (nI a) (nI b) (nI d)) = seatsN T + 1 := by
      unfold seatsN
      rw [e6]
      show (T 6 1 + 1).toNatClampNeg = _
      rw [hT.2.1, nI_1, nI_clamp (by omega), nI_clamp (by omega)]
    have el : lawN (newG T (nI a) (nI b) (nI d)) = lawN T := by unfold lawN; rw [e6]; rfl
    refine ⟨by rw [es]; omega, by rw [es, e6]; show T 6 1 + 1 = _; rw [hT.2.1, nI_1], by rw [el]; exact hT.2.2.1, by rw [el, e6]; exact hT.2.2.2.1, fun q hq => ?_⟩
    rw [es] at hq
    rw [eo q (by omega)]
    by_cases e : q = seatsN T
    · rw [e, va_up_self]
      refine ⟨⟨a / 10, by omega, ?_⟩, ⟨a % 10, by omega, ?_⟩, ⟨b, by omega, rfl⟩, ⟨d, by omega, rfl⟩, ⟨0, by omega, rfl⟩, ⟨0, by omega, rfl⟩, Or.inl rfl⟩
      · exact pk_div (d := 10) (by omega) (by decide) (by decide)
      · exact pk_rem (d := 10) (by omega) (by decide) (by decide)
    · rw [va_up_ne _ _ e]; exact hT.2.2.2.2 q (by omega)
  · rw [if_neg h7]; exact hT
theorem byF_neg {ν : Nat → Int32} {sz z c : Int32} {f i : Nat} {T : Tb} (h1 : z + 3 * nI i < 0) : byF ν sz z (f + 1) i c T = (-12, T) := if_pos h1
theorem byF_out {ν : Nat → Int32} {sz z c : Int32} {f i : Nat} {T : Tb} (h1 : ¬ z + 3 * nI i < 0) (h2 : sz - 3 < z + 3 * nI i) : byF ν sz z (f + 1) i c T = (-12, T) := (if_neg h1).trans (if_pos h2)
theorem nI_mul (a b : Nat) : nI a * nI b = nI (a * b) := (Int32.ofNat_mul a b).symm
abbrev rm_yX7_guestsBy : Room := { frames := 2, cells := 0, slots := 0, locals := 46 }
set_option maxHeartbeats 800000 in
set_option maxRecDepth 100000 in
theorem kX7_guestsBy {l : Launch} {D : va_G} {cs : Nat → ClassId} {ad : Nat → Nat} {n : Nat} {ρ σ : Nat → Nat → Int32} {TT τ : Nat → Nat → Nat → Int32} {sz : Nat} {z w v0 q0 : Int32} (hO : okO n TT τ σ) (hSh : okS σ) : XMi l yX7_guestsBy cX7_guestsBy 9 FieldType.int rm_yX7_guestsBy [.ref (ad 0), .int z, .int w, .int v0, .int q0] D cs ad n ρ TT τ σ sz (fun (r : Int32) (u : Nat → Nat → Nat → Int32) => r = (byP (soX σ) (siX σ) (nuX σ) (TT 0) z w v0 q0).1 ∧ u = va_up TT 0 (byP (soX σ) (siX σ) (nuX σ) (TT 0) z w v0 q0).2) (fun u : Nat → Nat → Nat → Int32 => xent ad cs n ρ u τ σ) := by
  refine gw_stI (Ff := fun u : Nat → Nat → Nat → Int32 => xent ad cs n ρ u τ σ) (own := RX7) (by decide +kernel) rfl (Nat.le_of_ble_eq_true rfl) ?_
  intro p e s m ar below meth c A Q F hE hsz hW hret ls hl
  obtain ⟨hx, hb, hml, hown, hts⟩ := id F
  have hl : lv_has ls 9 [(0, .ref (ad 0)), (1, .int z), (2, .int w), (3, .int v0), (4, .int q0)] := hl
  obtain ⟨hn1, hn6, hT, hX, hc, hnum⟩ := hO
  have hs6 := hT.1
  have hsN := hT.2.1
  have ht0 : (TT 0 6 3).toNatClampNeg < n := hT.2.2.1
  refine lv_iload_n hx hb dX7_guestsBy_0 rfl (lv_at hl 1 rfl) ?_
  refine gw_callP (As := [.int z]) (rest := []) F hl.1 (kX7_isSheet) pd_yX7_isSheet ml_RX7_251 st_yX7_isSheet ini_RX7 cd_yX7_isSheet ⟨rfl, rfl⟩ ⟨Nat.le_of_ble_eq_true rfl, Nat.le_of_ble_eq_true rfl⟩ rfl rfl (Nat.le_of_ble_eq_true rfl) ⟨Nat.zero_le _, Nat.zero_le _⟩ dX7_guestsBy_1 ?_
  refine lv_as (z := shP z) rfl ?_
  refine lv_if_eq (tgt := 28) hx hb dX7_guestsBy_4 (by decide) (fun c_1 => ?_) (fun c_1 => ?_)
  ·
    refine lv_bipush (v := (-2)) hx hb dX7_guestsBy_28 (by decide) ?_
    exact hret (-2) TT _ _ _ _ _ hW rfl rfl (by unfold byP; rw [if_pos c_1, va_up_eta]; exact ⟨rfl, rfl⟩) dX7_guestsBy_30
  ·
    have c_4n := c_1
    obtain ⟨q, hq, rfl⟩ := sh_nat c_1; have hiq : iN (nI q) = q := iN_nI (by omega)
    refine lv_iload_n hx hb dX7_guestsBy_7 rfl (lv_at hl 2 rfl) ?_
    refine lv_if_lt (tgt := 28) hx hb dX7_guestsBy_8 (by decide) (fun c_2 => ?_) (fun c_2 => ?_)
    ·
      refine lv_bipush (v := (-2)) hx hb dX7_guestsBy_28 (by decide) ?_
      exact hret (-2) TT _ _ _ _ _ hW rfl rfl (by unfold byP; rw [if_neg c_4n, if_pos c_2, va_up_eta]; exact ⟨rfl, rfl⟩) dX7_guestsBy_30
    ·
      have c_8n := c_2
      refine lv_iload_n hx hb dX7_guestsBy_11 rfl (lv_at hl 2 rfl) ?_
      refine lv_iconst (v := 2) hx hb dX7_guestsBy_12 (by decide) ?_
      refine lv_icmp_gt (tgt := 28) hx hb dX7_guestsBy_13 (by decide) (fun c_3 => ?_) (fun c_3 => ?_)
      ·
        refine lv_bipush (v := (-2)) hx hb dX7_guestsBy_28 (by decide) ?_
        exact hret (-2) TT _ _ _ _ _ hW rfl rfl (by unfold byP; rw [if_neg c_4n, if_neg c_8n, if_pos c_3, va_up_eta]; exact ⟨rfl, rfl⟩) dX7_guestsBy_30
      ·
        have c_13n := c_3
        refine lv_iload hx hb dX7_guestsBy_16 (lv_at hl 4 rfl) ?_
        refine lv_if_lt (tgt := 28) hx hb dX7_guestsBy_18 (by decide) (fun c_4 => ?_) (fun c_4 => ?_)
        ·
          refine lv_bipush (v := (-2)) hx hb dX7_guestsBy_28 (by decide) ?_
          exact hret (-2) TT _ _ _ _ _ hW rfl rfl (by unfold byP; rw [if_neg c_4n, if_neg c_8n, if_neg c_13n, if_pos c_4, va_up_eta]; exact ⟨rfl, rfl⟩) dX7_guestsBy_30
        ·
          have c_18n := c_4
          refine lv_iload hx hb dX7_guestsBy_21 (lv_at hl 4 rfl) ?_
          refine lv_bipush (v := 6) hx hb dX7_guestsBy_23 (by decide) ?_
          refine lv_icmp_le (tgt := 31) hx hb dX7_guestsBy_25 (by decide) (fun c_5 => ?_) (fun c_5 => ?_)
          ·
            have c_25n := (Int32.not_lt.mpr c_5)
            obtain ⟨mq, hmq, rfl⟩ : ∃ w, w ≤ 6 ∧ q0 = nI w := nI_of2 rfl c_4 c_5; have himq : iN (nI mq) = mq := iN_nI (by omega)
            refine lv_aload_n hx hb dX7_guestsBy_31 rfl (lv_at hl 0 rfl) ?_
            refine xr_O F hW 9 (by decide) rfl fl_RX7_62 dX7_guestsBy_32 ?_
            refine lv_iload_n hx hb dX7_guestsBy_35 rfl (lv_at hl 1 rfl) ?_
            refine xr_San (q := q) rfl (by omega) F hW dX7_guestsBy_36 ?_
            refine lv_astore (lv' := [(5, .ref (ad (34 + q))), (0, .ref (ad 0)), (1, .int (nI q)), (2, .int w), (3, .int v0), (4, .int (nI mq))]) hx hb dX7_guestsBy_37 hl (by decide) rfl (fun ls hl => ?_)
            refine lv_aload hx hb dX7_guestsBy_39 (lv_at hl 0 rfl) ?_
            refine xr_S (j := q) (by omega) F hW 1 (by decide) rfl fl_RX7_272 dX7_guestsBy_41 ?_
            refine lv_iconst (v := (-1)) hx hb dX7_guestsBy_44 (by decide) ?_
            refine lv_icmp_ne (tgt := 51) hx hb dX7_guestsBy_45 (by decide) (fun c_6 => ?_) (fun c_6 => ?_)
            ·
              have c_45n : ¬ soX σ q = -1 := c_6
              refine lv_aload hx hb dX7_guestsBy_51 (lv_at hl 0 rfl) ?_
              refine xr_S (j := q) (by omega) F hW 1 (by decide) rfl fl_RX7_272 dX7_guestsBy_53 ?_
              refine lv_iload_n hx hb dX7_guestsBy_56 rfl (lv_at hl 3 rfl) ?_
              refine lv_icmp_eq (tgt := 63) hx hb dX7_guestsBy_57 (by decide) (fun c_7 => ?_) (fun c_7 => ?_)
              ·
                have c_57n : soX σ q = w := c_7
                obtain ⟨kt, hkt, hkz⟩ := hSh q hq
                refine lv_iconst (v := 0) hx hb dX7_guestsBy_63 (by decide) ?_
                refine lv_istore (lv' := [(6, .int 0), (5, .ref (ad (34 + q))), (0, .ref (ad 0)), (1, .int (nI q)), (2, .int w), (3, .int v0), (4, .int (nI mq))]) hx hb dX7_guestsBy_64 hl (by decide) rfl (fun ls hl => ?_)
                refine lv_iconst (v := 0) hx hb dX7_guestsBy_66 (by decide) ?_
                refine lv_istore (lv' := [(7, .int 0), (6, .int 0), (5, .ref (ad (34 + q))), (0, .ref (ad 0)), (1, .int (nI q)), (2, .int w), (3, .int v0), (4, .int (nI mq))]) hx hb dX7_guestsBy_67 hl (by decide) rfl (fun ls hl => ?_)
                generalize hR0 : byF (σ (34 + q + 4)) (nI kt) v0 mq 0 0 (TT 0) = RES
                have hW : XW D cs ad n ρ (va_up TT 0 (TT 0)) τ σ A s s.heap s.heap [] := by rw [va_up_eta]; exact hW
                have L69 : ∀ (k : Nat) (i f : Nat) (cc : Int32) (Y : Tb), (okT n Y) → (i + f = mq) → (mq + 1 ≤ i + k) → (byF (σ (34 + q + 4)) (nI kt) v0 f i cc Y = RES) → ∀ (H : Heap) (locs : List Loc) (ls : Array Slot), XW D cs ad n ρ (va_up TT 0 Y) τ σ A s s.heap H locs → lv_has ls 9 [(7, .int (nI i)), (6, .int cc), (0, .ref (ad 0)), (1, .int (nI q)), (2, .int w), (3, .int v0), (4, .int (nI mq)), (5, .ref (ad (34 + q)))] → W p l e rm_yX7_guestsBy s m ar below meth c H locs 0 0 Q (F0 m 69 ls []) := by
                  intro k
                  induction k with
                  | zero => intro i f cc Y hY h1 h2 hRR; exact absurd h2 (by omega)
                  | succ k ih69 =>
                    intro i f cc Y hY h1 h2 hRR H locs ls hW hl
                    refine lv_iload hx hb dX7_guestsBy_69 (lv_at hl 0 rfl) ?_
                    refine lv_iload hx hb dX7_guestsBy_71 (lv_at hl 6 rfl) ?_
                    refine lv_icmp_ge (tgt := 148) hx hb dX7_guestsBy_73 (by decide) (fun c_8 => ?_) (fun c_8 => ?_)
                    ·
                      obtain rfl : f = 0 := by have := mi_le c_8 (by omega) (by omega); omega
                      refine lv_iload hx hb dX7_guestsBy_148 (lv_at hl 1 rfl) ?_
                      exact hret cc (va_up TT 0 Y) _ _ _ _ _ hW rfl rfl (by unfold byP; rw [if_neg c_4n, if_neg c_8n, if_neg c_13n, if_neg c_18n, if_neg c_25n, hiq, if_neg c_45n, if_pos c_57n, himq, show siX σ q = nI kt from hkz, show nuX σ q = σ (34 + q + 4) from rfl, hR0, ← hRR]; exact ⟨rfl, rfl⟩) dX7_guestsBy_150
                    ·
                      have hlt : i < mq := mi_nle c_8 (by omega) (by omega); obtain ⟨f', rfl⟩ : ∃ x, f = x + 1 := ⟨f - 1, by omega⟩
                      refine lv_iload_n hx hb dX7_guestsBy_76 rfl (lv_at hl 5 rfl) ?_
                      refine lv_iconst (v := 3) hx hb dX7_guestsBy_77 (by decide) ?_
                      refine lv_iload hx hb dX7_guestsBy_78 (lv_at hl 0 rfl) ?_
                      refine lv_imul hx hb dX7_guestsBy_80 ?_
                      refine lv_iadd hx hb dX7_guestsBy_81 ?_
                      refine lv_topi (fun v_9 ev_9 => ?_)
                      refine lv_istore (lv' := [(8, .int v_9), (7, .int (nI i)), (6, .int cc), (0, .ref (ad 0)), (1, .int (nI q)), (2, .int w), (3, .int v0), (4, .int (nI mq)), (5, .ref (ad (34 + q)))]) hx hb dX7_guestsBy_82 hl (by decide) rfl (fun ls hl => ?_)
                      refine lv_iload hx hb dX7_guestsBy_84 (lv_at hl 0 rfl) ?_
                      refine lv_if_lt (tgt := 101) hx hb dX7_guestsBy_86 (by decide) (fun c_10 => ?_) (fun c_10 => ?_)
                      ·
                        refine lv_bipush (v := (-12)) hx hb dX7_guestsBy_101 (by decide) ?_
                        exact hret (-12) (va_up TT 0 Y) _ _ _ _ _ hW rfl rfl (by unfold byP; rw [if_neg c_4n, if_neg c_8n, if_neg c_13n, if_neg c_18n, if_neg c_25n, hiq, if_neg c_45n, if_pos c_57n, himq, show siX σ q = nI kt from hkz, show nuX σ q = σ (34 + q + 4) from rfl, hR0, ← hRR]; rw [byF_neg (by rw [← ev_9]; exact c_10)]; exact ⟨rfl, rfl⟩) dX7_guestsBy_103
                      ·
                        have c86n : ¬ (v0 + 3 * nI i) < 0 := by rw [← ev_9]; exact c_10
                        refine lv_iload hx hb dX7_guestsBy_89 (lv_at hl 0 rfl) ?_
                        refine lv_aload hx hb dX7_guestsBy_91 (lv_at hl 8 rfl) ?_
                        refine xr_S (j := q) (by omega) F hW 2 (by decide) rfl fl_RX7_275 dX7_guestsBy_93 ?_
                        refine lv_iconst (v := 3) hx hb dX7_guestsBy_96 (by decide) ?_
                        refine lv_isub hx hb dX7_guestsBy_97 ?_
                        refine lv_icmp_le (tgt := 104) hx hb dX7_guestsBy_98 (by decide) (fun c_11 => ?_) (fun c_11 => ?_)
                        ·
                          have c98n : ¬ nI kt - 3 < (v0 + 3 * nI i) := by rw [← ev_9, ← hkz]; exact Int32.not_lt.mpr c_11
                          obtain ⟨t, ht, hat⟩ := by_at hkt c86n c98n; have hit : iN (nI t) = t := iN_nI (by omega); obtain rfl : v_9 = nI t := ev_9.trans hat
                          refine lv_aload_n hx hb dX7_guestsBy_104 rfl (lv_at hl 3 rfl) ?_
                          refine lv_aload hx hb dX7_guestsBy_105 (lv_at hl 8 rfl) ?_
                          refine xr_S (j := q) (by omega) F hW 0 (by decide) rfl fl_RX7_276 dX7_guestsBy_107 ?_
                          refine lv_iload hx hb dX7_guestsBy_110 (lv_at hl 0 rfl) ?_
                          refine xr_Ne (j := q) (by omega) F hW (vp_in_nI (by omega) (by decide)) dX7_guestsBy_112 ?_
                          refine lv_as (z := σ (34 + q + 4) t) (by rw [nI_clamp (by omega)]) ?_
                          refine lv_aload hx hb dX7_guestsBy_113 (lv_at hl 8 rfl) ?_
                          refine xr_S (j := q) (by omega) F hW 0 (by decide) rfl fl_RX7_276 dX7_guestsBy_115 ?_
                          refine lv_iload hx hb dX7_guestsBy_118 (lv_at hl 0 rfl) ?_
                          refine lv_iconst (v := 1) hx hb dX7_guestsBy_120 (by decide) ?_
                          refine lv_iadd hx hb dX7_guestsBy_121 ?_
                          refine lv_as (z := nI (t + 1)) (nI_add t 1) ?_
                          refine xr_Ne (j := q) (by omega) F hW (vp_in_nI (by omega) (by decide)) dX7_guestsBy_122 ?_
                          refine lv_as (z := σ (34 + q + 4) (t + 1)) (by rw [nI_clamp (by omega)]) ?_
                          refine lv_aload hx hb dX7_guestsBy_123 (lv_at hl 8 rfl) ?_
                          refine xr_S (j := q) (by omega) F hW 0 (by decide) rfl fl_RX7_276 dX7_guestsBy_125 ?_
                          refine lv_iload hx hb dX7_guestsBy_128 (lv_at hl 0 rfl) ?_
                          refine lv_iconst (v := 2) hx hb dX7_guestsBy_130 (by decide) ?_
                          refine lv_iadd hx hb dX7_guestsBy_131 ?_
                          refine lv_as (z := nI (t + 2)) (nI_add t 2) ?_
                          refine xr_Ne (j := q) (by omega) F hW (vp_in_nI (by omega) (by decide)) dX7_guestsBy_132 ?_
                          refine lv_as (z := σ (34 + q + 4) (t + 2)) (by rw [nI_clamp (by omega)]) ?_
                          refine gw_callVi (As := [.int (σ (34 + q + 4) t), .int (σ (34 + q + 4) (t + 1)), .int (σ (34 + q + 4) (t + 2))]) (rest := []) F hl.1 hW (fun _ _ hw => va_Nw.warmM hw hE) XE_E (by omega) xe_0 rfl (kX7_guest (TT := (va_up TT 0 Y)) ⟨hn1, hn6, hY, hX, hc, hnum⟩) pd_yX7_guest ml_RX7_285 im_yX7_guest se_yX7_guest ini_RX7 cd_yX7_guest ⟨rfl, rfl⟩ ⟨Nat.le_of_ble_eq_true rfl, Nat.le_of_ble_eq_true rfl⟩ rfl rfl (Nat.le_of_ble_eq_true rfl) ⟨Nat.zero_le _, Nat.zero_le _⟩ dX7_guestsBy_133 (fun r TT_12 H locs hp hW _ _ => ?_)
                          obtain ⟨hr_, hp⟩ := hp
                          subst hr_
                          have hp : TT_12 = va_up TT 0 ((guestP Y (σ (34 + q + 4) t) (σ (34 + q + 4) (t + 1)) (σ (34 + q + 4) (t + 2))).2) := by rw [bx_uu] at hp; exact hp
                          subst hp
                          refine lv_as (z := (guestP Y (σ (34 + q + 4) t) (σ (34 + q + 4) (t + 1)) (σ (34 + q + 4) (t + 2))).1) rfl ?_
                          refine lv_if_lt (tgt := 142) hx hb dX7_guestsBy_136 (by decide) (fun c_13 => ?_) (fun c_13 => ?_)
                          ·
                            refine lv_iinc (v := nI (i + 1)) (lv' := [(7, .int (nI (i + 1))), (8, .int (nI t)), (6, .int cc), (0, .ref (ad 0)), (1, .int (nI q)), (2, .int w), (3, .int v0), (4, .int (nI mq)), (5, .ref (ad (34 + q)))]) hx hb dX7_guestsBy_142 hl (k := 1) rfl (nI_1 i) (by decide) rfl (fun ls hl => ?_)
                            refine lv_goto (tgt := 69) hx hb dX7_guestsBy_145 (by decide) ?_
                            have hRR2 : byF (σ (34 + q + 4)) (nI kt) v0 f' (i + 1) cc (guestP Y (σ (34 + q + 4) t) (σ (34 + q + 4) (t + 1)) (σ (34 + q + 4) (t + 2))).2 = RES := by rw [← hRR]; show _ = (if (v0 + 3 * nI i) < 0 then _ else if nI kt - 3 < (v0 + 3 * nI i) then _ else _); rw [if_neg c86n, if_neg c98n, hat, hit, if_pos c_13]
                            exact ih69 (i + 1) f' _ _ (guest_ok hY _ _ _) (by omega) (by omega) (hRR2) _ _ _ hW (lv_sub hl [0, 2, 3, 4, 5, 6, 7, 8] rfl)
                          ·
                            obtain ⟨v_14, ev_14⟩ : ∃ z : Int32, z = cc + 1 := ⟨_, rfl⟩
                            refine lv_iinc (v := v_14) (lv' := [(6, .int v_14), (8, .int (nI t)), (7, .int (nI i)), (0, .ref (ad 0)), (1, .int (nI q)), (2, .int w), (3, .int v0), (4, .int (nI mq)), (5, .ref (ad (34 + q)))]) hx hb dX7_guestsBy_139 hl (k := 2) rfl (by rw [ev_14]; rfl) (by decide) rfl (fun ls hl => ?_)
                            refine lv_iinc (v := nI (i + 1)) (lv' := [(7, .int (nI (i + 1))), (6, .int v_14), (8, .int (nI t)), (0, .ref (ad 0)), (1, .int (nI q)), (2, .int w), (3, .int v0), (4, .int (nI mq)), (5, .ref (ad (34 + q)))]) hx hb dX7_guestsBy_142 hl (k := 2) rfl (nI_1 i) (by decide) rfl (fun ls hl => ?_)
                            refine lv_goto (tgt := 69) hx hb dX7_guestsBy_145 (by decide) ?_
                            have hRR2 : byF (σ (34 + q + 4)) (nI kt) v0 f' (i + 1) v_14 (guestP Y (σ (34 + q + 4) t) (σ (34 + q + 4) (t + 1)) (σ (34 + q + 4) (t + 2))).2 = RES := by rw [ev_14]; rw [← hRR]; show _ = (if (v0 + 3 * nI i) < 0 then _ else if nI kt - 3 < (v0 + 3 * nI i) then _ else _); rw [if_neg c86n, if_neg c98n, hat, hit, if_neg c_13]
                            exact ih69 (i + 1) f' _ _ (guest_ok hY _ _ _) (by omega) (by omega) (hRR2) _ _ _ hW (lv_sub hl [0, 1, 3, 4, 5, 6, 7, 8] rfl)
                        ·
                          refine lv_bipush (v := (-12)) hx hb dX7_guestsBy_101 (by decide) ?_
                          exact hret (-12) (va_up TT 0 Y) _ _ _ _ _ hW rfl rfl (by unfold byP; rw [if_neg c_4n, if_neg c_8n, if_neg c_13n, if_neg c_18n, if_neg c_25n, hiq, if_neg c_45n, if_pos c_57n, himq, show siX σ q = nI kt from hkz, show nuX σ q = σ (34 + q + 4) from rfl, hR0, ← hRR]; rw [byF_out c86n (by rw [← ev_9, ← hkz]; exact Int32.not_le.mp c_11)]; exact ⟨rfl, rfl⟩) dX7_guestsBy_103
                exact L69 (mq + 1) 0 mq 0 (TT 0) (hT) (by omega) (by omega) (hR0) _ _ _ hW (lv_sub hl [0, 1, 3, 4, 5, 6, 7, 2] rfl)
              ·
                refine lv_bipush (v := (-13)) hx hb dX7_guestsBy_60 (by decide) ?_
                exact hret (-13) TT _ _ _ _ _ hW rfl rfl (by unfold byP; rw [if_neg c_4n, if_neg c_8n, if_neg c_13n, if_neg c_18n, if_neg c_25n, hiq, if_neg c_45n, if_neg (show ¬ soX σ q = w from c_7), va_up_eta]; exact ⟨rfl, rfl⟩) dX7_guestsBy_62
            ·
              refine lv_bipush (v := (-11)) hx hb dX7_guestsBy_48 (by decide) ?_
              exact hret (-11) TT _ _ _ _ _ hW rfl rfl (by unfold byP; rw [if_neg c_4n, if_neg c_8n, if_neg c_13n, if_neg c_18n, if_neg c_25n, hiq, if_pos (show soX σ q = -1 from c_6), va_up_eta]; exact ⟨rfl, rfl⟩) dX7_guestsBy_50
          ·
            refine lv_bipush (v := (-2)) hx hb dX7_guestsBy_28 (by decide) ?_
            exact hret (-2) TT _ _ _ _ _ hW rfl rfl (by unfold byP; rw [if_neg c_4n, if_neg c_8n, if_neg c_13n, if_neg c_18n, if_pos (Int32.not_le.mp c_5), va_up_eta]; exact ⟨rfl, rfl⟩) dX7_guestsBy_30
