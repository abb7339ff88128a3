/-! ===== a text read: three parts ===== -/
theorem rs_len (σ : Nat → Nat → Int32) (x : Rs) : rsS σ x 3 3 = nI x.2.2.2.2.length := rdS_len σ x.2.2.2.2
theorem up_ne2 {σ : Nat → Nat → Int32} {o k o2 : Nat} {v : Int32} (h : o2 ≠ o) : upR σ o k v o2 = σ o2 := va_up_ne _ _ h
theorem rd_5 (σ : Nat → Nat → Int32) (L : List Int32) (j : Nat) (v : Int32) : upR (rdS σ L) 5 j v = rdS (upR σ 5 j v) L := by
  funext q
  have e3 : ∀ g : Nat → Nat → Int32, upR g 3 3 (nI L.length) 5 = g 5 := fun g => up_ne2 (by decide)
  have e4 : ∀ (g : Nat → Nat → Int32) r, va_up g 4 r 5 = g 5 := fun g r => va_up_ne _ _ (by decide)
  by_cases h5 : q = 5
  · subst h5
    unfold rdS
    rw [upR_self, e3, e4, e3, e4, upR_self]
  · rw [up_ne2 h5]
    unfold rdS
    by_cases h3 : q = 3
    · subst h3
      rw [upR_self, upR_self, va_up_ne _ _ (by decide), va_up_ne _ _ (by decide), up_ne2 (by decide)]
    · rw [up_ne2 h3, up_ne2 h3]
      by_cases h4 : q = 4
      · subst h4; rw [va_up_self, va_up_self, up_ne2 (by decide)]
      · rw [va_up_ne _ _ h4, va_up_ne _ _ h4, up_ne2 h5]
theorem rs_5 (σ : Nat → Nat → Int32) (x : Rs) (j : Nat) (v : Int32) : upR (rsS σ x) 5 j v = rsS (upR σ 5 j v) x := by
  unfold rsS; rw [tp_row (by decide), rd_5]
theorem lst_nil (g : Nat → Int32) : lstR g [] = g := by
  funext j; unfold lstR; rw [if_neg (by simp)]
theorem rd_nil (σ : Nat → Nat → Int32) : upR σ 3 3 0 = rdS σ [] := by
  unfold rdS; rw [lst_nil, va_up_eta]; rfl
def partR (β : Nat → Int32) (z : Nat) (key : Int32) : Rf := fun x =>
  if (tokR β z key x).1 then (if (orR β z (loR β z 5) (tokR β z key x).2).1 then tokR β z 59 (orR β z (loR β z 5) (tokR β z key x).2).2 else orR β z (loR β z 5) (tokR β z key x).2) else tokR β z key x
theorem kp_part {β : Nat → Int32} {z : Nat} {key : Int32} : kpR z (partR β z key) := fun x h => by
  unfold partR
  split
  · split
    · exact kp_tok _ (kp_or (kp_lo β z 5) _ (kp_tok _ h))
    · exact kp_or (kp_lo β z 5) _ (kp_tok _ h)
  · exact kp_tok _ h
theorem part_0 {β : Nat → Int32} {z : Nat} {key : Int32} {x : Rs} (h : (tokR β z key x).1 = false) : partR β z key x = tokR β z key x := if_neg (by rw [h]; decide)
theorem part_1 {β : Nat → Int32} {z : Nat} {key : Int32} {x : Rs} (h : (tokR β z key x).1 = true) (h2 : (orR β z (loR β z 5) (tokR β z key x).2).1 = false) : partR β z key x = orR β z (loR β z 5) (tokR β z key x).2 := (if_pos h).trans (if_neg (by rw [h2]; decide))
theorem part_2 {β : Nat → Int32} {z : Nat} {key : Int32} {x : Rs} (h : (tokR β z key x).1 = true) (h2 : (orR β z (loR β z 5) (tokR β z key x).2).1 = true) : partR β z key x = tokR β z 59 (orR β z (loR β z 5) (tokR β z key x).2).2 := (if_pos h).trans (if_pos h2)
/-- from the first byte -/
def rs0 (β : Nat → Int32) (z : Nat) (m0 : Int32) : Rs := nxR β z (0, 0, 0, m0, [])
def thR (β : Nat → Int32) (z : Nat) (m0 : Int32) : Nat → Bool × Rs
  | 0 => (true, rs0 β z m0)
  | k + 1 => if (thR β z m0 k).1 then partR β z (-(nI (k + 10))) (thR β z m0 k).2 else thR β z m0 k
theorem th_ok {β : Nat → Int32} {z : Nat} {m0 : Int32} : ∀ k, okR z (thR β z m0 k).2
  | 0 => okR_nx (s := (0, 0, 0, m0, [])) ⟨Nat.zero_le _, Nat.zero_le _⟩
  | k + 1 => by
    rw [thR]
    split
    · exact kp_part _ (th_ok k)
    · exact th_ok k
theorem th_y {β : Nat → Int32} {z : Nat} {m0 : Int32} {k : Nat} (h : (thR β z m0 k).1 = true) : thR β z m0 (k + 1) = partR β z (-(nI (k + 10))) (thR β z m0 k).2 := if_pos h
theorem th_n {β : Nat → Int32} {z : Nat} {m0 : Int32} {k : Nat} (h : (thR β z m0 k).1 = false) : thR β z m0 (k + 1) = thR β z m0 k := if_neg (by rw [h]; decide)
/-- the place of the fault, -1: none -/
def fauP (β : Nat → Int32) (z : Nat) (m0 : Int32) : Int32 := if (thR β z m0 3).1 then (if (thR β z m0 3).2.2.1 = 0 then -1 else nI (thR β z m0 3).2.2.2.1) else nI (thR β z m0 3).2.2.2.1
theorem fau_0 {β : Nat → Int32} {z : Nat} {m0 : Int32} (h : (thR β z m0 3).1 = false) : fauP β z m0 = nI (thR β z m0 3).2.2.2.1 := if_neg (by rw [h]; decide)
theorem fau_1 {β : Nat → Int32} {z : Nat} {m0 : Int32} (h : (thR β z m0 3).1 = true) (h2 : ¬ (thR β z m0 3).2.2.1 = 0) : fauP β z m0 = nI (thR β z m0 3).2.2.2.1 := (if_pos h).trans (if_neg h2)
theorem fau_2 {β : Nat → Int32} {z : Nat} {m0 : Int32} (h : (thR β z m0 3).1 = true) (h2 : (thR β z m0 3).2.2.1 = 0) : fauP β z m0 = -1 := (if_pos h).trans (if_pos h2)
/-- where the parts begin, if all is good -/
def stR (β : Nat → Int32) (z : Nat) (m0 : Int32) : Nat → Int32 := fun k => nI (thR β z m0 k).2.2.2.2.2.length
abbrev rm_yX5_startA : Room := { frames := 7, cells := 0, slots := 0, locals := 147 }
set_option maxHeartbeats 800000 in
set_option maxRecDepth 100000 in
theorem kX5_startA {l : Launch} {D : va_G} {cs : Nat → ClassId} {ad : Nat → Nat} {n : Nat} {ρ σ : Nat → Nat → Int32} {TT τ : Nat → Nat → Nat → Int32} {sz : Nat} {adK adV : Nat → Nat} {z : Nat} {a0 k0 t0 m0 : Int32} (hz : σ 1 1 = nI z) (hz1 : z ≤ 160) : XSv l yX5_start cX5_start 1 rm_yX5_start [.ref (ad 1)] D cs ad n ρ TT τ (tpS σ a0 k0 t0 m0) sz adK adV (fun (u : Nat → Nat → Int32) => u = tpS σ (nI (nxA (σ 2) z (skpG (σ 2) z 161 0))) (nxK (σ 2) z (skpG (σ 2) z 161 0)) (nI (skpG (σ 2) z 161 0)) (nxM (σ 2) z (skpG (σ 2) z 161 0) m0)) (fun u : Nat → Nat → Int32 => xent ad cs n ρ TT τ u) := by
  refine gw_stVs (Ff := fun u : Nat → Nat → Int32 => xent ad cs n ρ TT τ u) (own := RX5) (by decide +kernel) rfl (Nat.le_of_ble_eq_true rfl) ?_
  intro p e s m ar below meth c A Q F hE hsz hA hW hret ls hl
  obtain ⟨hx, hb, hml, hown, hts⟩ := id F
  have hl : lv_has ls 1 [(0, .ref (ad 1))] := hl
  refine lv_aload_n hx hb dX5_start_0 rfl (lv_at hl 0 rfl) ?_
  refine lv_iconst (v := 0) hx hb dX5_start_1 (by decide) ?_
  refine xw_P F hW 2 (by decide) fl_RX5_19 rfl (ty := .int) rfl rfl rfl rfl dX5_start_2 (fun H locs hW => ?_)
  have hW : XW D cs ad n ρ TT τ (tpS σ 0 k0 t0 m0) A s s.heap H locs := by rw [tp_2] at hW; exact hW
  refine lv_aload_n hx hb dX5_start_5 rfl (lv_at hl 0 rfl) ?_
  refine gw_callVv (As := []) (rest := []) F hl.1 hW (xs_hE hE hA hsz hW) XS_E (by omega) xe_1 rfl (kX5_next (adK := adK) (adV := adV) (σ := σ) (z := z) (a := 0) hz hz1 (by omega)) pd_yX5_next ml_RX5_22 im_yX5_next se_yX5_next ini_RX5 cd_yX5_next ⟨rfl, rfl⟩ ⟨Nat.le_of_ble_eq_true rfl, Nat.le_of_ble_eq_true rfl⟩ rfl rfl (Nat.le_of_ble_eq_true rfl) ⟨Nat.zero_le _, Nat.zero_le _⟩ dX5_start_6 (fun σ_1 H locs hp hW _ _ => ?_)
  subst hp
  exact hret (tpS σ (nI (nxA (σ 2) z (skpG (σ 2) z 161 0))) (nxK (σ 2) z (skpG (σ 2) z 161 0)) (nI (skpG (σ 2) z 161 0)) (nxM (σ 2) z (skpG (σ 2) z 161 0) m0)) _ _ _ _ _ hW rfl (rfl) dX5_start_9
set_option maxHeartbeats 800000 in
set_option maxRecDepth 100000 in
theorem rX2_readPart {l : Launch} {D : va_G} {cs : Nat → ClassId} {ad : Nat → Nat} {n : Nat} {ρ σ : Nat → Nat → Int32} {TT τ : Nat → Nat → Nat → Int32} {adK adV : Nat → Nat} {z : Nat} {pt : Nat} {key : Int32} (hz : σ 1 1 = nI z) (hz1 : z ≤ 160) (hpt : pt < 4) : ∀ (x : Rs) (sz : Nat), okR z x → XSi l yX2_readPart cX2_readPart 3 .boolean (roomF 45) [.ref (ad 3), .int (nI pt), .int key] D cs ad n ρ TT τ (rsS σ x) sz adK adV (fun (r : Int32) (u : Nat → Nat → Int32) => r = bI (partR (σ 2) z key x).1 ∧ u = rsS (upR σ 5 pt (nI x.2.2.2.2.length)) (partR (σ 2) z key x).2) (fun u : Nat → Nat → Int32 => xent ad cs n ρ TT τ u) := by
  intro x sz hok
  refine gw_stIs (Ff := fun u : Nat → Nat → Int32 => xent ad cs n ρ TT τ u) (own := RX2) (by decide +kernel) rfl (Nat.le_of_ble_eq_true rfl) ?_
  intro p e s m ar below meth c A Q F hE hsz hA hW hret ls hl
  obtain ⟨hx, hb, hml, hown, hts⟩ := id F
  have hl : lv_has ls 3 [(0, .ref (ad 3)), (1, .int (nI pt)), (2, .int key)] := hl
  refine lv_iload_n hx hb dX2_readPart_0 rfl (lv_at hl 1 rfl) ?_
  refine lv_if_lt (tgt := 13) hx hb dX2_readPart_1 (by decide) (fun c_1 => ?_) (fun c_1 => ?_)
  ·
    exact absurd c_1 (nI_pos (by omega))
  ·
    refine lv_iload_n hx hb dX2_readPart_4 rfl (lv_at hl 1 rfl) ?_
    refine lv_aload_n hx hb dX2_readPart_5 rfl (lv_at hl 0 rfl) ?_
    refine xr_D F hW 2 (by decide) rfl fl_RX2_19 dX2_readPart_6 ?_
    refine xr_Wl F hW dX2_readPart_9 ?_
    refine lv_icmp_lt (tgt := 15) hx hb dX2_readPart_10 (by decide) (fun c_2 => ?_) (fun c_2 => ?_)
    ·
      refine lv_aload_n hx hb dX2_readPart_15 rfl (lv_at hl 0 rfl) ?_
      refine xr_D F hW 2 (by decide) rfl fl_RX2_19 dX2_readPart_16 ?_
      refine lv_iload_n hx hb dX2_readPart_19 rfl (lv_at hl 1 rfl) ?_
      refine lv_aload_n hx hb dX2_readPart_20 rfl (lv_at hl 0 rfl) ?_
      refine xr_D F hW 3 (by decide) rfl fl_RX2_22 dX2_readPart_21 ?_
      refine lv_as (z := nI x.2.2.2.2.length) (rs_len σ x) ?_
      refine xw_We F hW (vp_in_nI (by omega) (by decide)) dX2_readPart_24 (fun H locs hW => ?_)
      have hW : XW D cs ad n ρ TT τ (rsS (upR σ 5 pt (nI x.2.2.2.2.length)) x) A s s.heap H locs := by rw [nI_clamp (by omega), rs_5] at hW; exact hW
      refine lv_aload_n hx hb dX2_readPart_25 rfl (lv_at hl 0 rfl) ?_
      refine lv_iload_n hx hb dX2_readPart_26 rfl (lv_at hl 2 rfl) ?_
      refine gw_callVi (rm := (roomF 8)) (As := [.int key]) (rest := []) F hl.1 hW (xs_hE hE hA hsz hW) XS_E (by omega) xe_3 rfl (rX2_readToken (σ := upR σ 5 pt (nI x.2.2.2.2.length)) hz hz1 (Nat.le_refl 8) x _ (hok)) pd_yX2_readToken ml_RX2_41 im_yX2_readToken se_yX2_readToken ini_RX2 cd_yX2_readToken ⟨rfl, rfl⟩ ⟨(show 8 + 1 ≤ 45 by omega), (show 8 + (2 + 11) + 24 * (8) ≤ 24 * (45) by omega)⟩ rfl rfl (Nat.le_of_ble_eq_true rfl) ⟨Nat.zero_le _, Nat.zero_le _⟩ dX2_readPart_27 (fun r u H locs hp hW _ _ => ?_)
      obtain ⟨rfl, rfl⟩ := hp
      refine lv_as (z := bI (tokR (σ 2) z key x).1) rfl ?_
      have hW : XW D cs ad n ρ TT τ (rsS (upR σ 5 pt (nI x.2.2.2.2.length)) ((tokR (σ 2) z key x).2)) A s s.heap H locs := hW
      refine lv_if_eq (tgt := 54) hx hb dX2_readPart_30 (by decide) (fun c_3 => ?_) (fun c_3 => ?_)
      ·
        refine lv_iconst (v := 0) hx hb dX2_readPart_54 (by decide) ?_
        exact hret 0 (rsS (upR σ 5 pt (nI x.2.2.2.2.length)) ((tokR (σ 2) z key x).2)) _ _ _ _ _ hW rfl rfl (by rw [part_0 (bI_0 c_3)]; exact ⟨(congrArg bI (bI_0 c_3)).symm, rfl⟩) dX2_readPart_55
      ·
        refine lv_aload_n hx hb dX2_readPart_33 rfl (lv_at hl 0 rfl) ?_
        refine lv_iconst (v := 0) hx hb dX2_readPart_34 (by decide) ?_
        refine gw_callVi (rm := (roomF (14 + 6 * 5))) (As := [.int 0]) (rest := []) F hl.1 hW (xs_hE hE hA hsz hW) XS_E (by omega) xe_3 rfl ((rd_all (σ := upR σ 5 pt (nI x.2.2.2.2.length)) hz hz1 5 0 rfl).2.2 ((tokR (σ 2) z key x).2) _ (kp_tok _ (hok))) pd_yX2_readOr ml_RX2_45 im_yX2_readOr se_yX2_readOr ini_RX2 cd_yX2_readOr ⟨rfl, rfl⟩ ⟨(show 14 + 6 * 5 + 1 ≤ 45 by omega), (show 8 + (4 + 11) + 24 * (14 + 6 * 5) ≤ 24 * (45) by omega)⟩ rfl rfl (Nat.le_of_ble_eq_true rfl) ⟨Nat.zero_le _, Nat.zero_le _⟩ dX2_readPart_35 (fun r u H locs hp hW _ _ => ?_)
        obtain ⟨rfl, rfl⟩ := hp
        refine lv_as (z := bI (orR (σ 2) z (loR (σ 2) z 5) ((tokR (σ 2) z key x).2)).1) rfl ?_
        have hW : XW D cs ad n ρ TT τ (rsS (upR σ 5 pt (nI x.2.2.2.2.length)) ((orR (σ 2) z (loR (σ 2) z 5) ((tokR (σ 2) z key x).2)).2)) A s s.heap H locs := hW
        refine lv_if_eq (tgt := 54) hx hb dX2_readPart_38 (by decide) (fun c_4 => ?_) (fun c_4 => ?_)
        ·
          refine lv_iconst (v := 0) hx hb dX2_readPart_54 (by decide) ?_
          exact hret 0 (rsS (upR σ 5 pt (nI x.2.2.2.2.length)) ((orR (σ 2) z (loR (σ 2) z 5) ((tokR (σ 2) z key x).2)).2)) _ _ _ _ _ hW rfl rfl (by rw [part_1 (bI_1 c_3) (bI_0 c_4)]; exact ⟨(congrArg bI (bI_0 c_4)).symm, rfl⟩) dX2_readPart_55
        ·
          refine lv_aload_n hx hb dX2_readPart_41 rfl (lv_at hl 0 rfl) ?_
          refine lv_bipush (v := 59) hx hb dX2_readPart_42 (by decide) ?_
          refine gw_callVi (rm := (roomF 8)) (As := [.int 59]) (rest := []) F hl.1 hW (xs_hE hE hA hsz hW) XS_E (by omega) xe_3 rfl (rX2_readToken (σ := upR σ 5 pt (nI x.2.2.2.2.length)) hz hz1 (Nat.le_refl 8) ((orR (σ 2) z (loR (σ 2) z 5) ((tokR (σ 2) z key x).2)).2) _ (kp_or (kp_lo (σ 2) z 5) _ (kp_tok _ (hok)))) pd_yX2_readToken ml_RX2_41 im_yX2_readToken se_yX2_readToken ini_RX2 cd_yX2_readToken ⟨rfl, rfl⟩ ⟨(show 8 + 1 ≤ 45 by omega), (show 8 + (2 + 11) + 24 * (8) ≤ 24 * (45) by omega)⟩ rfl rfl (Nat.le_of_ble_eq_true rfl) ⟨Nat.zero_le _, Nat.zero_le _⟩ dX2_readPart_44 (fun r u H locs hp hW _ _ => ?_)
          obtain ⟨rfl, rfl⟩ := hp
          refine lv_as (z := bI (tokR (σ 2) z 59 ((orR (σ 2) z (loR (σ 2) z 5) ((tokR (σ 2) z key x).2)).2)).1) rfl ?_
          have hW : XW D cs ad n ρ TT τ (rsS (upR σ 5 pt (nI x.2.2.2.2.length)) ((tokR (σ 2) z 59 ((orR (σ 2) z (loR (σ 2) z 5) ((tokR (σ 2) z key x).2)).2)).2)) A s s.heap H locs := hW
          refine lv_if_eq (tgt := 54) hx hb dX2_readPart_47 (by decide) (fun c_5 => ?_) (fun c_5 => ?_)
          ·
            refine lv_iconst (v := 0) hx hb dX2_readPart_54 (by decide) ?_
            exact hret 0 (rsS (upR σ 5 pt (nI x.2.2.2.2.length)) ((tokR (σ 2) z 59 ((orR (σ 2) z (loR (σ 2) z 5) ((tokR (σ 2) z key x).2)).2)).2)) _ _ _ _ _ hW rfl rfl (by rw [part_2 (bI_1 c_3) (bI_1 c_4)]; exact ⟨(congrArg bI (bI_0 c_5)).symm, rfl⟩) dX2_readPart_55
          ·
            refine lv_iconst (v := 1) hx hb dX2_readPart_50 (by decide) ?_
            refine lv_goto (tgt := 55) hx hb dX2_readPart_51 (by decide) ?_
            exact hret 1 (rsS (upR σ 5 pt (nI x.2.2.2.2.length)) ((tokR (σ 2) z 59 ((orR (σ 2) z (loR (σ 2) z 5) ((tokR (σ 2) z key x).2)).2)).2)) _ _ _ _ _ hW rfl rfl (by rw [part_2 (bI_1 c_3) (bI_1 c_4)]; exact ⟨(congrArg bI (bI_1 c_5)).symm, rfl⟩) dX2_readPart_55
    ·
      exact absurd (mi_nlt (a := pt) (b := 4) c_2 (by omega) (by decide)) (by omega)
theorem b_5 (σ : Nat → Nat → Int32) (w : Nat → Int32) (j : Nat) (v : Int32) : upR (va_up σ 5 w) 5 j v = va_up σ 5 (upd w j v) := by
  unfold upR; rw [va_up_self, bx_uu]
theorem rs_start (σ : Nat → Nat → Int32) (z : Nat) (m0 : Int32) : tpS (upR σ 3 3 0) (nI (nxA (σ 2) z (skpG (σ 2) z 161 0))) (nxK (σ 2) z (skpG (σ 2) z 161 0)) (nI (skpG (σ 2) z 161 0)) (nxM (σ 2) z (skpG (σ 2) z 161 0) m0) = rsS (va_up σ 5 (σ 5)) (rs0 (σ 2) z m0) := by
  rw [rd_nil, va_up_eta]; rfl
theorem tp_get (σ : Nat → Nat → Int32) : σ = tpS σ (σ 1 2) (σ 1 3) (σ 1 4) (σ 1 5) := (tp_eta σ).symm
abbrev rm_yX2_faultPlace : Room := { frames := 47, cells := 0, slots := 0, locals := 1128 }
set_option maxHeartbeats 800000 in
set_option maxRecDepth 100000 in
theorem kX2_faultPlace {l : Launch} {D : va_G} {cs : Nat → ClassId} {ad : Nat → Nat} {n : Nat} {ρ σ : Nat → Nat → Int32} {TT τ : Nat → Nat → Nat → Int32} {adK adV : Nat → Nat} {z : Nat} {sz : Nat} (hz : σ 1 1 = nI z) (hz1 : z ≤ 160) : XSi l yX2_faultPlace cX2_faultPlace 2 .int rm_yX2_faultPlace [.ref (ad 3)] D cs ad n ρ TT τ σ sz adK adV (fun (r : Int32) (u : Nat → Nat → Int32) => r = fauP (σ 2) z (σ 1 5) ∧ ∃ w5 : Nat → Int32, u = rsS (va_up σ 5 w5) (thR (σ 2) z (σ 1 5) 3).2 ∧ ((thR (σ 2) z (σ 1 5) 3).1 = true → ∀ k, k < 4 → w5 k = stR (σ 2) z (σ 1 5) k)) (fun u : Nat → Nat → Int32 => xent ad cs n ρ TT τ u) := by
  refine gw_stIs (Ff := fun u : Nat → Nat → Int32 => xent ad cs n ρ TT τ u) (own := RX2) (by decide +kernel) rfl (Nat.le_of_ble_eq_true rfl) ?_
  intro p e s m ar below meth c A Q F hE hsz hA hW hret ls hl
  obtain ⟨hx, hb, hml, hown, hts⟩ := id F
  have hl : lv_has ls 2 [(0, .ref (ad 3))] := hl
  refine lv_aload_n hx hb dX2_faultPlace_0 rfl (lv_at hl 0 rfl) ?_
  refine lv_iconst (v := 0) hx hb dX2_faultPlace_1 (by decide) ?_
  refine xw_D F hW 3 (by decide) fl_RX2_22 rfl (ty := .int) rfl rfl rfl rfl dX2_faultPlace_2 (fun H locs hW => ?_)
  refine lv_aload_n hx hb dX2_faultPlace_5 rfl (lv_at hl 0 rfl) ?_
  refine xr_D F hW 0 (by decide) rfl fl_RX2_9 dX2_faultPlace_6 ?_
  rw [tp_get (upR σ 3 3 0)] at hW
  refine gw_callVv (rm := rm_yX5_startA) (As := []) (rest := []) F hl.1 hW (xs_hE hE hA hsz hW) XS_E (by omega) xe_1 rfl (kX5_startA (adK := adK) (adV := adV) (σ := upR σ 3 3 0) (z := z) hz hz1) pd_yX5_start ml_RX2_26 im_yX5_start se_yX5_start ini_RX5 cd_yX5_start ⟨rfl, rfl⟩ ⟨Nat.le_of_ble_eq_true rfl, Nat.le_of_ble_eq_true rfl⟩ rfl rfl (Nat.le_of_ble_eq_true rfl) ⟨Nat.zero_le _, Nat.zero_le _⟩ dX2_faultPlace_9 (fun σ_1 H locs hp hW _ _ => ?_)
  have hp := hp.trans (rs_start σ z (σ 1 5))
  subst hp
  have hW : XW D cs ad n ρ TT τ (rsS (va_up σ 5 (σ 5)) ((thR (σ 2) z (σ 1 5) 0).2)) A s s.heap H locs := hW
  refine lv_aload_n hx hb dX2_faultPlace_12 rfl (lv_at hl 0 rfl) ?_
  refine lv_iconst (v := 0) hx hb dX2_faultPlace_13 (by decide) ?_
  refine lv_bipush (v := (-10)) hx hb dX2_faultPlace_14 (by decide) ?_
  refine lv_as (z := -(nI (0 + 10))) (by decide) ?_
  refine gw_callVi (rm := roomF 45) (As := [.int (nI 0), .int (-(nI (0 + 10)))]) (rest := []) F hl.1 hW (xs_hE hE hA hsz hW) XS_E (by omega) xe_3 rfl (rX2_readPart (σ := va_up σ 5 (σ 5)) (pt := 0) hz hz1 (by decide) (thR (σ 2) z (σ 1 5) 0).2 _ (th_ok 0)) pd_yX2_readPart ml_RX2_31 im_yX2_readPart se_yX2_readPart ini_RX2 cd_yX2_readPart ⟨rfl, rfl⟩ ⟨Nat.le_of_ble_eq_true rfl, Nat.le_of_ble_eq_true rfl⟩ rfl rfl (Nat.le_of_ble_eq_true rfl) ⟨Nat.zero_le _, Nat.zero_le _⟩ dX2_faultPlace_16 (fun r σ_2 H locs hp hW _ _ => ?_)
  have hp : r = bI (thR (σ 2) z (σ 1 5) 1).1 ∧ σ_2 = rsS (va_up σ 5 (upd (σ 5) 0 (nI (thR (σ 2) z (σ 1 5) 0).2.2.2.2.2.length))) (thR (σ 2) z (σ 1 5) 1).2 := by rw [th_y rfl, ← b_5]; exact hp
  obtain ⟨rfl, rfl⟩ := hp
  refine lv_if_eq (tgt := 46) hx hb dX2_faultPlace_19 (by decide) (fun c_1 => ?_) (fun c_1 => ?_)
  ·
    have f1 := bI_0 c_1; have e2 := th_n f1; have e3 : (thR (σ 2) z (σ 1 5) 3) = (thR (σ 2) z (σ 1 5) 1) := (th_n (e2 ▸ f1)).trans e2; have f3 : (thR (σ 2) z (σ 1 5) 3).1 = false := by rw [e3]; exact f1
    refine lv_iconst (v := 0) hx hb dX2_faultPlace_46 (by decide) ?_
    refine lv_istore_n (lv' := [(1, .int 0), (0, .ref (ad 3))]) hx hb dX2_faultPlace_47 rfl hl (by decide) rfl (fun ls hl => ?_)
    refine lv_aload_n hx hb dX2_faultPlace_48 rfl (lv_at hl 1 rfl) ?_
    refine xr_D F hW 2 (by decide) rfl fl_RX2_19 dX2_faultPlace_49 ?_
    refine lv_iconst (v := 3) hx hb dX2_faultPlace_52 (by decide) ?_
    refine lv_aload_n hx hb dX2_faultPlace_53 rfl (lv_at hl 1 rfl) ?_
    refine xr_D F hW 3 (by decide) rfl fl_RX2_22 dX2_faultPlace_54 ?_
    refine lv_as (z := nI ((thR (σ 2) z (σ 1 5) 1).2).2.2.2.2.length) (rs_len _ _) ?_
    refine xw_We F hW (vp_in_nI (n := 3) (by decide) (by decide)) dX2_faultPlace_57 (fun H locs hW => ?_)
    have hW : XW D cs ad n ρ TT τ (rsS (va_up σ 5 (upd (upd (σ 5) 0 (nI (thR (σ 2) z (σ 1 5) 0).2.2.2.2.2.length)) 3 (nI ((thR (σ 2) z (σ 1 5) 1).2).2.2.2.2.length))) ((thR (σ 2) z (σ 1 5) 1).2)) A s s.heap H locs := by rw [rs_5, b_5] at hW; exact hW
    refine lv_iload_n hx hb dX2_faultPlace_58 rfl (lv_at hl 0 rfl) ?_
    refine lv_if_eq (tgt := 76) hx hb dX2_faultPlace_59 (by decide) (fun c_2 => ?_) (fun c_2 => ?_)
    ·
      refine lv_aload_n hx hb dX2_faultPlace_76 rfl (lv_at hl 1 rfl) ?_
      refine xr_D F hW 0 (by decide) rfl fl_RX2_9 dX2_faultPlace_77 ?_
      refine xr_P F hW 4 (by decide) rfl fl_RX2_38 dX2_faultPlace_80 ?_
      refine lv_as (z := nI (((thR (σ 2) z (σ 1 5) 1).2).2.2.1)) rfl ?_
      exact hret (nI (((thR (σ 2) z (σ 1 5) 1).2).2.2.1)) (rsS (va_up σ 5 (upd (upd (σ 5) 0 (nI (thR (σ 2) z (σ 1 5) 0).2.2.2.2.2.length)) 3 (nI ((thR (σ 2) z (σ 1 5) 1).2).2.2.2.2.length))) ((thR (σ 2) z (σ 1 5) 1).2)) _ _ _ _ _ hW rfl rfl (by refine ⟨(by rw [fau_0 f3]; rw [e3]), upd (upd (σ 5) 0 (nI (thR (σ 2) z (σ 1 5) 0).2.2.2.2.2.length)) 3 (nI ((thR (σ 2) z (σ 1 5) 1).2).2.2.2.2.length), (by rw [e3]), fun h => absurd (h.symm.trans f3) (by decide)⟩) dX2_faultPlace_83
    ·
      exact absurd c_2 (by decide)
  ·
    refine lv_aload_n hx hb dX2_faultPlace_22 rfl (lv_at hl 0 rfl) ?_
    refine lv_iconst (v := 1) hx hb dX2_faultPlace_23 (by decide) ?_
    refine lv_bipush (v := (-11)) hx hb dX2_faultPlace_24 (by decide) ?_
    refine lv_as (z := -(nI (1 + 10))) (by decide) ?_
    refine gw_callVi (rm := roomF 45) (As := [.int (nI 1), .int (-(nI (1 + 10)))]) (rest := []) F hl.1 hW (xs_hE hE hA hsz hW) XS_E (by omega) xe_3 rfl (rX2_readPart (σ := va_up σ 5 (upd (σ 5) 0 (nI (thR (σ 2) z (σ 1 5) 0).2.2.2.2.2.length))) (pt := 1) hz hz1 (by decide) (thR (σ 2) z (σ 1 5) 1).2 _ (th_ok 1)) pd_yX2_readPart ml_RX2_31 im_yX2_readPart se_yX2_readPart ini_RX2 cd_yX2_readPart ⟨rfl, rfl⟩ ⟨Nat.le_of_ble_eq_true rfl, Nat.le_of_ble_eq_true rfl⟩ rfl rfl (Nat.le_of_ble_eq_true rfl) ⟨Nat.zero_le _, Nat.zero_le _⟩ dX2_faultPlace_26 (fun r σ_3 H locs hp hW _ _ => ?_)
    have hp : r = bI (thR (σ 2) z (σ 1 5) 2).1 ∧ σ_3 = rsS (va_up σ 5 (upd (upd (σ 5) 0 (nI (thR (σ 2) z (σ 1 5) 0).2.2.2.2.2.length)) 1 (nI (thR (σ 2) z (σ 1 5) 1).2.2.2.2.2.length))) (thR (σ 2) z (σ 1 5) 2).2 := by rw [th_y (bI_1 c_1), ← b_5]; exact hp
    obtain ⟨rfl, rfl⟩ := hp
    refine lv_if_eq (tgt := 46) hx hb dX2_faultPlace_29 (by decide) (fun c_3 => ?_) (fun c_3 => ?_)
    ·
      have f2 := bI_0 c_3; have e3 := th_n f2; have f3 : (thR (σ 2) z (σ 1 5) 3).1 = false := by rw [e3]; exact f2
      refine lv_iconst (v := 0) hx hb dX2_faultPlace_46 (by decide) ?_
      refine lv_istore_n (lv' := [(1, .int 0), (0, .ref (ad 3))]) hx hb dX2_faultPlace_47 rfl hl (by decide) rfl (fun ls hl => ?_)
      refine lv_aload_n hx hb dX2_faultPlace_48 rfl (lv_at hl 1 rfl) ?_
      refine xr_D F hW 2 (by decide) rfl fl_RX2_19 dX2_faultPlace_49 ?_
      refine lv_iconst (v := 3) hx hb dX2_faultPlace_52 (by decide) ?_
      refine lv_aload_n hx hb dX2_faultPlace_53 rfl (lv_at hl 1 rfl) ?_
      refine xr_D F hW 3 (by decide) rfl fl_RX2_22 dX2_faultPlace_54 ?_
      refine lv_as (z := nI ((thR (σ 2) z (σ 1 5) 2).2).2.2.2.2.length) (rs_len _ _) ?_
      refine xw_We F hW (vp_in_nI (n := 3) (by decide) (by decide)) dX2_faultPlace_57 (fun H locs hW => ?_)
      have hW : XW D cs ad n ρ TT τ (rsS (va_up σ 5 (upd (upd (upd (σ 5) 0 (nI (thR (σ 2) z (σ 1 5) 0).2.2.2.2.2.length)) 1 (nI (thR (σ 2) z (σ 1 5) 1).2.2.2.2.2.length)) 3 (nI ((thR (σ 2) z (σ 1 5) 2).2).2.2.2.2.length))) ((thR (σ 2) z (σ 1 5) 2).2)) A s s.heap H locs := by rw [rs_5, b_5] at hW; exact hW
      refine lv_iload_n hx hb dX2_faultPlace_58 rfl (lv_at hl 0 rfl) ?_
      refine lv_if_eq (tgt := 76) hx hb dX2_faultPlace_59 (by decide) (fun c_4 => ?_) (fun c_4 => ?_)
      ·
        refine lv_aload_n hx hb dX2_faultPlace_76 rfl (lv_at hl 1 rfl) ?_
        refine xr_D F hW 0 (by decide) rfl fl_RX2_9 dX2_faultPlace_77 ?_
        refine xr_P F hW 4 (by decide) rfl fl_RX2_38 dX2_faultPlace_80 ?_
        refine lv_as (z := nI (((thR (σ 2) z (σ 1 5) 2).2).2.2.1)) rfl ?_
        exact hret (nI (((thR (σ 2) z (σ 1 5) 2).2).2.2.1)) (rsS (va_up σ 5 (upd (upd (upd (σ 5) 0 (nI (thR (σ 2) z (σ 1 5) 0).2.2.2.2.2.length)) 1 (nI (thR (σ 2) z (σ 1 5) 1).2.2.2.2.2.length)) 3 (nI ((thR (σ 2) z (σ 1 5) 2).2).2.2.2.2.length))) ((thR (σ 2) z (σ 1 5) 2).2)) _ _ _ _ _ hW rfl rfl (by refine ⟨(by rw [fau_0 f3]; rw [e3]), upd (upd (upd (σ 5) 0 (nI (thR (σ 2) z (σ 1 5) 0).2.2.2.2.2.length)) 1 (nI (thR (σ 2) z (σ 1 5) 1).2.2.2.2.2.length)) 3 (nI ((thR (σ 2) z (σ 1 5) 2).2).2.2.2.2.length), (by rw [e3]), fun h => absurd (h.symm.trans f3) (by decide)⟩) dX2_faultPlace_83
      ·
        exact absurd c_4 (by decide)
    ·
      refine lv_aload_n hx hb dX2_faultPlace_32 rfl (lv_at hl 0 rfl) ?_
      refine lv_iconst (v := 2) hx hb dX2_faultPlace_33 (by decide) ?_
      refine lv_bipush (v := (-12)) hx hb dX2_faultPlace_34 (by decide) ?_
      refine lv_as (z := -(nI (2 + 10))) (by decide) ?_
      refine gw_callVi (rm := roomF 45) (As := [.int (nI 2), .int (-(nI (2 + 10)))]) (rest := []) F hl.1 hW (xs_hE hE hA hsz hW) XS_E (by omega) xe_3 rfl (rX2_readPart (σ := va_up σ 5 (upd (upd (σ 5) 0 (nI (thR (σ 2) z (σ 1 5) 0).2.2.2.2.2.length)) 1 (nI (thR (σ 2) z (σ 1 5) 1).2.2.2.2.2.length))) (pt := 2) hz hz1 (by decide) (thR (σ 2) z (σ 1 5) 2).2 _ (th_ok 2)) pd_yX2_readPart ml_RX2_31 im_yX2_readPart se_yX2_readPart ini_RX2 cd_yX2_readPart ⟨rfl, rfl⟩ ⟨Nat.le_of_ble_eq_true rfl, Nat.le_of_ble_eq_true rfl⟩ rfl rfl (Nat.le_of_ble_eq_true rfl) ⟨Nat.zero_le _, Nat.zero_le _⟩ dX2_faultPlace_36 (fun r σ_4 H locs hp hW _ _ => ?_)
      have hp : r = bI (thR (σ 2) z (σ 1 5) 3).1 ∧ σ_4 = rsS (va_up σ 5 (upd (upd (upd (σ 5) 0 (nI (thR (σ 2) z (σ 1 5) 0).2.2.2.2.2.length)) 1 (nI (thR (σ 2) z (σ 1 5) 1).2.2.2.2.2.length)) 2 (nI (thR (σ 2) z (σ 1 5) 2).2.2.2.2.2.length))) (thR (σ 2) z (σ 1 5) 3).2 := by rw [th_y (bI_1 c_3), ← b_5]; exact hp
      obtain ⟨rfl, rfl⟩ := hp
      refine lv_if_eq (tgt := 46) hx hb dX2_faultPlace_39 (by decide) (fun c_5 => ?_) (fun c_5 => ?_)
      ·
        have f3 := bI_0 c_5
        refine lv_iconst (v := 0) hx hb dX2_faultPlace_46 (by decide) ?_
        refine lv_istore_n (lv' := [(1, .int 0), (0, .ref (ad 3))]) hx hb dX2_faultPlace_47 rfl hl (by decide) rfl (fun ls hl => ?_)
        refine lv_aload_n hx hb dX2_faultPlace_48 rfl (lv_at hl 1 rfl) ?_
        refine xr_D F hW 2 (by decide) rfl fl_RX2_19 dX2_faultPlace_49 ?_
        refine lv_iconst (v := 3) hx hb dX2_faultPlace_52 (by decide) ?_
        refine lv_aload_n hx hb dX2_faultPlace_53 rfl (lv_at hl 1 rfl) ?_
        refine xr_D F hW 3 (by decide) rfl fl_RX2_22 dX2_faultPlace_54 ?_
        refine lv_as (z := nI ((thR (σ 2) z (σ 1 5) 3).2).2.2.2.2.length) (rs_len _ _) ?_
        refine xw_We F hW (vp_in_nI (n := 3) (by decide) (by decide)) dX2_faultPlace_57 (fun H locs hW => ?_)
        have hW : XW D cs ad n ρ TT τ (rsS (va_up σ 5 (upd (upd (upd (upd (σ 5) 0 (nI (thR (σ 2) z (σ 1 5) 0).2.2.2.2.2.length)) 1 (nI (thR (σ 2) z (σ 1 5) 1).2.2.2.2.2.length)) 2 (nI (thR (σ 2) z (σ 1 5) 2).2.2.2.2.2.length)) 3 (nI ((thR (σ 2) z (σ 1 5) 3).2).2.2.2.2.length))) ((thR (σ 2) z (σ 1 5) 3).2)) A s s.heap H locs := by rw [rs_5, b_5] at hW; exact hW
        refine lv_iload_n hx hb dX2_faultPlace_58 rfl (lv_at hl 0 rfl) ?_
        refine lv_if_eq (tgt := 76) hx hb dX2_faultPlace_59 (by decide) (fun c_6 => ?_) (fun c_6 => ?_)
        ·
          refine lv_aload_n hx hb dX2_faultPlace_76 rfl (lv_at hl 1 rfl) ?_
          refine xr_D F hW 0 (by decide) rfl fl_RX2_9 dX2_faultPlace_77 ?_
          refine xr_P F hW 4 (by decide) rfl fl_RX2_38 dX2_faultPlace_80 ?_
          refine lv_as (z := nI (((thR (σ 2) z (σ 1 5) 3).2).2.2.1)) rfl ?_
          exact hret (nI (((thR (σ 2) z (σ 1 5) 3).2).2.2.1)) (rsS (va_up σ 5 (upd (upd (upd (upd (σ 5) 0 (nI (thR (σ 2) z (σ 1 5) 0).2.2.2.2.2.length)) 1 (nI (thR (σ 2) z (σ 1 5) 1).2.2.2.2.2.length)) 2 (nI (thR (σ 2) z (σ 1 5) 2).2.2.2.2.2.length)) 3 (nI ((thR (σ 2) z (σ 1 5) 3).2).2.2.2.2.length))) ((thR (σ 2) z (σ 1 5) 3).2)) _ _ _ _ _ hW rfl rfl (by refine ⟨(by rw [fau_0 f3]), upd (upd (upd (upd (σ 5) 0 (nI (thR (σ 2) z (σ 1 5) 0).2.2.2.2.2.length)) 1 (nI (thR (σ 2) z (σ 1 5) 1).2.2.2.2.2.length)) 2 (nI (thR (σ 2) z (σ 1 5) 2).2.2.2.2.2.length)) 3 (nI ((thR (σ 2) z (σ 1 5) 3).2).2.2.2.2.length), (by rfl), fun h => absurd (h.symm.trans f3) (by decide)⟩) dX2_faultPlace_83
        ·
          exact absurd c_6 (by decide)
      ·
        refine lv_iconst (v := 1) hx hb dX2_faultPlace_42 (by decide) ?_
        refine lv_goto (tgt := 47) hx hb dX2_faultPlace_43 (by decide) ?_
        refine lv_istore_n (lv' := [(1, .int 1), (0, .ref (ad 3))]) hx hb dX2_faultPlace_47 rfl hl (by decide) rfl (fun ls hl => ?_)
        refine lv_aload_n hx hb dX2_faultPlace_48 rfl (lv_at hl 1 rfl) ?_
        refine xr_D F hW 2 (by decide) rfl fl_RX2_19 dX2_faultPlace_49 ?_
        refine lv_iconst (v := 3) hx hb dX2_faultPlace_52 (by decide) ?_
        refine lv_aload_n hx hb dX2_faultPlace_53 rfl (lv_at hl 1 rfl) ?_
        refine xr_D F hW 3 (by decide) rfl fl_RX2_22 dX2_faultPlace_54 ?_
        refine lv_as (z := nI ((thR (σ 2) z (σ 1 5) 3).2).2.2.2.2.length) (rs_len _ _) ?_
        refine xw_We F hW (vp_in_nI (n := 3) (by decide) (by decide)) dX2_faultPlace_57 (fun H locs hW => ?_)
        have hW : XW D cs ad n ρ TT τ (rsS (va_up σ 5 (upd (upd (upd (upd (σ 5) 0 (nI (thR (σ 2) z (σ 1 5) 0).2.2.2.2.2.length)) 1 (nI (thR (σ 2) z (σ 1 5) 1).2.2.2.2.2.length)) 2 (nI (thR (σ 2) z (σ 1 5) 2).2.2.2.2.2.length)) 3 (nI ((thR (σ 2) z (σ 1 5) 3).2).2.2.2.2.length))) ((thR (σ 2) z (σ 1 5) 3).2)) A s s.heap H locs := by rw [rs_5, b_5] at hW; exact hW
        refine lv_iload_n hx hb dX2_faultPlace_58 rfl (lv_at hl 0 rfl) ?_
        refine lv_if_eq (tgt := 76) hx hb dX2_faultPlace_59 (by decide) (fun c_7 => ?_) (fun c_7 => ?_)
        ·
          exact absurd c_7 (by decide)
        ·
          refine lv_aload_n hx hb dX2_faultPlace_62 rfl (lv_at hl 1 rfl) ?_
          refine xr_D F hW 0 (by decide) rfl fl_RX2_9 dX2_faultPlace_63 ?_
          refine xr_P F hW 3 (by decide) rfl fl_RX2_35 dX2_faultPlace_66 ?_
          refine lv_as (z := ((thR (σ 2) z (σ 1 5) 3).2).2.1) rfl ?_
          refine lv_if_ne (tgt := 76) hx hb dX2_faultPlace_69 (by decide) (fun c_8 => ?_) (fun c_8 => ?_)
          ·
            refine lv_aload_n hx hb dX2_faultPlace_76 rfl (lv_at hl 1 rfl) ?_
            refine xr_D F hW 0 (by decide) rfl fl_RX2_9 dX2_faultPlace_77 ?_
            refine xr_P F hW 4 (by decide) rfl fl_RX2_38 dX2_faultPlace_80 ?_
            refine lv_as (z := nI (((thR (σ 2) z (σ 1 5) 3).2).2.2.1)) rfl ?_
            exact hret (nI (((thR (σ 2) z (σ 1 5) 3).2).2.2.1)) (rsS (va_up σ 5 (upd (upd (upd (upd (σ 5) 0 (nI (thR (σ 2) z (σ 1 5) 0).2.2.2.2.2.length)) 1 (nI (thR (σ 2) z (σ 1 5) 1).2.2.2.2.2.length)) 2 (nI (thR (σ 2) z (σ 1 5) 2).2.2.2.2.2.length)) 3 (nI ((thR (σ 2) z (σ 1 5) 3).2).2.2.2.2.length))) ((thR (σ 2) z (σ 1 5) 3).2)) _ _ _ _ _ hW rfl rfl (by refine ⟨(by rw [fau_1 (bI_1 c_5) c_8]), upd (upd (upd (upd (σ 5) 0 (nI (thR (σ 2) z (σ 1 5) 0).2.2.2.2.2.length)) 1 (nI (thR (σ 2) z (σ 1 5) 1).2.2.2.2.2.length)) 2 (nI (thR (σ 2) z (σ 1 5) 2).2.2.2.2.2.length)) 3 (nI ((thR (σ 2) z (σ 1 5) 3).2).2.2.2.2.length), rfl, fun h k hk => by rcases (show k = 0 ∨ k = 1 ∨ k = 2 ∨ k = 3 by omega) with rfl | rfl | rfl | rfl <;> rfl⟩) dX2_faultPlace_83
          ·
            refine lv_iconst (v := (-1)) hx hb dX2_faultPlace_72 (by decide) ?_
            refine lv_goto (tgt := 83) hx hb dX2_faultPlace_73 (by decide) ?_
            exact hret (-1) (rsS (va_up σ 5 (upd (upd (upd (upd (σ 5) 0 (nI (thR (σ 2) z (σ 1 5) 0).2.2.2.2.2.length)) 1 (nI (thR (σ 2) z (σ 1 5) 1).2.2.2.2.2.length)) 2 (nI (thR (σ 2) z (σ 1 5) 2).2.2.2.2.2.length)) 3 (nI ((thR (σ 2) z (σ 1 5) 3).2).2.2.2.2.length))) ((thR (σ 2) z (σ 1 5) 3).2)) _ _ _ _ _ hW rfl rfl (by refine ⟨(by rw [fau_2 (bI_1 c_5) c_8]), upd (upd (upd (upd (σ 5) 0 (nI (thR (σ 2) z (σ 1 5) 0).2.2.2.2.2.length)) 1 (nI (thR (σ 2) z (σ 1 5) 1).2.2.2.2.2.length)) 2 (nI (thR (σ 2) z (σ 1 5) 2).2.2.2.2.2.length)) 3 (nI ((thR (σ 2) z (σ 1 5) 3).2).2.2.2.2.length), rfl, fun h k hk => by rcases (show k = 0 ∨ k = 1 ∨ k = 2 ∨ k = 3 by omega) with rfl | rfl | rfl | rfl <;> rfl⟩) dX2_faultPlace_83
