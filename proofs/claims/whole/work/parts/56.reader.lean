/-! ===== the reader, walked ===== -/
def bI (b : Bool) : Int32 := if b then 1 else 0
theorem bI_n (b : Bool) : narrow .boolean (.int (bI b)) = .int (bI b) := by cases b <;> rfl
theorem bI_0 {b : Bool} (h : bI b = 0) : b = false := by cases b with | false => rfl | true => exact absurd h (by decide)
theorem bI_1 {b : Bool} (h : ¬ bI b = 0) : b = true := by cases b with | true => rfl | false => exact absurd rfl h
def roomF (Fr : Nat) : Room := { frames := Fr, cells := 0, slots := 0, locals := 24 * Fr }
def RdC (l : Launch) (D : va_G) (cs : Nat → ClassId) (ad : Nat → Nat) (n : Nat) (ρ : Nat → Nat → Int32) (TT τ : Nat → Nat → Nat → Int32) (σ : Nat → Nat → Int32) (z : Nat) (adK adV : Nat → Nat) (f : Rf) (y : MethodName) (cc : ByteArray) (nL Fr : Nat) (ex : List Value) : Prop :=
  ∀ (x : Rs) (sz : Nat), okR z x → XSi l y cc nL .boolean (roomF Fr) (.ref (ad 3) :: ex) D cs ad n ρ TT τ (rsS σ x) sz adK adV (fun (r : Int32) (u : Nat → Nat → Int32) => r = bI (f x).1 ∧ u = rsS σ (f x).2) (fun u : Nat → Nat → Int32 => xent ad cs n ρ TT τ u)
def kpR (z : Nat) (f : Rf) : Prop := ∀ x, okR z x → okR z (f x).2
theorem kp_row {β : Nat → Int32} {z : Nat} {f : Rf} (hf : kpR z f) (op : Int32 → Option Int32) : ∀ (w : Nat) (r : Bool × Rs), okR z r.2 → okR z (rowR β z f op w r).2
  | 0, r, h => h
  | w + 1, r, h => by
    unfold rowR
    split
    · split
      · exact kp_row hf op w _ (okR_wr (hf _ (okR_nx h)) _)
      · exact h
    · exact h
theorem kp_tok {β : Nat → Int32} {z : Nat} {v : Int32} : kpR z (tokR β z v) := fun x h => by
  unfold tokR
  split
  · exact okR_nx h
  · exact h
def kpLo (z : Nat) (lo : Rlo) : Prop := ∀ d, lo = some d → kpR z d.1 ∧ kpR z d.2.1 ∧ kpR z d.2.2
theorem kp_one {β : Nat → Int32} {z : Nat} {lo : Rlo} (h : kpLo z lo) : kpR z (oneR β z lo) := fun x hx => by
  unfold oneR
  split
  · exact okR_nx (okR_wr hx _)
  · split
    · exact hx
    · next d =>
      obtain ⟨h1, h2, h3⟩ := h d rfl
      split
      · split
        · exact kp_tok _ (h3 _ (okR_nx hx))
        · exact h3 _ (okR_nx hx)
      · split
        · exact okR_wr (h1 _ (okR_nx hx)) _
        · exact hx
theorem kp_term {β : Nat → Int32} {z : Nat} {lo : Rlo} (h : kpLo z lo) : kpR z (termR β z lo) := fun x hx => kp_row (kp_one h) _ _ _ (kp_one h x hx)
theorem kp_sum {β : Nat → Int32} {z : Nat} {lo : Rlo} (h : kpLo z lo) : kpR z (sumR β z lo) := fun x hx => kp_row (kp_term h) _ _ _ (kp_term h x hx)
theorem kp_not {β : Nat → Int32} {z : Nat} {lo : Rlo} (h : kpLo z lo) : kpR z (notR β z lo) := fun x hx => by
  unfold notR
  split
  · split
    · exact hx
    · next d => exact okR_wr ((h d rfl).2.1 _ (okR_nx hx)) _
  · split
    · exact okR_wr (kp_sum h _ (okR_nx (kp_sum h x hx))) _
    · exact kp_sum h x hx
theorem kp_and {β : Nat → Int32} {z : Nat} {lo : Rlo} (h : kpLo z lo) : kpR z (andR β z lo) := fun x hx => kp_row (kp_not h) _ _ _ (kp_not h x hx)
theorem kp_or {β : Nat → Int32} {z : Nat} {lo : Rlo} (h : kpLo z lo) : kpR z (orR β z lo) := fun x hx => kp_row (kp_and h) _ _ _ (kp_and h x hx)
theorem kp_lo (β : Nat → Int32) (z : Nat) : ∀ d, kpLo z (loR β z d)
  | 0 => fun d h => by cases h
  | d + 1 => fun e h => by
    have hd := kp_lo β z d
    cases h
    exact ⟨kp_one hd, kp_not hd, kp_or hd⟩
theorem row_0 {β : Nat → Int32} {z : Nat} {f : Rf} {op : Int32 → Option Int32} {r : Bool × Rs} : rowR β z f op 0 r = r := rfl
theorem row_f {β : Nat → Int32} {z : Nat} {f : Rf} {op : Int32 → Option Int32} {w : Nat} {r : Bool × Rs} (h : r.1 = false) : rowR β z f op w r = r := by
  cases w with
  | zero => rfl
  | succ w => unfold rowR; rw [h]; rfl
theorem row_n {β : Nat → Int32} {z : Nat} {f : Rf} {op : Int32 → Option Int32} {w : Nat} {r : Bool × Rs} (h : op r.2.2.1 = none) : rowR β z f op w r = r := by
  cases w with
  | zero => rfl
  | succ w =>
    unfold rowR; rw [h]
    by_cases q : r.1 = true
    · rw [if_pos q]
    · rw [if_neg q]
theorem row_s {β : Nat → Int32} {z : Nat} {f : Rf} {op : Int32 → Option Int32} {w : Nat} {r : Bool × Rs} {c : Int32} (h1 : r.1 = true) (h : op r.2.2.1 = some c) : rowR β z f op (w + 1) r = rowR β z f op w ((f (nxR β z r.2)).1, wrR c (f (nxR β z r.2)).2) := by
  rw [rowR, if_pos h1, h]

abbrev isNN (x : Rs) : Prop := x.2.1 = 2 ∨ (x.2.1 ≤ -1 ∧ -6 ≤ x.2.1)
theorem one_none {β : Nat → Int32} {z : Nat} {x : Rs} (h : ¬ isNN x) : oneR β z none x = (false, x) := if_neg h
theorem one_s {β : Nat → Int32} {z : Nat} {x : Rs} {d : Rf × Rf × Rf} (h : ¬ isNN x) : oneR β z (some d) x = if x.2.1 = 40 then (if (d.2.2 (nxR β z x)).1 then tokR β z 41 (d.2.2 (nxR β z x)).2 else d.2.2 (nxR β z x)) else if x.2.1 = 45 then ((d.1 (nxR β z x)).1, wrR (-18) (d.1 (nxR β z x)).2) else (false, x) := if_neg h
theorem one_els {β : Nat → Int32} {z : Nat} {x : Rs} {lo : Rlo} (h : ¬ isNN x) (h1 : ¬ x.2.1 = 40) (h2 : ¬ x.2.1 = 45) : oneR β z lo x = (false, x) := by
  cases lo with
  | none => exact one_none h
  | some d => rw [one_s h, if_neg h1, if_neg h2]
theorem one_par0 {β : Nat → Int32} {z : Nat} {x : Rs} {lo : Rlo} {d : Rf × Rf × Rf} (h : ¬ isNN x) (hd : lo = some d) (h1 : x.2.1 = 40) (h2 : (d.2.2 (nxR β z x)).1 = false) : oneR β z lo x = d.2.2 (nxR β z x) := by
  rw [hd, one_s h, if_pos h1, if_neg (by rw [h2]; decide)]
theorem one_par1 {β : Nat → Int32} {z : Nat} {x : Rs} {lo : Rlo} {d : Rf × Rf × Rf} (h : ¬ isNN x) (hd : lo = some d) (h1 : x.2.1 = 40) (h2 : (d.2.2 (nxR β z x)).1 = true) : oneR β z lo x = tokR β z 41 (d.2.2 (nxR β z x)).2 := by
  rw [hd, one_s h, if_pos h1, if_pos h2]
theorem one_min {β : Nat → Int32} {z : Nat} {x : Rs} {lo : Rlo} {d : Rf × Rf × Rf} (h : ¬ isNN x) (hd : lo = some d) (h1 : ¬ x.2.1 = 40) (h2 : x.2.1 = 45) : oneR β z lo x = ((d.1 (nxR β z x)).1, wrR (-18) (d.1 (nxR β z x)).2) := by
  rw [hd, one_s h, if_neg h1, if_pos h2]
set_option maxHeartbeats 800000 in
set_option maxRecDepth 100000 in
theorem rX2_readToken {l : Launch} {D : va_G} {cs : Nat → ClassId} {ad : Nat → Nat} {n : Nat} {ρ σ : Nat → Nat → Int32} {TT τ : Nat → Nat → Nat → Int32} {adK adV : Nat → Nat} {z : Nat} {v0 : Int32} {Fr : Nat} (hz : σ 1 1 = nI z) (hz1 : z ≤ 160) (h8 : 8 ≤ Fr) : RdC l D cs ad n ρ TT τ σ z adK adV (tokR (σ 2) z v0) yX2_readToken cX2_readToken 2 (Fr) [.int v0] := by
  intro x sz hok
  refine gw_stIs (Ff := fun u : Nat → Nat → Int32 => xent ad cs n ρ TT τ u) (own := RX2) (by decide +kernel) rfl (Nat.le_of_ble_eq_true rfl) ?_
  intro p e s m ar below meth c A Q F hE hsz hA hW hret ls hl
  obtain ⟨hx, hb, hml, hown, hts⟩ := id F
  have hl : lv_has ls 2 [(0, .ref (ad 3)), (1, .int v0)] := hl
  refine lv_aload_n hx hb dX2_readToken_0 rfl (lv_at hl 0 rfl) ?_
  refine xr_D F hW 0 (by decide) rfl fl_RX2_9 dX2_readToken_1 ?_
  refine xr_P F hW 3 (by decide) rfl fl_RX2_35 dX2_readToken_4 ?_
  refine lv_as (z := x.2.1) rfl ?_
  refine lv_iload_n hx hb dX2_readToken_7 rfl (lv_at hl 1 rfl) ?_
  refine lv_icmp_eq (tgt := 13) hx hb dX2_readToken_8 (by decide) (fun c_1 => ?_) (fun c_1 => ?_)
  ·
    refine lv_aload_n hx hb dX2_readToken_13 rfl (lv_at hl 0 rfl) ?_
    refine xr_D F hW 0 (by decide) rfl fl_RX2_9 dX2_readToken_14 ?_
    refine gw_callVv (rm := rm_yX5_next) (As := []) (rest := []) F hl.1 hW (xs_hE hE hA hsz hW) XS_E (by omega) xe_1 rfl (kX5_next (adK := adK) (adV := adV) (σ := rdS σ x.2.2.2.2) (z := z) (a := x.1) hz hz1 (hok).1) pd_yX5_next ml_RX2_48 im_yX5_next se_yX5_next ini_RX5 cd_yX5_next ⟨rfl, rfl⟩ ⟨(show 6 + 1 ≤ Fr by omega), (show 8 + (1 + 11) + 127 ≤ 24 * (Fr) by omega)⟩ rfl rfl (Nat.le_of_ble_eq_true rfl) ⟨Nat.zero_le _, Nat.zero_le _⟩ dX2_readToken_17 (fun σ_2 H locs hp hW _ _ => ?_)
    subst hp
    have hW : XW D cs ad n ρ TT τ (rsS σ (nxR (σ 2) z x)) A s s.heap H locs := hW
    refine lv_iconst (v := 1) hx hb dX2_readToken_20 (by decide) ?_
    exact hret 1 (rsS σ (nxR (σ 2) z x)) _ _ _ _ _ hW rfl rfl (by unfold tokR; rw [if_pos c_1]; exact ⟨rfl, rfl⟩) dX2_readToken_21
  ·
    refine lv_iconst (v := 0) hx hb dX2_readToken_11 (by decide) ?_
    exact hret 0 (rsS σ x) _ _ _ _ _ hW rfl rfl (by unfold tokR; rw [if_neg c_1]; exact ⟨rfl, rfl⟩) dX2_readToken_12
set_option maxHeartbeats 800000 in
set_option maxRecDepth 100000 in
theorem rX2_readOr {l : Launch} {D : va_G} {cs : Nat → ClassId} {ad : Nat → Nat} {n : Nat} {ρ σ : Nat → Nat → Int32} {TT τ : Nat → Nat → Nat → Int32} {adK adV : Nat → Nat} {z : Nat} {f : Rf} {o Fr : Nat} (hz : σ 1 1 = nI z) (hz1 : z ≤ 160) (hFr : 8 ≤ Fr) (h : RdC l D cs ad n ρ TT τ σ z adK adV f yX2_readAnd cX2_readAnd 4 Fr [.int (nI o)]) (hk : kpR z f) : RdC l D cs ad n ρ TT τ σ z adK adV (fun x => rowR (σ 2) z f (isOp (-7) (-7)) 160 (f x)) yX2_readOr cX2_readOr 4 (Fr + 1) [.int (nI o)] := by
  intro x sz hok
  refine gw_stIs (Ff := fun u : Nat → Nat → Int32 => xent ad cs n ρ TT τ u) (own := RX2) (by decide +kernel) rfl (Nat.le_of_ble_eq_true rfl) ?_
  intro p e s m ar below meth c A Q F hE hsz hA hW hret ls hl
  obtain ⟨hx, hb, hml, hown, hts⟩ := id F
  have hl : lv_has ls 4 [(0, .ref (ad 3)), (1, .int (nI o))] := hl
  refine lv_aload_n hx hb dX2_readOr_0 rfl (lv_at hl 0 rfl) ?_
  refine lv_iload_n hx hb dX2_readOr_1 rfl (lv_at hl 1 rfl) ?_
  refine gw_callVi (rm := (roomF Fr)) (As := [.int (nI o)]) (rest := []) F hl.1 hW (xs_hE hE hA hsz hW) XS_E (by omega) xe_3 rfl (h x _ (hok)) pd_yX2_readAnd ml_RX2_51 im_yX2_readAnd se_yX2_readAnd ini_RX2 cd_yX2_readAnd ⟨rfl, rfl⟩ ⟨(show Fr + 1 ≤ Fr + 1 by have := hFr; omega), (show 8 + (4 + 11) + 24 * (Fr) ≤ 24 * (Fr + 1) by have := hFr; omega)⟩ rfl rfl (Nat.le_of_ble_eq_true rfl) ⟨Nat.zero_le _, Nat.zero_le _⟩ dX2_readOr_2 (fun r u H locs hp hW _ _ => ?_)
  obtain ⟨rfl, rfl⟩ := hp
  refine lv_as (z := bI (f x).1) rfl ?_
  refine lv_istore_n (lv' := [(2, .int (bI (f x).1)), (0, .ref (ad 3)), (1, .int (nI o))]) hx hb dX2_readOr_5 rfl hl (by decide) rfl (fun ls hl => ?_)
  refine lv_iconst (v := 0) hx hb dX2_readOr_6 (by decide) ?_
  refine lv_istore_n (lv' := [(3, .int 0), (2, .int (bI (f x).1)), (0, .ref (ad 3)), (1, .int (nI o))]) hx hb dX2_readOr_7 rfl hl (by decide) rfl (fun ls hl => ?_)
  generalize hR0 : rowR (σ 2) z f (isOp (-7) (-7)) 160 (f x) = RES
  have L8 : ∀ (k : Nat) (i w : Nat) (r : Bool × Rs), (i + w = 160) → (161 ≤ i + k) → (okR z r.2) → (rowR (σ 2) z f (isOp (-7) (-7)) w r = RES) → ∀ (H : Heap) (locs : List Loc) (ls : Array Slot), XW D cs ad n ρ TT τ (rsS σ r.2) A s s.heap H locs → lv_has ls 4 [(3, .int (nI i)), (2, .int (bI r.1)), (0, .ref (ad 3)), (1, .int (nI o))] → W p l e (roomF (Fr + 1)) s m ar below meth c H locs 0 0 Q (F0 m 8 ls []) := by
    intro k
    induction k with
    | zero => intro i w r h1 h2 hokr hRR; exact absurd h2 (by omega)
    | succ k ih8 =>
      intro i w r h1 h2 hokr hRR H locs ls hW hl
      refine lv_iload_n hx hb dX2_readOr_8 rfl (lv_at hl 0 rfl) ?_
      refine lv_sipush (v := 160) hx hb dX2_readOr_9 (by decide) ?_
      refine lv_icmp_ge (tgt := 56) hx hb dX2_readOr_12 (by decide) (fun c_1 => ?_) (fun c_1 => ?_)
      ·
        obtain rfl : w = 0 := by have := mi_le (a := 160) (b := i) c_1 (by decide) (by omega); omega
        refine lv_iload_n hx hb dX2_readOr_56 rfl (lv_at hl 1 rfl) ?_
        exact hret (bI r.1) (rsS σ r.2) _ _ _ _ _ hW rfl (bI_n _) (by have hq : r = RES := hRR; exact ⟨congrArg (fun q : Bool × Rs => bI q.1) (hq.trans hR0.symm), congrArg (fun q : Bool × Rs => rsS σ q.2) (hq.trans hR0.symm)⟩) dX2_readOr_57
      ·
        have hlt : i < 160 := mi_nle (a := 160) (b := i) c_1 (by decide) (by omega); obtain ⟨w, rfl⟩ : ∃ q, w = q + 1 := ⟨w - 1, by omega⟩
        refine lv_iload_n hx hb dX2_readOr_15 rfl (lv_at hl 1 rfl) ?_
        refine lv_if_eq (tgt := 56) hx hb dX2_readOr_16 (by decide) (fun c_2 => ?_) (fun c_2 => ?_)
        ·
          refine lv_iload_n hx hb dX2_readOr_56 rfl (lv_at hl 1 rfl) ?_
          exact hret (bI r.1) (rsS σ r.2) _ _ _ _ _ hW rfl (bI_n _) (by have hq : r = RES := (row_f (bI_0 c_2)).symm.trans hRR; exact ⟨congrArg (fun q : Bool × Rs => bI q.1) (hq.trans hR0.symm), congrArg (fun q : Bool × Rs => rsS σ q.2) (hq.trans hR0.symm)⟩) dX2_readOr_57
        ·
          refine lv_aload_n hx hb dX2_readOr_19 rfl (lv_at hl 2 rfl) ?_
          refine xr_D F hW 0 (by decide) rfl fl_RX2_9 dX2_readOr_20 ?_
          refine xr_P F hW 3 (by decide) rfl fl_RX2_35 dX2_readOr_23 ?_
          refine lv_as (z := r.2.2.1) rfl ?_
          refine lv_bipush (v := (-7)) hx hb dX2_readOr_26 (by decide) ?_
          refine lv_icmp_ne (tgt := 56) hx hb dX2_readOr_28 (by decide) (fun c_3 => ?_) (fun c_3 => ?_)
          ·
            refine lv_iload_n hx hb dX2_readOr_56 rfl (lv_at hl 1 rfl) ?_
            exact hret (bI r.1) (rsS σ r.2) _ _ _ _ _ hW rfl (bI_n _) (by have hq : r = RES := (row_n (if_neg c_3)).symm.trans hRR; exact ⟨congrArg (fun q : Bool × Rs => bI q.1) (hq.trans hR0.symm), congrArg (fun q : Bool × Rs => rsS σ q.2) (hq.trans hR0.symm)⟩) dX2_readOr_57
          ·
            refine lv_aload_n hx hb dX2_readOr_31 rfl (lv_at hl 2 rfl) ?_
            refine xr_D F hW 0 (by decide) rfl fl_RX2_9 dX2_readOr_32 ?_
            refine gw_callVv (rm := rm_yX5_next) (As := []) (rest := []) F hl.1 hW (xs_hE hE hA hsz hW) XS_E (by omega) xe_1 rfl (kX5_next (adK := adK) (adV := adV) (σ := rdS σ r.2.2.2.2.2) (z := z) (a := r.2.1) hz hz1 (hokr).1) pd_yX5_next ml_RX2_48 im_yX5_next se_yX5_next ini_RX5 cd_yX5_next ⟨rfl, rfl⟩ ⟨(show 6 + 1 ≤ Fr + 1 by have := hFr; omega), (show 8 + (1 + 11) + 127 ≤ 24 * (Fr + 1) by have := hFr; omega)⟩ rfl rfl (Nat.le_of_ble_eq_true rfl) ⟨Nat.zero_le _, Nat.zero_le _⟩ dX2_readOr_35 (fun σ_4 H locs hp hW _ _ => ?_)
            subst hp
            have hW : XW D cs ad n ρ TT τ (rsS σ (nxR (σ 2) z r.2)) A s s.heap H locs := hW
            refine lv_aload_n hx hb dX2_readOr_38 rfl (lv_at hl 2 rfl) ?_
            refine lv_iload_n hx hb dX2_readOr_39 rfl (lv_at hl 3 rfl) ?_
            refine gw_callVi (rm := (roomF Fr)) (As := [.int (nI o)]) (rest := []) F hl.1 hW (xs_hE hE hA hsz hW) XS_E (by omega) xe_3 rfl (h (nxR (σ 2) z r.2) _ (okR_nx (hokr))) pd_yX2_readAnd ml_RX2_51 im_yX2_readAnd se_yX2_readAnd ini_RX2 cd_yX2_readAnd ⟨rfl, rfl⟩ ⟨(show Fr + 1 ≤ Fr + 1 by have := hFr; omega), (show 8 + (4 + 11) + 24 * (Fr) ≤ 24 * (Fr + 1) by have := hFr; omega)⟩ rfl rfl (Nat.le_of_ble_eq_true rfl) ⟨Nat.zero_le _, Nat.zero_le _⟩ dX2_readOr_40 (fun r u H locs hp hW _ _ => ?_)
            obtain ⟨rfl, rfl⟩ := hp
            refine lv_as (z := bI (f (nxR (σ 2) z r.2)).1) rfl ?_
            refine lv_istore_n (lv' := [(2, .int (bI (f (nxR (σ 2) z r.2)).1)), (3, .int (nI i)), (0, .ref (ad 3)), (1, .int (nI o))]) hx hb dX2_readOr_43 rfl hl (by decide) rfl (fun ls hl => ?_)
            refine lv_aload_n hx hb dX2_readOr_44 rfl (lv_at hl 2 rfl) ?_
            refine lv_bipush (v := (-7)) hx hb dX2_readOr_45 (by decide) ?_
            refine gw_callVv (rm := rm_yX2_write) (As := [.int (-7)]) (rest := []) F hl.1 hW (fun _ _ hw => va_Nw.warmM hw hE.1) XE_E (by omega) xe_3 rfl (kX2_write (σ := rsS σ ((f (nxR (σ 2) z r.2)).2)) (z0 := (-7))) pd_yX2_write ml_RX2_54 im_yX2_write se_yX2_write ini_RX2 cd_yX2_write ⟨rfl, rfl⟩ ⟨(show 0 + 1 ≤ Fr + 1 by have := hFr; omega), (show 8 + (2 + 11) + 0 ≤ 24 * (Fr + 1) by have := hFr; omega)⟩ rfl rfl (Nat.le_of_ble_eq_true rfl) ⟨Nat.zero_le _, Nat.zero_le _⟩ dX2_readOr_47 (fun σ_5 H locs hp hW _ _ => ?_)
            have hp : σ_5 = rsS σ (wrR (-7) ((f (nxR (σ 2) z r.2)).2)) := hp.trans (wri_rs σ (hk _ (okR_nx (hokr))) (-7))
            subst hp
            refine lv_iinc (v := nI (i + 1)) (lv' := [(3, .int (nI (i + 1))), (2, .int (bI (f (nxR (σ 2) z r.2)).1)), (0, .ref (ad 3)), (1, .int (nI o))]) hx hb dX2_readOr_50 hl (k := 1) rfl (nI_1 i) (by decide) rfl (fun ls hl => ?_)
            refine lv_goto (tgt := 8) hx hb dX2_readOr_53 (by decide) ?_
            exact ih8 (i + 1) w ((f (nxR (σ 2) z r.2)).1, wrR (-7) (f (nxR (σ 2) z r.2)).2) (by omega) (by omega) (okR_wr (hk _ (okR_nx hokr)) _) (by rw [← hRR]; exact (row_s (bI_1 c_2) (if_pos c_3)).symm) _ _ _ hW (lv_sub hl [0, 1, 2, 3] rfl)
  exact L8 161 0 160 (f x) (rfl) (by omega) (hk x hok) (hR0) _ _ _ hW (lv_sub hl [0, 1, 2, 3] rfl)
set_option maxHeartbeats 800000 in
set_option maxRecDepth 100000 in
theorem rX2_readAnd {l : Launch} {D : va_G} {cs : Nat → ClassId} {ad : Nat → Nat} {n : Nat} {ρ σ : Nat → Nat → Int32} {TT τ : Nat → Nat → Nat → Int32} {adK adV : Nat → Nat} {z : Nat} {f : Rf} {o Fr : Nat} (hz : σ 1 1 = nI z) (hz1 : z ≤ 160) (hFr : 8 ≤ Fr) (h : RdC l D cs ad n ρ TT τ σ z adK adV f yX2_readNot cX2_readNot 4 Fr [.int (nI o)]) (hk : kpR z f) : RdC l D cs ad n ρ TT τ σ z adK adV (fun x => rowR (σ 2) z f (isOp (-8) (-8)) 160 (f x)) yX2_readAnd cX2_readAnd 4 (Fr + 1) [.int (nI o)] := by
  intro x sz hok
  refine gw_stIs (Ff := fun u : Nat → Nat → Int32 => xent ad cs n ρ TT τ u) (own := RX2) (by decide +kernel) rfl (Nat.le_of_ble_eq_true rfl) ?_
  intro p e s m ar below meth c A Q F hE hsz hA hW hret ls hl
  obtain ⟨hx, hb, hml, hown, hts⟩ := id F
  have hl : lv_has ls 4 [(0, .ref (ad 3)), (1, .int (nI o))] := hl
  refine lv_aload_n hx hb dX2_readAnd_0 rfl (lv_at hl 0 rfl) ?_
  refine lv_iload_n hx hb dX2_readAnd_1 rfl (lv_at hl 1 rfl) ?_
  refine gw_callVi (rm := (roomF Fr)) (As := [.int (nI o)]) (rest := []) F hl.1 hW (xs_hE hE hA hsz hW) XS_E (by omega) xe_3 rfl (h x _ (hok)) pd_yX2_readNot ml_RX2_58 im_yX2_readNot se_yX2_readNot ini_RX2 cd_yX2_readNot ⟨rfl, rfl⟩ ⟨(show Fr + 1 ≤ Fr + 1 by have := hFr; omega), (show 8 + (4 + 11) + 24 * (Fr) ≤ 24 * (Fr + 1) by have := hFr; omega)⟩ rfl rfl (Nat.le_of_ble_eq_true rfl) ⟨Nat.zero_le _, Nat.zero_le _⟩ dX2_readAnd_2 (fun r u H locs hp hW _ _ => ?_)
  obtain ⟨rfl, rfl⟩ := hp
  refine lv_as (z := bI (f x).1) rfl ?_
  refine lv_istore_n (lv' := [(2, .int (bI (f x).1)), (0, .ref (ad 3)), (1, .int (nI o))]) hx hb dX2_readAnd_5 rfl hl (by decide) rfl (fun ls hl => ?_)
  refine lv_iconst (v := 0) hx hb dX2_readAnd_6 (by decide) ?_
  refine lv_istore_n (lv' := [(3, .int 0), (2, .int (bI (f x).1)), (0, .ref (ad 3)), (1, .int (nI o))]) hx hb dX2_readAnd_7 rfl hl (by decide) rfl (fun ls hl => ?_)
  generalize hR0 : rowR (σ 2) z f (isOp (-8) (-8)) 160 (f x) = RES
  have L8 : ∀ (k : Nat) (i w : Nat) (r : Bool × Rs), (i + w = 160) → (161 ≤ i + k) → (okR z r.2) → (rowR (σ 2) z f (isOp (-8) (-8)) w r = RES) → ∀ (H : Heap) (locs : List Loc) (ls : Array Slot), XW D cs ad n ρ TT τ (rsS σ r.2) A s s.heap H locs → lv_has ls 4 [(3, .int (nI i)), (2, .int (bI r.1)), (0, .ref (ad 3)), (1, .int (nI o))] → W p l e (roomF (Fr + 1)) s m ar below meth c H locs 0 0 Q (F0 m 8 ls []) := by
    intro k
    induction k with
    | zero => intro i w r h1 h2 hokr hRR; exact absurd h2 (by omega)
    | succ k ih8 =>
      intro i w r h1 h2 hokr hRR H locs ls hW hl
      refine lv_iload_n hx hb dX2_readAnd_8 rfl (lv_at hl 0 rfl) ?_
      refine lv_sipush (v := 160) hx hb dX2_readAnd_9 (by decide) ?_
      refine lv_icmp_ge (tgt := 56) hx hb dX2_readAnd_12 (by decide) (fun c_1 => ?_) (fun c_1 => ?_)
      ·
        obtain rfl : w = 0 := by have := mi_le (a := 160) (b := i) c_1 (by decide) (by omega); omega
        refine lv_iload_n hx hb dX2_readAnd_56 rfl (lv_at hl 1 rfl) ?_
        exact hret (bI r.1) (rsS σ r.2) _ _ _ _ _ hW rfl (bI_n _) (by have hq : r = RES := hRR; exact ⟨congrArg (fun q : Bool × Rs => bI q.1) (hq.trans hR0.symm), congrArg (fun q : Bool × Rs => rsS σ q.2) (hq.trans hR0.symm)⟩) dX2_readAnd_57
      ·
        have hlt : i < 160 := mi_nle (a := 160) (b := i) c_1 (by decide) (by omega); obtain ⟨w, rfl⟩ : ∃ q, w = q + 1 := ⟨w - 1, by omega⟩
        refine lv_iload_n hx hb dX2_readAnd_15 rfl (lv_at hl 1 rfl) ?_
        refine lv_if_eq (tgt := 56) hx hb dX2_readAnd_16 (by decide) (fun c_2 => ?_) (fun c_2 => ?_)
        ·
          refine lv_iload_n hx hb dX2_readAnd_56 rfl (lv_at hl 1 rfl) ?_
          exact hret (bI r.1) (rsS σ r.2) _ _ _ _ _ hW rfl (bI_n _) (by have hq : r = RES := (row_f (bI_0 c_2)).symm.trans hRR; exact ⟨congrArg (fun q : Bool × Rs => bI q.1) (hq.trans hR0.symm), congrArg (fun q : Bool × Rs => rsS σ q.2) (hq.trans hR0.symm)⟩) dX2_readAnd_57
        ·
          refine lv_aload_n hx hb dX2_readAnd_19 rfl (lv_at hl 2 rfl) ?_
          refine xr_D F hW 0 (by decide) rfl fl_RX2_9 dX2_readAnd_20 ?_
          refine xr_P F hW 3 (by decide) rfl fl_RX2_35 dX2_readAnd_23 ?_
          refine lv_as (z := r.2.2.1) rfl ?_
          refine lv_bipush (v := (-8)) hx hb dX2_readAnd_26 (by decide) ?_
          refine lv_icmp_ne (tgt := 56) hx hb dX2_readAnd_28 (by decide) (fun c_3 => ?_) (fun c_3 => ?_)
          ·
            refine lv_iload_n hx hb dX2_readAnd_56 rfl (lv_at hl 1 rfl) ?_
            exact hret (bI r.1) (rsS σ r.2) _ _ _ _ _ hW rfl (bI_n _) (by have hq : r = RES := (row_n (if_neg c_3)).symm.trans hRR; exact ⟨congrArg (fun q : Bool × Rs => bI q.1) (hq.trans hR0.symm), congrArg (fun q : Bool × Rs => rsS σ q.2) (hq.trans hR0.symm)⟩) dX2_readAnd_57
          ·
            refine lv_aload_n hx hb dX2_readAnd_31 rfl (lv_at hl 2 rfl) ?_
            refine xr_D F hW 0 (by decide) rfl fl_RX2_9 dX2_readAnd_32 ?_
            refine gw_callVv (rm := rm_yX5_next) (As := []) (rest := []) F hl.1 hW (xs_hE hE hA hsz hW) XS_E (by omega) xe_1 rfl (kX5_next (adK := adK) (adV := adV) (σ := rdS σ r.2.2.2.2.2) (z := z) (a := r.2.1) hz hz1 (hokr).1) pd_yX5_next ml_RX2_48 im_yX5_next se_yX5_next ini_RX5 cd_yX5_next ⟨rfl, rfl⟩ ⟨(show 6 + 1 ≤ Fr + 1 by have := hFr; omega), (show 8 + (1 + 11) + 127 ≤ 24 * (Fr + 1) by have := hFr; omega)⟩ rfl rfl (Nat.le_of_ble_eq_true rfl) ⟨Nat.zero_le _, Nat.zero_le _⟩ dX2_readAnd_35 (fun σ_4 H locs hp hW _ _ => ?_)
            subst hp
            have hW : XW D cs ad n ρ TT τ (rsS σ (nxR (σ 2) z r.2)) A s s.heap H locs := hW
            refine lv_aload_n hx hb dX2_readAnd_38 rfl (lv_at hl 2 rfl) ?_
            refine lv_iload_n hx hb dX2_readAnd_39 rfl (lv_at hl 3 rfl) ?_
            refine gw_callVi (rm := (roomF Fr)) (As := [.int (nI o)]) (rest := []) F hl.1 hW (xs_hE hE hA hsz hW) XS_E (by omega) xe_3 rfl (h (nxR (σ 2) z r.2) _ (okR_nx (hokr))) pd_yX2_readNot ml_RX2_58 im_yX2_readNot se_yX2_readNot ini_RX2 cd_yX2_readNot ⟨rfl, rfl⟩ ⟨(show Fr + 1 ≤ Fr + 1 by have := hFr; omega), (show 8 + (4 + 11) + 24 * (Fr) ≤ 24 * (Fr + 1) by have := hFr; omega)⟩ rfl rfl (Nat.le_of_ble_eq_true rfl) ⟨Nat.zero_le _, Nat.zero_le _⟩ dX2_readAnd_40 (fun r u H locs hp hW _ _ => ?_)
            obtain ⟨rfl, rfl⟩ := hp
            refine lv_as (z := bI (f (nxR (σ 2) z r.2)).1) rfl ?_
            refine lv_istore_n (lv' := [(2, .int (bI (f (nxR (σ 2) z r.2)).1)), (3, .int (nI i)), (0, .ref (ad 3)), (1, .int (nI o))]) hx hb dX2_readAnd_43 rfl hl (by decide) rfl (fun ls hl => ?_)
            refine lv_aload_n hx hb dX2_readAnd_44 rfl (lv_at hl 2 rfl) ?_
            refine lv_bipush (v := (-8)) hx hb dX2_readAnd_45 (by decide) ?_
            refine gw_callVv (rm := rm_yX2_write) (As := [.int (-8)]) (rest := []) F hl.1 hW (fun _ _ hw => va_Nw.warmM hw hE.1) XE_E (by omega) xe_3 rfl (kX2_write (σ := rsS σ ((f (nxR (σ 2) z r.2)).2)) (z0 := (-8))) pd_yX2_write ml_RX2_54 im_yX2_write se_yX2_write ini_RX2 cd_yX2_write ⟨rfl, rfl⟩ ⟨(show 0 + 1 ≤ Fr + 1 by have := hFr; omega), (show 8 + (2 + 11) + 0 ≤ 24 * (Fr + 1) by have := hFr; omega)⟩ rfl rfl (Nat.le_of_ble_eq_true rfl) ⟨Nat.zero_le _, Nat.zero_le _⟩ dX2_readAnd_47 (fun σ_5 H locs hp hW _ _ => ?_)
            have hp : σ_5 = rsS σ (wrR (-8) ((f (nxR (σ 2) z r.2)).2)) := hp.trans (wri_rs σ (hk _ (okR_nx (hokr))) (-8))
            subst hp
            refine lv_iinc (v := nI (i + 1)) (lv' := [(3, .int (nI (i + 1))), (2, .int (bI (f (nxR (σ 2) z r.2)).1)), (0, .ref (ad 3)), (1, .int (nI o))]) hx hb dX2_readAnd_50 hl (k := 1) rfl (nI_1 i) (by decide) rfl (fun ls hl => ?_)
            refine lv_goto (tgt := 8) hx hb dX2_readAnd_53 (by decide) ?_
            exact ih8 (i + 1) w ((f (nxR (σ 2) z r.2)).1, wrR (-8) (f (nxR (σ 2) z r.2)).2) (by omega) (by omega) (okR_wr (hk _ (okR_nx hokr)) _) (by rw [← hRR]; exact (row_s (bI_1 c_2) (if_pos c_3)).symm) _ _ _ hW (lv_sub hl [0, 1, 2, 3] rfl)
  exact L8 161 0 160 (f x) (rfl) (by omega) (hk x hok) (hR0) _ _ _ hW (lv_sub hl [0, 1, 2, 3] rfl)
set_option maxHeartbeats 800000 in
set_option maxRecDepth 100000 in
theorem rX2_readTerm {l : Launch} {D : va_G} {cs : Nat → ClassId} {ad : Nat → Nat} {n : Nat} {ρ σ : Nat → Nat → Int32} {TT τ : Nat → Nat → Nat → Int32} {adK adV : Nat → Nat} {z : Nat} {f : Rf} {o Fr : Nat} (hz : σ 1 1 = nI z) (hz1 : z ≤ 160) (hFr : 8 ≤ Fr) (h : RdC l D cs ad n ρ TT τ σ z adK adV f yX2_readOne cX2_readOne 4 Fr [.int (nI o)]) (hk : kpR z f) : RdC l D cs ad n ρ TT τ σ z adK adV (fun x => rowR (σ 2) z f (isOp 42 (-17)) 160 (f x)) yX2_readTerm cX2_readTerm 4 (Fr + 1) [.int (nI o)] := by
  intro x sz hok
  refine gw_stIs (Ff := fun u : Nat → Nat → Int32 => xent ad cs n ρ TT τ u) (own := RX2) (by decide +kernel) rfl (Nat.le_of_ble_eq_true rfl) ?_
  intro p e s m ar below meth c A Q F hE hsz hA hW hret ls hl
  obtain ⟨hx, hb, hml, hown, hts⟩ := id F
  have hl : lv_has ls 4 [(0, .ref (ad 3)), (1, .int (nI o))] := hl
  refine lv_aload_n hx hb dX2_readTerm_0 rfl (lv_at hl 0 rfl) ?_
  refine lv_iload_n hx hb dX2_readTerm_1 rfl (lv_at hl 1 rfl) ?_
  refine gw_callVi (rm := (roomF Fr)) (As := [.int (nI o)]) (rest := []) F hl.1 hW (xs_hE hE hA hsz hW) XS_E (by omega) xe_3 rfl (h x _ (hok)) pd_yX2_readOne ml_RX2_67 im_yX2_readOne se_yX2_readOne ini_RX2 cd_yX2_readOne ⟨rfl, rfl⟩ ⟨(show Fr + 1 ≤ Fr + 1 by have := hFr; omega), (show 8 + (4 + 11) + 24 * (Fr) ≤ 24 * (Fr + 1) by have := hFr; omega)⟩ rfl rfl (Nat.le_of_ble_eq_true rfl) ⟨Nat.zero_le _, Nat.zero_le _⟩ dX2_readTerm_2 (fun r u H locs hp hW _ _ => ?_)
  obtain ⟨rfl, rfl⟩ := hp
  refine lv_as (z := bI (f x).1) rfl ?_
  refine lv_istore_n (lv' := [(2, .int (bI (f x).1)), (0, .ref (ad 3)), (1, .int (nI o))]) hx hb dX2_readTerm_5 rfl hl (by decide) rfl (fun ls hl => ?_)
  refine lv_iconst (v := 0) hx hb dX2_readTerm_6 (by decide) ?_
  refine lv_istore_n (lv' := [(3, .int 0), (2, .int (bI (f x).1)), (0, .ref (ad 3)), (1, .int (nI o))]) hx hb dX2_readTerm_7 rfl hl (by decide) rfl (fun ls hl => ?_)
  generalize hR0 : rowR (σ 2) z f (isOp 42 (-17)) 160 (f x) = RES
  have L8 : ∀ (k : Nat) (i w : Nat) (r : Bool × Rs), (i + w = 160) → (161 ≤ i + k) → (okR z r.2) → (rowR (σ 2) z f (isOp 42 (-17)) w r = RES) → ∀ (H : Heap) (locs : List Loc) (ls : Array Slot), XW D cs ad n ρ TT τ (rsS σ r.2) A s s.heap H locs → lv_has ls 4 [(3, .int (nI i)), (2, .int (bI r.1)), (0, .ref (ad 3)), (1, .int (nI o))] → W p l e (roomF (Fr + 1)) s m ar below meth c H locs 0 0 Q (F0 m 8 ls []) := by
    intro k
    induction k with
    | zero => intro i w r h1 h2 hokr hRR; exact absurd h2 (by omega)
    | succ k ih8 =>
      intro i w r h1 h2 hokr hRR H locs ls hW hl
      refine lv_iload_n hx hb dX2_readTerm_8 rfl (lv_at hl 0 rfl) ?_
      refine lv_sipush (v := 160) hx hb dX2_readTerm_9 (by decide) ?_
      refine lv_icmp_ge (tgt := 56) hx hb dX2_readTerm_12 (by decide) (fun c_1 => ?_) (fun c_1 => ?_)
      ·
        obtain rfl : w = 0 := by have := mi_le (a := 160) (b := i) c_1 (by decide) (by omega); omega
        refine lv_iload_n hx hb dX2_readTerm_56 rfl (lv_at hl 1 rfl) ?_
        exact hret (bI r.1) (rsS σ r.2) _ _ _ _ _ hW rfl (bI_n _) (by have hq : r = RES := hRR; exact ⟨congrArg (fun q : Bool × Rs => bI q.1) (hq.trans hR0.symm), congrArg (fun q : Bool × Rs => rsS σ q.2) (hq.trans hR0.symm)⟩) dX2_readTerm_57
      ·
        have hlt : i < 160 := mi_nle (a := 160) (b := i) c_1 (by decide) (by omega); obtain ⟨w, rfl⟩ : ∃ q, w = q + 1 := ⟨w - 1, by omega⟩
        refine lv_iload_n hx hb dX2_readTerm_15 rfl (lv_at hl 1 rfl) ?_
        refine lv_if_eq (tgt := 56) hx hb dX2_readTerm_16 (by decide) (fun c_2 => ?_) (fun c_2 => ?_)
        ·
          refine lv_iload_n hx hb dX2_readTerm_56 rfl (lv_at hl 1 rfl) ?_
          exact hret (bI r.1) (rsS σ r.2) _ _ _ _ _ hW rfl (bI_n _) (by have hq : r = RES := (row_f (bI_0 c_2)).symm.trans hRR; exact ⟨congrArg (fun q : Bool × Rs => bI q.1) (hq.trans hR0.symm), congrArg (fun q : Bool × Rs => rsS σ q.2) (hq.trans hR0.symm)⟩) dX2_readTerm_57
        ·
          refine lv_aload_n hx hb dX2_readTerm_19 rfl (lv_at hl 2 rfl) ?_
          refine xr_D F hW 0 (by decide) rfl fl_RX2_9 dX2_readTerm_20 ?_
          refine xr_P F hW 3 (by decide) rfl fl_RX2_35 dX2_readTerm_23 ?_
          refine lv_as (z := r.2.2.1) rfl ?_
          refine lv_bipush (v := 42) hx hb dX2_readTerm_26 (by decide) ?_
          refine lv_icmp_ne (tgt := 56) hx hb dX2_readTerm_28 (by decide) (fun c_3 => ?_) (fun c_3 => ?_)
          ·
            refine lv_iload_n hx hb dX2_readTerm_56 rfl (lv_at hl 1 rfl) ?_
            exact hret (bI r.1) (rsS σ r.2) _ _ _ _ _ hW rfl (bI_n _) (by have hq : r = RES := (row_n (if_neg c_3)).symm.trans hRR; exact ⟨congrArg (fun q : Bool × Rs => bI q.1) (hq.trans hR0.symm), congrArg (fun q : Bool × Rs => rsS σ q.2) (hq.trans hR0.symm)⟩) dX2_readTerm_57
          ·
            refine lv_aload_n hx hb dX2_readTerm_31 rfl (lv_at hl 2 rfl) ?_
            refine xr_D F hW 0 (by decide) rfl fl_RX2_9 dX2_readTerm_32 ?_
            refine gw_callVv (rm := rm_yX5_next) (As := []) (rest := []) F hl.1 hW (xs_hE hE hA hsz hW) XS_E (by omega) xe_1 rfl (kX5_next (adK := adK) (adV := adV) (σ := rdS σ r.2.2.2.2.2) (z := z) (a := r.2.1) hz hz1 (hokr).1) pd_yX5_next ml_RX2_48 im_yX5_next se_yX5_next ini_RX5 cd_yX5_next ⟨rfl, rfl⟩ ⟨(show 6 + 1 ≤ Fr + 1 by have := hFr; omega), (show 8 + (1 + 11) + 127 ≤ 24 * (Fr + 1) by have := hFr; omega)⟩ rfl rfl (Nat.le_of_ble_eq_true rfl) ⟨Nat.zero_le _, Nat.zero_le _⟩ dX2_readTerm_35 (fun σ_4 H locs hp hW _ _ => ?_)
            subst hp
            have hW : XW D cs ad n ρ TT τ (rsS σ (nxR (σ 2) z r.2)) A s s.heap H locs := hW
            refine lv_aload_n hx hb dX2_readTerm_38 rfl (lv_at hl 2 rfl) ?_
            refine lv_iload_n hx hb dX2_readTerm_39 rfl (lv_at hl 3 rfl) ?_
            refine gw_callVi (rm := (roomF Fr)) (As := [.int (nI o)]) (rest := []) F hl.1 hW (xs_hE hE hA hsz hW) XS_E (by omega) xe_3 rfl (h (nxR (σ 2) z r.2) _ (okR_nx (hokr))) pd_yX2_readOne ml_RX2_67 im_yX2_readOne se_yX2_readOne ini_RX2 cd_yX2_readOne ⟨rfl, rfl⟩ ⟨(show Fr + 1 ≤ Fr + 1 by have := hFr; omega), (show 8 + (4 + 11) + 24 * (Fr) ≤ 24 * (Fr + 1) by have := hFr; omega)⟩ rfl rfl (Nat.le_of_ble_eq_true rfl) ⟨Nat.zero_le _, Nat.zero_le _⟩ dX2_readTerm_40 (fun r u H locs hp hW _ _ => ?_)
            obtain ⟨rfl, rfl⟩ := hp
            refine lv_as (z := bI (f (nxR (σ 2) z r.2)).1) rfl ?_
            refine lv_istore_n (lv' := [(2, .int (bI (f (nxR (σ 2) z r.2)).1)), (3, .int (nI i)), (0, .ref (ad 3)), (1, .int (nI o))]) hx hb dX2_readTerm_43 rfl hl (by decide) rfl (fun ls hl => ?_)
            refine lv_aload_n hx hb dX2_readTerm_44 rfl (lv_at hl 2 rfl) ?_
            refine lv_bipush (v := (-17)) hx hb dX2_readTerm_45 (by decide) ?_
            refine gw_callVv (rm := rm_yX2_write) (As := [.int (-17)]) (rest := []) F hl.1 hW (fun _ _ hw => va_Nw.warmM hw hE.1) XE_E (by omega) xe_3 rfl (kX2_write (σ := rsS σ ((f (nxR (σ 2) z r.2)).2)) (z0 := (-17))) pd_yX2_write ml_RX2_54 im_yX2_write se_yX2_write ini_RX2 cd_yX2_write ⟨rfl, rfl⟩ ⟨(show 0 + 1 ≤ Fr + 1 by have := hFr; omega), (show 8 + (2 + 11) + 0 ≤ 24 * (Fr + 1) by have := hFr; omega)⟩ rfl rfl (Nat.le_of_ble_eq_true rfl) ⟨Nat.zero_le _, Nat.zero_le _⟩ dX2_readTerm_47 (fun σ_5 H locs hp hW _ _ => ?_)
            have hp : σ_5 = rsS σ (wrR (-17) ((f (nxR (σ 2) z r.2)).2)) := hp.trans (wri_rs σ (hk _ (okR_nx (hokr))) (-17))
            subst hp
            refine lv_iinc (v := nI (i + 1)) (lv' := [(3, .int (nI (i + 1))), (2, .int (bI (f (nxR (σ 2) z r.2)).1)), (0, .ref (ad 3)), (1, .int (nI o))]) hx hb dX2_readTerm_50 hl (k := 1) rfl (nI_1 i) (by decide) rfl (fun ls hl => ?_)
            refine lv_goto (tgt := 8) hx hb dX2_readTerm_53 (by decide) ?_
            exact ih8 (i + 1) w ((f (nxR (σ 2) z r.2)).1, wrR (-17) (f (nxR (σ 2) z r.2)).2) (by omega) (by omega) (okR_wr (hk _ (okR_nx hokr)) _) (by rw [← hRR]; exact (row_s (bI_1 c_2) (if_pos c_3)).symm) _ _ _ hW (lv_sub hl [0, 1, 2, 3] rfl)
  exact L8 161 0 160 (f x) (rfl) (by omega) (hk x hok) (hR0) _ _ _ hW (lv_sub hl [0, 1, 2, 3] rfl)
set_option maxHeartbeats 800000 in
set_option maxRecDepth 100000 in
theorem rX2_readSum {l : Launch} {D : va_G} {cs : Nat → ClassId} {ad : Nat → Nat} {n : Nat} {ρ σ : Nat → Nat → Int32} {TT τ : Nat → Nat → Nat → Int32} {adK adV : Nat → Nat} {z : Nat} {f : Rf} {o Fr : Nat} (hz : σ 1 1 = nI z) (hz1 : z ≤ 160) (hFr : 8 ≤ Fr) (h : RdC l D cs ad n ρ TT τ σ z adK adV f yX2_readTerm cX2_readTerm 4 Fr [.int (nI o)]) (hk : kpR z f) : RdC l D cs ad n ρ TT τ σ z adK adV (fun x => rowR (σ 2) z f sumOp 160 (f x)) yX2_readSum cX2_readSum 5 (Fr + 1) [.int (nI o)] := by
  intro x sz hok
  refine gw_stIs (Ff := fun u : Nat → Nat → Int32 => xent ad cs n ρ TT τ u) (own := RX2) (by decide +kernel) rfl (Nat.le_of_ble_eq_true rfl) ?_
  intro p e s m ar below meth c A Q F hE hsz hA hW hret ls hl
  obtain ⟨hx, hb, hml, hown, hts⟩ := id F
  have hl : lv_has ls 5 [(0, .ref (ad 3)), (1, .int (nI o))] := hl
  refine lv_aload_n hx hb dX2_readSum_0 rfl (lv_at hl 0 rfl) ?_
  refine lv_iload_n hx hb dX2_readSum_1 rfl (lv_at hl 1 rfl) ?_
  refine gw_callVi (rm := (roomF Fr)) (As := [.int (nI o)]) (rest := []) F hl.1 hW (xs_hE hE hA hsz hW) XS_E (by omega) xe_3 rfl (h x _ (hok)) pd_yX2_readTerm ml_RX2_64 im_yX2_readTerm se_yX2_readTerm ini_RX2 cd_yX2_readTerm ⟨rfl, rfl⟩ ⟨(show Fr + 1 ≤ Fr + 1 by have := hFr; omega), (show 8 + (4 + 11) + 24 * (Fr) ≤ 24 * (Fr + 1) by have := hFr; omega)⟩ rfl rfl (Nat.le_of_ble_eq_true rfl) ⟨Nat.zero_le _, Nat.zero_le _⟩ dX2_readSum_2 (fun r u H locs hp hW _ _ => ?_)
  obtain ⟨rfl, rfl⟩ := hp
  refine lv_as (z := bI (f x).1) rfl ?_
  refine lv_istore_n (lv' := [(2, .int (bI (f x).1)), (0, .ref (ad 3)), (1, .int (nI o))]) hx hb dX2_readSum_5 rfl hl (by decide) rfl (fun ls hl => ?_)
  refine lv_iconst (v := 0) hx hb dX2_readSum_6 (by decide) ?_
  refine lv_istore_n (lv' := [(3, .int 0), (2, .int (bI (f x).1)), (0, .ref (ad 3)), (1, .int (nI o))]) hx hb dX2_readSum_7 rfl hl (by decide) rfl (fun ls hl => ?_)
  generalize hR0 : rowR (σ 2) z f sumOp 160 (f x) = RES
  have L8 : ∀ (k : Nat) (i w : Nat) (r : Bool × Rs), (i + w = 160) → (161 ≤ i + k) → (okR z r.2) → (rowR (σ 2) z f sumOp w r = RES) → ∀ (H : Heap) (locs : List Loc) (ls : Array Slot), XW D cs ad n ρ TT τ (rsS σ r.2) A s s.heap H locs → lv_has ls 5 [(3, .int (nI i)), (2, .int (bI r.1)), (0, .ref (ad 3)), (1, .int (nI o))] → W p l e (roomF (Fr + 1)) s m ar below meth c H locs 0 0 Q (F0 m 8 ls []) := by
    intro k
    induction k with
    | zero => intro i w r h1 h2 hokr hRR; exact absurd h2 (by omega)
    | succ k ih8 =>
      intro i w r h1 h2 hokr hRR H locs ls hW hl
      refine lv_iload_n hx hb dX2_readSum_8 rfl (lv_at hl 0 rfl) ?_
      refine lv_sipush (v := 160) hx hb dX2_readSum_9 (by decide) ?_
      refine lv_icmp_ge (tgt := 89) hx hb dX2_readSum_12 (by decide) (fun c_1 => ?_) (fun c_1 => ?_)
      ·
        obtain rfl : w = 0 := by have := mi_le (a := 160) (b := i) c_1 (by decide) (by omega); omega
        refine lv_iload_n hx hb dX2_readSum_89 rfl (lv_at hl 1 rfl) ?_
        exact hret (bI r.1) (rsS σ r.2) _ _ _ _ _ hW rfl (bI_n _) (by have hq : r = RES := hRR; exact ⟨congrArg (fun q : Bool × Rs => bI q.1) (hq.trans hR0.symm), congrArg (fun q : Bool × Rs => rsS σ q.2) (hq.trans hR0.symm)⟩) dX2_readSum_90
      ·
        have hlt : i < 160 := mi_nle (a := 160) (b := i) c_1 (by decide) (by omega); obtain ⟨w, rfl⟩ : ∃ q, w = q + 1 := ⟨w - 1, by omega⟩
        refine lv_iload_n hx hb dX2_readSum_15 rfl (lv_at hl 1 rfl) ?_
        refine lv_if_eq (tgt := 89) hx hb dX2_readSum_16 (by decide) (fun c_2 => ?_) (fun c_2 => ?_)
        ·
          refine lv_iload_n hx hb dX2_readSum_89 rfl (lv_at hl 1 rfl) ?_
          exact hret (bI r.1) (rsS σ r.2) _ _ _ _ _ hW rfl (bI_n _) (by have hq : r = RES := (row_f (bI_0 c_2)).symm.trans hRR; exact ⟨congrArg (fun q : Bool × Rs => bI q.1) (hq.trans hR0.symm), congrArg (fun q : Bool × Rs => rsS σ q.2) (hq.trans hR0.symm)⟩) dX2_readSum_90
        ·
          refine lv_aload_n hx hb dX2_readSum_19 rfl (lv_at hl 2 rfl) ?_
          refine xr_D F hW 0 (by decide) rfl fl_RX2_9 dX2_readSum_20 ?_
          refine xr_P F hW 3 (by decide) rfl fl_RX2_35 dX2_readSum_23 ?_
          refine lv_as (z := r.2.2.1) rfl ?_
          refine lv_bipush (v := 43) hx hb dX2_readSum_26 (by decide) ?_
          refine lv_icmp_eq (tgt := 43) hx hb dX2_readSum_28 (by decide) (fun c_3 => ?_) (fun c_3 => ?_)
          ·
            refine lv_aload_n hx hb dX2_readSum_43 rfl (lv_at hl 2 rfl) ?_
            refine xr_D F hW 0 (by decide) rfl fl_RX2_9 dX2_readSum_44 ?_
            refine xr_P F hW 3 (by decide) rfl fl_RX2_35 dX2_readSum_47 ?_
            refine lv_as (z := r.2.2.1) rfl ?_
            refine lv_bipush (v := 43) hx hb dX2_readSum_50 (by decide) ?_
            refine lv_icmp_ne (tgt := 60) hx hb dX2_readSum_52 (by decide) (fun c_4 => ?_) (fun c_4 => ?_)
            ·
              exact absurd c_3 c_4
            ·
              refine lv_bipush (v := (-15)) hx hb dX2_readSum_55 (by decide) ?_
              refine lv_goto (tgt := 62) hx hb dX2_readSum_57 (by decide) ?_
              refine lv_istore (lv' := [(4, .int (-15)), (3, .int (nI i)), (2, .int (bI r.1)), (0, .ref (ad 3)), (1, .int (nI o))]) hx hb dX2_readSum_62 hl (by decide) rfl (fun ls hl => ?_)
              refine lv_aload_n hx hb dX2_readSum_64 rfl (lv_at hl 3 rfl) ?_
              refine xr_D F hW 0 (by decide) rfl fl_RX2_9 dX2_readSum_65 ?_
              refine gw_callVv (rm := rm_yX5_next) (As := []) (rest := []) F hl.1 hW (xs_hE hE hA hsz hW) XS_E (by omega) xe_1 rfl (kX5_next (adK := adK) (adV := adV) (σ := rdS σ r.2.2.2.2.2) (z := z) (a := r.2.1) hz hz1 (hokr).1) pd_yX5_next ml_RX2_48 im_yX5_next se_yX5_next ini_RX5 cd_yX5_next ⟨rfl, rfl⟩ ⟨(show 6 + 1 ≤ Fr + 1 by have := hFr; omega), (show 8 + (1 + 11) + 127 ≤ 24 * (Fr + 1) by have := hFr; omega)⟩ rfl rfl (Nat.le_of_ble_eq_true rfl) ⟨Nat.zero_le _, Nat.zero_le _⟩ dX2_readSum_68 (fun σ_5 H locs hp hW _ _ => ?_)
              subst hp
              have hW : XW D cs ad n ρ TT τ (rsS σ (nxR (σ 2) z r.2)) A s s.heap H locs := hW
              refine lv_aload_n hx hb dX2_readSum_71 rfl (lv_at hl 3 rfl) ?_
              refine lv_iload_n hx hb dX2_readSum_72 rfl (lv_at hl 4 rfl) ?_
              refine gw_callVi (rm := (roomF Fr)) (As := [.int (nI o)]) (rest := []) F hl.1 hW (xs_hE hE hA hsz hW) XS_E (by omega) xe_3 rfl (h (nxR (σ 2) z r.2) _ (okR_nx (hokr))) pd_yX2_readTerm ml_RX2_64 im_yX2_readTerm se_yX2_readTerm ini_RX2 cd_yX2_readTerm ⟨rfl, rfl⟩ ⟨(show Fr + 1 ≤ Fr + 1 by have := hFr; omega), (show 8 + (4 + 11) + 24 * (Fr) ≤ 24 * (Fr + 1) by have := hFr; omega)⟩ rfl rfl (Nat.le_of_ble_eq_true rfl) ⟨Nat.zero_le _, Nat.zero_le _⟩ dX2_readSum_73 (fun r u H locs hp hW _ _ => ?_)
              obtain ⟨rfl, rfl⟩ := hp
              refine lv_as (z := bI (f (nxR (σ 2) z r.2)).1) rfl ?_
              refine lv_istore_n (lv' := [(2, .int (bI (f (nxR (σ 2) z r.2)).1)), (4, .int (-15)), (3, .int (nI i)), (0, .ref (ad 3)), (1, .int (nI o))]) hx hb dX2_readSum_76 rfl hl (by decide) rfl (fun ls hl => ?_)
              refine lv_aload_n hx hb dX2_readSum_77 rfl (lv_at hl 3 rfl) ?_
              refine lv_iload hx hb dX2_readSum_78 (lv_at hl 1 rfl) ?_
              refine gw_callVv (rm := rm_yX2_write) (As := [.int (-15)]) (rest := []) F hl.1 hW (fun _ _ hw => va_Nw.warmM hw hE.1) XE_E (by omega) xe_3 rfl (kX2_write (σ := rsS σ ((f (nxR (σ 2) z r.2)).2)) (z0 := (-15))) pd_yX2_write ml_RX2_54 im_yX2_write se_yX2_write ini_RX2 cd_yX2_write ⟨rfl, rfl⟩ ⟨(show 0 + 1 ≤ Fr + 1 by have := hFr; omega), (show 8 + (2 + 11) + 0 ≤ 24 * (Fr + 1) by have := hFr; omega)⟩ rfl rfl (Nat.le_of_ble_eq_true rfl) ⟨Nat.zero_le _, Nat.zero_le _⟩ dX2_readSum_80 (fun σ_6 H locs hp hW _ _ => ?_)
              have hp : σ_6 = rsS σ (wrR (-15) ((f (nxR (σ 2) z r.2)).2)) := hp.trans (wri_rs σ (hk _ (okR_nx (hokr))) (-15))
              subst hp
              refine lv_iinc (v := nI (i + 1)) (lv' := [(3, .int (nI (i + 1))), (2, .int (bI (f (nxR (σ 2) z r.2)).1)), (4, .int (-15)), (0, .ref (ad 3)), (1, .int (nI o))]) hx hb dX2_readSum_83 hl (k := 2) rfl (nI_1 i) (by decide) rfl (fun ls hl => ?_)
              refine lv_goto (tgt := 8) hx hb dX2_readSum_86 (by decide) ?_
              exact ih8 (i + 1) w ((f (nxR (σ 2) z r.2)).1, wrR (-15) (f (nxR (σ 2) z r.2)).2) (by omega) (by omega) (okR_wr (hk _ (okR_nx hokr)) _) (by rw [← hRR]; exact (row_s (bI_1 c_2) (if_pos c_3)).symm) _ _ _ hW (lv_sub hl [0, 1, 3, 4] rfl)
          ·
            refine lv_aload_n hx hb dX2_readSum_31 rfl (lv_at hl 2 rfl) ?_
            refine xr_D F hW 0 (by decide) rfl fl_RX2_9 dX2_readSum_32 ?_
            refine xr_P F hW 3 (by decide) rfl fl_RX2_35 dX2_readSum_35 ?_
            refine lv_as (z := r.2.2.1) rfl ?_
            refine lv_bipush (v := 45) hx hb dX2_readSum_38 (by decide) ?_
            refine lv_icmp_ne (tgt := 89) hx hb dX2_readSum_40 (by decide) (fun c_7 => ?_) (fun c_7 => ?_)
            ·
              refine lv_iload_n hx hb dX2_readSum_89 rfl (lv_at hl 1 rfl) ?_
              exact hret (bI r.1) (rsS σ r.2) _ _ _ _ _ hW rfl (bI_n _) (by have hq : r = RES := (row_n ((if_neg c_3).trans (if_neg c_7))).symm.trans hRR; exact ⟨congrArg (fun q : Bool × Rs => bI q.1) (hq.trans hR0.symm), congrArg (fun q : Bool × Rs => rsS σ q.2) (hq.trans hR0.symm)⟩) dX2_readSum_90
            ·
              refine lv_aload_n hx hb dX2_readSum_43 rfl (lv_at hl 2 rfl) ?_
              refine xr_D F hW 0 (by decide) rfl fl_RX2_9 dX2_readSum_44 ?_
              refine xr_P F hW 3 (by decide) rfl fl_RX2_35 dX2_readSum_47 ?_
              refine lv_as (z := r.2.2.1) rfl ?_
              refine lv_bipush (v := 43) hx hb dX2_readSum_50 (by decide) ?_
              refine lv_icmp_ne (tgt := 60) hx hb dX2_readSum_52 (by decide) (fun c_8 => ?_) (fun c_8 => ?_)
              ·
                refine lv_bipush (v := (-16)) hx hb dX2_readSum_60 (by decide) ?_
                refine lv_istore (lv' := [(4, .int (-16)), (3, .int (nI i)), (2, .int (bI r.1)), (0, .ref (ad 3)), (1, .int (nI o))]) hx hb dX2_readSum_62 hl (by decide) rfl (fun ls hl => ?_)
                refine lv_aload_n hx hb dX2_readSum_64 rfl (lv_at hl 3 rfl) ?_
                refine xr_D F hW 0 (by decide) rfl fl_RX2_9 dX2_readSum_65 ?_
                refine gw_callVv (rm := rm_yX5_next) (As := []) (rest := []) F hl.1 hW (xs_hE hE hA hsz hW) XS_E (by omega) xe_1 rfl (kX5_next (adK := adK) (adV := adV) (σ := rdS σ r.2.2.2.2.2) (z := z) (a := r.2.1) hz hz1 (hokr).1) pd_yX5_next ml_RX2_48 im_yX5_next se_yX5_next ini_RX5 cd_yX5_next ⟨rfl, rfl⟩ ⟨(show 6 + 1 ≤ Fr + 1 by have := hFr; omega), (show 8 + (1 + 11) + 127 ≤ 24 * (Fr + 1) by have := hFr; omega)⟩ rfl rfl (Nat.le_of_ble_eq_true rfl) ⟨Nat.zero_le _, Nat.zero_le _⟩ dX2_readSum_68 (fun σ_9 H locs hp hW _ _ => ?_)
                subst hp
                have hW : XW D cs ad n ρ TT τ (rsS σ (nxR (σ 2) z r.2)) A s s.heap H locs := hW
                refine lv_aload_n hx hb dX2_readSum_71 rfl (lv_at hl 3 rfl) ?_
                refine lv_iload_n hx hb dX2_readSum_72 rfl (lv_at hl 4 rfl) ?_
                refine gw_callVi (rm := (roomF Fr)) (As := [.int (nI o)]) (rest := []) F hl.1 hW (xs_hE hE hA hsz hW) XS_E (by omega) xe_3 rfl (h (nxR (σ 2) z r.2) _ (okR_nx (hokr))) pd_yX2_readTerm ml_RX2_64 im_yX2_readTerm se_yX2_readTerm ini_RX2 cd_yX2_readTerm ⟨rfl, rfl⟩ ⟨(show Fr + 1 ≤ Fr + 1 by have := hFr; omega), (show 8 + (4 + 11) + 24 * (Fr) ≤ 24 * (Fr + 1) by have := hFr; omega)⟩ rfl rfl (Nat.le_of_ble_eq_true rfl) ⟨Nat.zero_le _, Nat.zero_le _⟩ dX2_readSum_73 (fun r u H locs hp hW _ _ => ?_)
                obtain ⟨rfl, rfl⟩ := hp
                refine lv_as (z := bI (f (nxR (σ 2) z r.2)).1) rfl ?_
                refine lv_istore_n (lv' := [(2, .int (bI (f (nxR (σ 2) z r.2)).1)), (4, .int (-16)), (3, .int (nI i)), (0, .ref (ad 3)), (1, .int (nI o))]) hx hb dX2_readSum_76 rfl hl (by decide) rfl (fun ls hl => ?_)
                refine lv_aload_n hx hb dX2_readSum_77 rfl (lv_at hl 3 rfl) ?_
                refine lv_iload hx hb dX2_readSum_78 (lv_at hl 1 rfl) ?_
                refine gw_callVv (rm := rm_yX2_write) (As := [.int (-16)]) (rest := []) F hl.1 hW (fun _ _ hw => va_Nw.warmM hw hE.1) XE_E (by omega) xe_3 rfl (kX2_write (σ := rsS σ ((f (nxR (σ 2) z r.2)).2)) (z0 := (-16))) pd_yX2_write ml_RX2_54 im_yX2_write se_yX2_write ini_RX2 cd_yX2_write ⟨rfl, rfl⟩ ⟨(show 0 + 1 ≤ Fr + 1 by have := hFr; omega), (show 8 + (2 + 11) + 0 ≤ 24 * (Fr + 1) by have := hFr; omega)⟩ rfl rfl (Nat.le_of_ble_eq_true rfl) ⟨Nat.zero_le _, Nat.zero_le _⟩ dX2_readSum_80 (fun σ_10 H locs hp hW _ _ => ?_)
                have hp : σ_10 = rsS σ (wrR (-16) ((f (nxR (σ 2) z r.2)).2)) := hp.trans (wri_rs σ (hk _ (okR_nx (hokr))) (-16))
                subst hp
                refine lv_iinc (v := nI (i + 1)) (lv' := [(3, .int (nI (i + 1))), (2, .int (bI (f (nxR (σ 2) z r.2)).1)), (4, .int (-16)), (0, .ref (ad 3)), (1, .int (nI o))]) hx hb dX2_readSum_83 hl (k := 2) rfl (nI_1 i) (by decide) rfl (fun ls hl => ?_)
                refine lv_goto (tgt := 8) hx hb dX2_readSum_86 (by decide) ?_
                exact ih8 (i + 1) w ((f (nxR (σ 2) z r.2)).1, wrR (-16) (f (nxR (σ 2) z r.2)).2) (by omega) (by omega) (okR_wr (hk _ (okR_nx hokr)) _) (by rw [← hRR]; exact (row_s (bI_1 c_2) ((if_neg c_3).trans (if_pos c_7))).symm) _ _ _ hW (lv_sub hl [0, 1, 3, 4] rfl)
              ·
                exact absurd c_8 c_3
  exact L8 161 0 160 (f x) (rfl) (by omega) (hk x hok) (hR0) _ _ _ hW (lv_sub hl [0, 1, 2, 3] rfl)
set_option maxHeartbeats 800000 in
set_option maxRecDepth 100000 in
theorem rX2_readNot {l : Launch} {D : va_G} {cs : Nat → ClassId} {ad : Nat → Nat} {n : Nat} {ρ σ : Nat → Nat → Int32} {TT τ : Nat → Nat → Nat → Int32} {adK adV : Nat → Nat} {z : Nat} {lo : Rlo} {o Fr G1 G2 G3 : Nat} (hz : σ 1 1 = nI z) (hz1 : z ≤ 160) (hFr : 8 ≤ Fr) (h : RdC l D cs ad n ρ TT τ σ z adK adV (sumR (σ 2) z lo) yX2_readSum cX2_readSum 5 Fr [.int (nI o)]) (hlt : o < 5 → ∃ d : Rf × Rf × Rf, lo = some d ∧ RdC l D cs ad n ρ TT τ σ z adK adV d.1 yX2_readOne cX2_readOne 4 G1 [.int (nI (o + 1))] ∧ RdC l D cs ad n ρ TT τ σ z adK adV d.2.1 yX2_readNot cX2_readNot 4 G2 [.int (nI (o + 1))] ∧ RdC l D cs ad n ρ TT τ σ z adK adV d.2.2 yX2_readOr cX2_readOr 4 G3 [.int (nI (o + 1))]) (hge : o = 5 → lo = none) (ho : o ≤ 5) (hkl : kpLo z lo) (hG : G1 + 1 ≤ Fr + 1 ∧ G2 + 1 ≤ Fr + 1 ∧ G3 + 1 ≤ Fr + 1) : RdC l D cs ad n ρ TT τ σ z adK adV (notR (σ 2) z lo) yX2_readNot cX2_readNot 4 (Fr + 1) [.int (nI o)] := by
  intro x sz hok
  refine gw_stIs (Ff := fun u : Nat → Nat → Int32 => xent ad cs n ρ TT τ u) (own := RX2) (by decide +kernel) rfl (Nat.le_of_ble_eq_true rfl) ?_
  intro p e s m ar below meth c A Q F hE hsz hA hW hret ls hl
  obtain ⟨hx, hb, hml, hown, hts⟩ := id F
  have hl : lv_has ls 4 [(0, .ref (ad 3)), (1, .int (nI o))] := hl
  refine lv_aload_n hx hb dX2_readNot_0 rfl (lv_at hl 0 rfl) ?_
  refine xr_D F hW 0 (by decide) rfl fl_RX2_9 dX2_readNot_1 ?_
  refine xr_P F hW 3 (by decide) rfl fl_RX2_35 dX2_readNot_4 ?_
  refine lv_as (z := x.2.1) rfl ?_
  refine lv_bipush (v := (-9)) hx hb dX2_readNot_7 (by decide) ?_
  refine lv_icmp_ne (tgt := 42) hx hb dX2_readNot_9 (by decide) (fun c_1 => ?_) (fun c_1 => ?_)
  ·
    refine lv_aload_n hx hb dX2_readNot_42 rfl (lv_at hl 0 rfl) ?_
    refine lv_iload_n hx hb dX2_readNot_43 rfl (lv_at hl 1 rfl) ?_
    refine gw_callVi (rm := (roomF Fr)) (As := [.int (nI o)]) (rest := []) F hl.1 hW (xs_hE hE hA hsz hW) XS_E (by omega) xe_3 rfl (h x _ (hok)) pd_yX2_readSum ml_RX2_61 im_yX2_readSum se_yX2_readSum ini_RX2 cd_yX2_readSum ⟨rfl, rfl⟩ ⟨(show Fr + 1 ≤ Fr + 1 by have := hFr; omega), (show 8 + (5 + 11) + 24 * (Fr) ≤ 24 * (Fr + 1) by have := hFr; omega)⟩ rfl rfl (Nat.le_of_ble_eq_true rfl) ⟨Nat.zero_le _, Nat.zero_le _⟩ dX2_readNot_44 (fun r u H locs hp hW _ _ => ?_)
    obtain ⟨rfl, rfl⟩ := hp
    refine lv_as (z := bI (sumR (σ 2) z lo x).1) rfl ?_
    refine lv_istore_n (lv' := [(2, .int (bI (sumR (σ 2) z lo x).1)), (0, .ref (ad 3)), (1, .int (nI o))]) hx hb dX2_readNot_47 rfl hl (by decide) rfl (fun ls hl => ?_)
    refine lv_aload_n hx hb dX2_readNot_48 rfl (lv_at hl 1 rfl) ?_
    refine xr_D F hW 0 (by decide) rfl fl_RX2_9 dX2_readNot_49 ?_
    refine xr_P F hW 3 (by decide) rfl fl_RX2_35 dX2_readNot_52 ?_
    refine lv_as (z := ((sumR (σ 2) z lo x).2).2.1) rfl ?_
    refine lv_istore_n (lv' := [(3, .int (((sumR (σ 2) z lo x).2).2.1)), (2, .int (bI (sumR (σ 2) z lo x).1)), (0, .ref (ad 3)), (1, .int (nI o))]) hx hb dX2_readNot_55 rfl hl (by decide) rfl (fun ls hl => ?_)
    refine lv_iload_n hx hb dX2_readNot_56 rfl (lv_at hl 1 rfl) ?_
    refine lv_if_eq (tgt := 102) hx hb dX2_readNot_57 (by decide) (fun c_2 => ?_) (fun c_2 => ?_)
    ·
      refine lv_iload_n hx hb dX2_readNot_102 rfl (lv_at hl 1 rfl) ?_
      exact hret (bI (sumR (σ 2) z lo x).1) (rsS σ ((sumR (σ 2) z lo x).2)) _ _ _ _ _ hW rfl (bI_n _) (by unfold notR; rw [if_neg c_1, if_neg (fun q => absurd (q.1.symm.trans (bI_0 c_2)) (by decide))]; exact ⟨rfl, rfl⟩) dX2_readNot_103
    ·
      refine lv_iload_n hx hb dX2_readNot_60 rfl (lv_at hl 0 rfl) ?_
      refine lv_bipush (v := 60) hx hb dX2_readNot_61 (by decide) ?_
      refine lv_icmp_eq (tgt := 72) hx hb dX2_readNot_63 (by decide) (fun c_3 => ?_) (fun c_3 => ?_)
      ·
        refine lv_aload_n hx hb dX2_readNot_72 rfl (lv_at hl 2 rfl) ?_
        refine xr_D F hW 0 (by decide) rfl fl_RX2_9 dX2_readNot_73 ?_
        refine gw_callVv (rm := rm_yX5_next) (As := []) (rest := []) F hl.1 hW (xs_hE hE hA hsz hW) XS_E (by omega) xe_1 rfl (kX5_next (adK := adK) (adV := adV) (σ := rdS σ ((sumR (σ 2) z lo x).2).2.2.2.2) (z := z) (a := ((sumR (σ 2) z lo x).2).1) hz hz1 ((kp_sum hkl) _ (hok)).1) pd_yX5_next ml_RX2_48 im_yX5_next se_yX5_next ini_RX5 cd_yX5_next ⟨rfl, rfl⟩ ⟨(show 6 + 1 ≤ Fr + 1 by have := hFr; omega), (show 8 + (1 + 11) + 127 ≤ 24 * (Fr + 1) by have := hFr; omega)⟩ rfl rfl (Nat.le_of_ble_eq_true rfl) ⟨Nat.zero_le _, Nat.zero_le _⟩ dX2_readNot_76 (fun σ_4 H locs hp hW _ _ => ?_)
        subst hp
        have hW : XW D cs ad n ρ TT τ (rsS σ (nxR (σ 2) z ((sumR (σ 2) z lo x).2))) A s s.heap H locs := hW
        refine lv_aload_n hx hb dX2_readNot_79 rfl (lv_at hl 2 rfl) ?_
        refine lv_iload_n hx hb dX2_readNot_80 rfl (lv_at hl 3 rfl) ?_
        refine gw_callVi (rm := (roomF Fr)) (As := [.int (nI o)]) (rest := []) F hl.1 hW (xs_hE hE hA hsz hW) XS_E (by omega) xe_3 rfl (h (nxR (σ 2) z ((sumR (σ 2) z lo x).2)) _ (okR_nx ((kp_sum hkl) _ (hok)))) pd_yX2_readSum ml_RX2_61 im_yX2_readSum se_yX2_readSum ini_RX2 cd_yX2_readSum ⟨rfl, rfl⟩ ⟨(show Fr + 1 ≤ Fr + 1 by have := hFr; omega), (show 8 + (5 + 11) + 24 * (Fr) ≤ 24 * (Fr + 1) by have := hFr; omega)⟩ rfl rfl (Nat.le_of_ble_eq_true rfl) ⟨Nat.zero_le _, Nat.zero_le _⟩ dX2_readNot_81 (fun r u H locs hp hW _ _ => ?_)
        obtain ⟨rfl, rfl⟩ := hp
        refine lv_as (z := bI (sumR (σ 2) z lo (nxR (σ 2) z ((sumR (σ 2) z lo x).2))).1) rfl ?_
        refine lv_istore_n (lv' := [(2, .int (bI (sumR (σ 2) z lo (nxR (σ 2) z ((sumR (σ 2) z lo x).2))).1)), (3, .int (((sumR (σ 2) z lo x).2).2.1)), (0, .ref (ad 3)), (1, .int (nI o))]) hx hb dX2_readNot_84 rfl hl (by decide) rfl (fun ls hl => ?_)
        refine lv_aload_n hx hb dX2_readNot_85 rfl (lv_at hl 2 rfl) ?_
        refine lv_iload_n hx hb dX2_readNot_86 rfl (lv_at hl 1 rfl) ?_
        refine lv_bipush (v := 60) hx hb dX2_readNot_87 (by decide) ?_
        refine lv_icmp_ne (tgt := 97) hx hb dX2_readNot_89 (by decide) (fun c_5 => ?_) (fun c_5 => ?_)
        ·
          exact absurd c_3 c_5
        ·
          refine lv_bipush (v := (-13)) hx hb dX2_readNot_92 (by decide) ?_
          refine lv_goto (tgt := 99) hx hb dX2_readNot_94 (by decide) ?_
          refine gw_callVv (rm := rm_yX2_write) (As := [.int (-13)]) (rest := []) F hl.1 hW (fun _ _ hw => va_Nw.warmM hw hE.1) XE_E (by omega) xe_3 rfl (kX2_write (σ := rsS σ ((sumR (σ 2) z lo (nxR (σ 2) z ((sumR (σ 2) z lo x).2))).2)) (z0 := (-13))) pd_yX2_write ml_RX2_54 im_yX2_write se_yX2_write ini_RX2 cd_yX2_write ⟨rfl, rfl⟩ ⟨(show 0 + 1 ≤ Fr + 1 by have := hFr; omega), (show 8 + (2 + 11) + 0 ≤ 24 * (Fr + 1) by have := hFr; omega)⟩ rfl rfl (Nat.le_of_ble_eq_true rfl) ⟨Nat.zero_le _, Nat.zero_le _⟩ dX2_readNot_99 (fun σ_6 H locs hp hW _ _ => ?_)
          have hp : σ_6 = rsS σ (wrR (-13) ((sumR (σ 2) z lo (nxR (σ 2) z ((sumR (σ 2) z lo x).2))).2)) := hp.trans (wri_rs σ ((kp_sum hkl) _ (okR_nx ((kp_sum hkl) _ (hok)))) (-13))
          subst hp
          refine lv_iload_n hx hb dX2_readNot_102 rfl (lv_at hl 0 rfl) ?_
          exact hret (bI (sumR (σ 2) z lo (nxR (σ 2) z ((sumR (σ 2) z lo x).2))).1) (rsS σ (wrR (-13) ((sumR (σ 2) z lo (nxR (σ 2) z ((sumR (σ 2) z lo x).2))).2))) _ _ _ _ _ hW rfl (bI_n _) (by unfold notR; rw [if_neg c_1, if_pos ⟨bI_1 c_2, Or.inl c_3⟩, if_pos c_3]; exact ⟨rfl, rfl⟩) dX2_readNot_103
      ·
        refine lv_iload_n hx hb dX2_readNot_66 rfl (lv_at hl 0 rfl) ?_
        refine lv_bipush (v := 61) hx hb dX2_readNot_67 (by decide) ?_
        refine lv_icmp_ne (tgt := 102) hx hb dX2_readNot_69 (by decide) (fun c_7 => ?_) (fun c_7 => ?_)
        ·
          refine lv_iload_n hx hb dX2_readNot_102 rfl (lv_at hl 1 rfl) ?_
          exact hret (bI (sumR (σ 2) z lo x).1) (rsS σ ((sumR (σ 2) z lo x).2)) _ _ _ _ _ hW rfl (bI_n _) (by unfold notR; rw [if_neg c_1, if_neg (fun q => q.2.elim c_3 c_7)]; exact ⟨rfl, rfl⟩) dX2_readNot_103
        ·
          refine lv_aload_n hx hb dX2_readNot_72 rfl (lv_at hl 2 rfl) ?_
          refine xr_D F hW 0 (by decide) rfl fl_RX2_9 dX2_readNot_73 ?_
          refine gw_callVv (rm := rm_yX5_next) (As := []) (rest := []) F hl.1 hW (xs_hE hE hA hsz hW) XS_E (by omega) xe_1 rfl (kX5_next (adK := adK) (adV := adV) (σ := rdS σ ((sumR (σ 2) z lo x).2).2.2.2.2) (z := z) (a := ((sumR (σ 2) z lo x).2).1) hz hz1 ((kp_sum hkl) _ (hok)).1) pd_yX5_next ml_RX2_48 im_yX5_next se_yX5_next ini_RX5 cd_yX5_next ⟨rfl, rfl⟩ ⟨(show 6 + 1 ≤ Fr + 1 by have := hFr; omega), (show 8 + (1 + 11) + 127 ≤ 24 * (Fr + 1) by have := hFr; omega)⟩ rfl rfl (Nat.le_of_ble_eq_true rfl) ⟨Nat.zero_le _, Nat.zero_le _⟩ dX2_readNot_76 (fun σ_8 H locs hp hW _ _ => ?_)
          subst hp
          have hW : XW D cs ad n ρ TT τ (rsS σ (nxR (σ 2) z ((sumR (σ 2) z lo x).2))) A s s.heap H locs := hW
          refine lv_aload_n hx hb dX2_readNot_79 rfl (lv_at hl 2 rfl) ?_
          refine lv_iload_n hx hb dX2_readNot_80 rfl (lv_at hl 3 rfl) ?_
          refine gw_callVi (rm := (roomF Fr)) (As := [.int (nI o)]) (rest := []) F hl.1 hW (xs_hE hE hA hsz hW) XS_E (by omega) xe_3 rfl (h (nxR (σ 2) z ((sumR (σ 2) z lo x).2)) _ (okR_nx ((kp_sum hkl) _ (hok)))) pd_yX2_readSum ml_RX2_61 im_yX2_readSum se_yX2_readSum ini_RX2 cd_yX2_readSum ⟨rfl, rfl⟩ ⟨(show Fr + 1 ≤ Fr + 1 by have := hFr; omega), (show 8 + (5 + 11) + 24 * (Fr) ≤ 24 * (Fr + 1) by have := hFr; omega)⟩ rfl rfl (Nat.le_of_ble_eq_true rfl) ⟨Nat.zero_le _, Nat.zero_le _⟩ dX2_readNot_81 (fun r u H locs hp hW _ _ => ?_)
          obtain ⟨rfl, rfl⟩ := hp
          refine lv_as (z := bI (sumR (σ 2) z lo (nxR (σ 2) z ((sumR (σ 2) z lo x).2))).1) rfl ?_
          refine lv_istore_n (lv' := [(2, .int (bI (sumR (σ 2) z lo (nxR (σ 2) z ((sumR (σ 2) z lo x).2))).1)), (3, .int (((sumR (σ 2) z lo x).2).2.1)), (0, .ref (ad 3)), (1, .int (nI o))]) hx hb dX2_readNot_84 rfl hl (by decide) rfl (fun ls hl => ?_)
          refine lv_aload_n hx hb dX2_readNot_85 rfl (lv_at hl 2 rfl) ?_
          refine lv_iload_n hx hb dX2_readNot_86 rfl (lv_at hl 1 rfl) ?_
          refine lv_bipush (v := 60) hx hb dX2_readNot_87 (by decide) ?_
          refine lv_icmp_ne (tgt := 97) hx hb dX2_readNot_89 (by decide) (fun c_9 => ?_) (fun c_9 => ?_)
          ·
            refine lv_bipush (v := (-14)) hx hb dX2_readNot_97 (by decide) ?_
            refine gw_callVv (rm := rm_yX2_write) (As := [.int (-14)]) (rest := []) F hl.1 hW (fun _ _ hw => va_Nw.warmM hw hE.1) XE_E (by omega) xe_3 rfl (kX2_write (σ := rsS σ ((sumR (σ 2) z lo (nxR (σ 2) z ((sumR (σ 2) z lo x).2))).2)) (z0 := (-14))) pd_yX2_write ml_RX2_54 im_yX2_write se_yX2_write ini_RX2 cd_yX2_write ⟨rfl, rfl⟩ ⟨(show 0 + 1 ≤ Fr + 1 by have := hFr; omega), (show 8 + (2 + 11) + 0 ≤ 24 * (Fr + 1) by have := hFr; omega)⟩ rfl rfl (Nat.le_of_ble_eq_true rfl) ⟨Nat.zero_le _, Nat.zero_le _⟩ dX2_readNot_99 (fun σ_10 H locs hp hW _ _ => ?_)
            have hp : σ_10 = rsS σ (wrR (-14) ((sumR (σ 2) z lo (nxR (σ 2) z ((sumR (σ 2) z lo x).2))).2)) := hp.trans (wri_rs σ ((kp_sum hkl) _ (okR_nx ((kp_sum hkl) _ (hok)))) (-14))
            subst hp
            refine lv_iload_n hx hb dX2_readNot_102 rfl (lv_at hl 0 rfl) ?_
            exact hret (bI (sumR (σ 2) z lo (nxR (σ 2) z ((sumR (σ 2) z lo x).2))).1) (rsS σ (wrR (-14) ((sumR (σ 2) z lo (nxR (σ 2) z ((sumR (σ 2) z lo x).2))).2))) _ _ _ _ _ hW rfl (bI_n _) (by unfold notR; rw [if_neg c_1, if_pos ⟨bI_1 c_2, Or.inr c_7⟩, if_neg c_3]; exact ⟨rfl, rfl⟩) dX2_readNot_103
          ·
            exact absurd c_9 c_3
  ·
    refine lv_iload_n hx hb dX2_readNot_12 rfl (lv_at hl 1 rfl) ?_
    refine lv_iconst (v := 5) hx hb dX2_readNot_13 (by decide) ?_
    refine lv_icmp_lt (tgt := 19) hx hb dX2_readNot_14 (by decide) (fun c_11 => ?_) (fun c_11 => ?_)
    ·
      have ho5 : o < 5 := mi_lt (a := o) (b := 5) c_11 (by omega) (by decide); obtain ⟨d, hd, hd1, hd2, hd3⟩ := hlt ho5; obtain ⟨hk1, hk2, hk3⟩ := hkl d hd
      refine lv_aload_n hx hb dX2_readNot_19 rfl (lv_at hl 0 rfl) ?_
      refine xr_D F hW 0 (by decide) rfl fl_RX2_9 dX2_readNot_20 ?_
      refine gw_callVv (rm := rm_yX5_next) (As := []) (rest := []) F hl.1 hW (xs_hE hE hA hsz hW) XS_E (by omega) xe_1 rfl (kX5_next (adK := adK) (adV := adV) (σ := rdS σ x.2.2.2.2) (z := z) (a := x.1) hz hz1 (hok).1) pd_yX5_next ml_RX2_48 im_yX5_next se_yX5_next ini_RX5 cd_yX5_next ⟨rfl, rfl⟩ ⟨(show 6 + 1 ≤ Fr + 1 by have := hFr; omega), (show 8 + (1 + 11) + 127 ≤ 24 * (Fr + 1) by have := hFr; omega)⟩ rfl rfl (Nat.le_of_ble_eq_true rfl) ⟨Nat.zero_le _, Nat.zero_le _⟩ dX2_readNot_23 (fun σ_12 H locs hp hW _ _ => ?_)
      subst hp
      have hW : XW D cs ad n ρ TT τ (rsS σ (nxR (σ 2) z x)) A s s.heap H locs := hW
      refine lv_aload_n hx hb dX2_readNot_26 rfl (lv_at hl 0 rfl) ?_
      refine lv_iload_n hx hb dX2_readNot_27 rfl (lv_at hl 1 rfl) ?_
      refine lv_iconst (v := 1) hx hb dX2_readNot_28 (by decide) ?_
      refine lv_iadd hx hb dX2_readNot_29 ?_
      refine lv_as (z := nI (o + 1)) (nI_1 o) ?_
      refine gw_callVi (rm := (roomF G2)) (As := [.int (nI (o + 1))]) (rest := []) F hl.1 hW (xs_hE hE hA hsz hW) XS_E (by omega) xe_3 rfl (hd2 (nxR (σ 2) z x) _ (okR_nx (hok))) pd_yX2_readNot ml_RX2_58 im_yX2_readNot se_yX2_readNot ini_RX2 cd_yX2_readNot ⟨rfl, rfl⟩ ⟨(show G2 + 1 ≤ Fr + 1 by have := hG; omega), (show 8 + (4 + 11) + 24 * (G2) ≤ 24 * (Fr + 1) by have := hG; omega)⟩ rfl rfl (Nat.le_of_ble_eq_true rfl) ⟨Nat.zero_le _, Nat.zero_le _⟩ dX2_readNot_30 (fun r u H locs hp hW _ _ => ?_)
      obtain ⟨rfl, rfl⟩ := hp
      refine lv_as (z := bI (d.2.1 (nxR (σ 2) z x)).1) rfl ?_
      refine lv_istore_n (lv' := [(2, .int (bI (d.2.1 (nxR (σ 2) z x)).1)), (0, .ref (ad 3)), (1, .int (nI o))]) hx hb dX2_readNot_33 rfl hl (by decide) rfl (fun ls hl => ?_)
      refine lv_aload_n hx hb dX2_readNot_34 rfl (lv_at hl 1 rfl) ?_
      refine lv_bipush (v := (-9)) hx hb dX2_readNot_35 (by decide) ?_
      refine gw_callVv (rm := rm_yX2_write) (As := [.int (-9)]) (rest := []) F hl.1 hW (fun _ _ hw => va_Nw.warmM hw hE.1) XE_E (by omega) xe_3 rfl (kX2_write (σ := rsS σ ((d.2.1 (nxR (σ 2) z x)).2)) (z0 := (-9))) pd_yX2_write ml_RX2_54 im_yX2_write se_yX2_write ini_RX2 cd_yX2_write ⟨rfl, rfl⟩ ⟨(show 0 + 1 ≤ Fr + 1 by have := hFr; omega), (show 8 + (2 + 11) + 0 ≤ 24 * (Fr + 1) by have := hFr; omega)⟩ rfl rfl (Nat.le_of_ble_eq_true rfl) ⟨Nat.zero_le _, Nat.zero_le _⟩ dX2_readNot_37 (fun σ_13 H locs hp hW _ _ => ?_)
      have hp : σ_13 = rsS σ (wrR (-9) ((d.2.1 (nxR (σ 2) z x)).2)) := hp.trans (wri_rs σ (hk2 _ (okR_nx (hok))) (-9))
      subst hp
      refine lv_iload_n hx hb dX2_readNot_40 rfl (lv_at hl 0 rfl) ?_
      exact hret (bI (d.2.1 (nxR (σ 2) z x)).1) (rsS σ (wrR (-9) ((d.2.1 (nxR (σ 2) z x)).2))) _ _ _ _ _ hW rfl (bI_n _) (by unfold notR; rw [if_pos c_1, hd]; exact ⟨rfl, rfl⟩) dX2_readNot_41
    ·
      have hlo : lo = none := hge (by have := mi_nlt (a := o) (b := 5) c_11 (by omega) (by decide); omega)
      refine lv_iconst (v := 0) hx hb dX2_readNot_17 (by decide) ?_
      exact hret 0 (rsS σ x) _ _ _ _ _ hW rfl rfl (by unfold notR; rw [if_pos c_1, hlo]; exact ⟨rfl, rfl⟩) dX2_readNot_18
set_option maxHeartbeats 800000 in
set_option maxRecDepth 100000 in
theorem rX2_readOne {l : Launch} {D : va_G} {cs : Nat → ClassId} {ad : Nat → Nat} {n : Nat} {ρ σ : Nat → Nat → Int32} {TT τ : Nat → Nat → Nat → Int32} {adK adV : Nat → Nat} {z : Nat} {lo : Rlo} {o Fr G1 G2 G3 : Nat} (hz : σ 1 1 = nI z) (hz1 : z ≤ 160) (hFr : 8 ≤ Fr) (hlt : o < 5 → ∃ d : Rf × Rf × Rf, lo = some d ∧ RdC l D cs ad n ρ TT τ σ z adK adV d.1 yX2_readOne cX2_readOne 4 G1 [.int (nI (o + 1))] ∧ RdC l D cs ad n ρ TT τ σ z adK adV d.2.1 yX2_readNot cX2_readNot 4 G2 [.int (nI (o + 1))] ∧ RdC l D cs ad n ρ TT τ σ z adK adV d.2.2 yX2_readOr cX2_readOr 4 G3 [.int (nI (o + 1))]) (hge : o = 5 → lo = none) (ho : o ≤ 5) (hkl : kpLo z lo) (hG : G1 + 1 ≤ Fr + 1 ∧ G2 + 1 ≤ Fr + 1 ∧ G3 + 1 ≤ Fr + 1) : RdC l D cs ad n ρ TT τ σ z adK adV (oneR (σ 2) z lo) yX2_readOne cX2_readOne 4 (Fr + 1) [.int (nI o)] := by
  intro x sz hok
  refine gw_stIs (Ff := fun u : Nat → Nat → Int32 => xent ad cs n ρ TT τ u) (own := RX2) (by decide +kernel) rfl (Nat.le_of_ble_eq_true rfl) ?_
  intro p e s m ar below meth c A Q F hE hsz hA hW hret ls hl
  obtain ⟨hx, hb, hml, hown, hts⟩ := id F
  have hl : lv_has ls 4 [(0, .ref (ad 3)), (1, .int (nI o))] := hl
  refine lv_aload_n hx hb dX2_readOne_0 rfl (lv_at hl 0 rfl) ?_
  refine xr_D F hW 0 (by decide) rfl fl_RX2_9 dX2_readOne_1 ?_
  refine xr_P F hW 3 (by decide) rfl fl_RX2_35 dX2_readOne_4 ?_
  refine lv_as (z := x.2.1) rfl ?_
  refine lv_istore_n (lv' := [(2, .int x.2.1), (0, .ref (ad 3)), (1, .int (nI o))]) hx hb dX2_readOne_7 rfl hl (by decide) rfl (fun ls hl => ?_)
  refine lv_iload_n hx hb dX2_readOne_8 rfl (lv_at hl 0 rfl) ?_
  refine lv_iconst (v := 2) hx hb dX2_readOne_9 (by decide) ?_
  refine lv_icmp_eq (tgt := 24) hx hb dX2_readOne_10 (by decide) (fun c_1 => ?_) (fun c_1 => ?_)
  ·
    refine lv_aload_n hx hb dX2_readOne_24 rfl (lv_at hl 1 rfl) ?_
    refine lv_iload_n hx hb dX2_readOne_25 rfl (lv_at hl 0 rfl) ?_
    refine lv_iconst (v := 2) hx hb dX2_readOne_26 (by decide) ?_
    refine lv_icmp_ne (tgt := 40) hx hb dX2_readOne_27 (by decide) (fun c_2 => ?_) (fun c_2 => ?_)
    ·
      exact absurd c_1 c_2
    ·
      refine lv_aload_n hx hb dX2_readOne_30 rfl (lv_at hl 1 rfl) ?_
      refine xr_D F hW 0 (by decide) rfl fl_RX2_9 dX2_readOne_31 ?_
      refine xr_P F hW 5 (by decide) rfl fl_RX2_70 dX2_readOne_34 ?_
      refine lv_as (z := x.2.2.2.1) rfl ?_
      refine lv_goto (tgt := 41) hx hb dX2_readOne_37 (by decide) ?_
      refine gw_callVv (rm := rm_yX2_write) (As := [.int x.2.2.2.1]) (rest := []) F hl.1 hW (fun _ _ hw => va_Nw.warmM hw hE.1) XE_E (by omega) xe_3 rfl (kX2_write (σ := rsS σ x) (z0 := x.2.2.2.1)) pd_yX2_write ml_RX2_54 im_yX2_write se_yX2_write ini_RX2 cd_yX2_write ⟨rfl, rfl⟩ ⟨(show 0 + 1 ≤ Fr + 1 by have := hFr; omega), (show 8 + (2 + 11) + 0 ≤ 24 * (Fr + 1) by have := hFr; omega)⟩ rfl rfl (Nat.le_of_ble_eq_true rfl) ⟨Nat.zero_le _, Nat.zero_le _⟩ dX2_readOne_41 (fun σ_3 H locs hp hW _ _ => ?_)
      have hp : σ_3 = rsS σ (wrR x.2.2.2.1 x) := hp.trans (wri_rs σ (hok) x.2.2.2.1)
      subst hp
      refine lv_aload_n hx hb dX2_readOne_44 rfl (lv_at hl 1 rfl) ?_
      refine xr_D F hW 0 (by decide) rfl fl_RX2_9 dX2_readOne_45 ?_
      refine gw_callVv (rm := rm_yX5_next) (As := []) (rest := []) F hl.1 hW (xs_hE hE hA hsz hW) XS_E (by omega) xe_1 rfl (kX5_next (adK := adK) (adV := adV) (σ := rdS σ (wrR x.2.2.2.1 x).2.2.2.2) (z := z) (a := (wrR x.2.2.2.1 x).1) hz hz1 (okR_wr (hok) x.2.2.2.1).1) pd_yX5_next ml_RX2_48 im_yX5_next se_yX5_next ini_RX5 cd_yX5_next ⟨rfl, rfl⟩ ⟨(show 6 + 1 ≤ Fr + 1 by have := hFr; omega), (show 8 + (1 + 11) + 127 ≤ 24 * (Fr + 1) by have := hFr; omega)⟩ rfl rfl (Nat.le_of_ble_eq_true rfl) ⟨Nat.zero_le _, Nat.zero_le _⟩ dX2_readOne_48 (fun σ_4 H locs hp hW _ _ => ?_)
      subst hp
      have hW : XW D cs ad n ρ TT τ (rsS σ (nxR (σ 2) z (wrR x.2.2.2.1 x))) A s s.heap H locs := hW
      refine lv_iconst (v := 1) hx hb dX2_readOne_51 (by decide) ?_
      exact hret 1 (rsS σ (nxR (σ 2) z (wrR x.2.2.2.1 x))) _ _ _ _ _ hW rfl rfl (by unfold oneR; rw [if_pos (Or.inl c_1), if_pos c_1]; exact ⟨rfl, rfl⟩) dX2_readOne_52
  ·
    refine lv_iload_n hx hb dX2_readOne_13 rfl (lv_at hl 0 rfl) ?_
    refine lv_iconst (v := (-1)) hx hb dX2_readOne_14 (by decide) ?_
    refine lv_icmp_gt (tgt := 53) hx hb dX2_readOne_15 (by decide) (fun c_5 => ?_) (fun c_5 => ?_)
    ·
      refine lv_iload_n hx hb dX2_readOne_53 rfl (lv_at hl 0 rfl) ?_
      refine lv_bipush (v := 40) hx hb dX2_readOne_54 (by decide) ?_
      refine lv_icmp_eq (tgt := 65) hx hb dX2_readOne_56 (by decide) (fun c_6 => ?_) (fun c_6 => ?_)
      ·
        refine lv_iload_n hx hb dX2_readOne_65 rfl (lv_at hl 2 rfl) ?_
        refine lv_iconst (v := 5) hx hb dX2_readOne_66 (by decide) ?_
        refine lv_icmp_lt (tgt := 72) hx hb dX2_readOne_67 (by decide) (fun c_7 => ?_) (fun c_7 => ?_)
        ·
          have ho5 : o < 5 := mi_lt (a := o) (b := 5) c_7 (by omega) (by decide); obtain ⟨d, hd, hd1, hd2, hd3⟩ := hlt ho5; obtain ⟨hk1, hk2, hk3⟩ := hkl d hd
          refine lv_aload_n hx hb dX2_readOne_72 rfl (lv_at hl 1 rfl) ?_
          refine xr_D F hW 0 (by decide) rfl fl_RX2_9 dX2_readOne_73 ?_
          refine gw_callVv (rm := rm_yX5_next) (As := []) (rest := []) F hl.1 hW (xs_hE hE hA hsz hW) XS_E (by omega) xe_1 rfl (kX5_next (adK := adK) (adV := adV) (σ := rdS σ x.2.2.2.2) (z := z) (a := x.1) hz hz1 (hok).1) pd_yX5_next ml_RX2_48 im_yX5_next se_yX5_next ini_RX5 cd_yX5_next ⟨rfl, rfl⟩ ⟨(show 6 + 1 ≤ Fr + 1 by have := hFr; omega), (show 8 + (1 + 11) + 127 ≤ 24 * (Fr + 1) by have := hFr; omega)⟩ rfl rfl (Nat.le_of_ble_eq_true rfl) ⟨Nat.zero_le _, Nat.zero_le _⟩ dX2_readOne_76 (fun σ_8 H locs hp hW _ _ => ?_)
          subst hp
          have hW : XW D cs ad n ρ TT τ (rsS σ (nxR (σ 2) z x)) A s s.heap H locs := hW
          refine lv_iload_n hx hb dX2_readOne_79 rfl (lv_at hl 0 rfl) ?_
          refine lv_bipush (v := 40) hx hb dX2_readOne_80 (by decide) ?_
          refine lv_icmp_ne (tgt := 110) hx hb dX2_readOne_82 (by decide) (fun c_9 => ?_) (fun c_9 => ?_)
          ·
            exact absurd c_6 c_9
          ·
            refine lv_aload_n hx hb dX2_readOne_85 rfl (lv_at hl 1 rfl) ?_
            refine lv_iload_n hx hb dX2_readOne_86 rfl (lv_at hl 2 rfl) ?_
            refine lv_iconst (v := 1) hx hb dX2_readOne_87 (by decide) ?_
            refine lv_iadd hx hb dX2_readOne_88 ?_
            refine lv_as (z := nI (o + 1)) (nI_1 o) ?_
            refine gw_callVi (rm := (roomF G3)) (As := [.int (nI (o + 1))]) (rest := []) F hl.1 hW (xs_hE hE hA hsz hW) XS_E (by omega) xe_3 rfl (hd3 (nxR (σ 2) z x) _ (okR_nx (hok))) pd_yX2_readOr ml_RX2_45 im_yX2_readOr se_yX2_readOr ini_RX2 cd_yX2_readOr ⟨rfl, rfl⟩ ⟨(show G3 + 1 ≤ Fr + 1 by have := hG; omega), (show 8 + (4 + 11) + 24 * (G3) ≤ 24 * (Fr + 1) by have := hG; omega)⟩ rfl rfl (Nat.le_of_ble_eq_true rfl) ⟨Nat.zero_le _, Nat.zero_le _⟩ dX2_readOne_89 (fun r u H locs hp hW _ _ => ?_)
            obtain ⟨rfl, rfl⟩ := hp
            refine lv_as (z := bI (d.2.2 (nxR (σ 2) z x)).1) rfl ?_
            refine lv_if_eq (tgt := 108) hx hb dX2_readOne_92 (by decide) (fun c_10 => ?_) (fun c_10 => ?_)
            ·
              refine lv_iconst (v := 0) hx hb dX2_readOne_108 (by decide) ?_
              exact hret 0 (rsS σ ((d.2.2 (nxR (σ 2) z x)).2)) _ _ _ _ _ hW rfl rfl (by rw [one_par0 (fun q => q.elim c_1 (fun w => Int32.not_le.mpr c_5 w.1)) hd c_6 (bI_0 c_10)]; exact ⟨(congrArg bI (bI_0 c_10)).symm, rfl⟩) dX2_readOne_109
            ·
              refine lv_aload_n hx hb dX2_readOne_95 rfl (lv_at hl 1 rfl) ?_
              refine lv_bipush (v := 41) hx hb dX2_readOne_96 (by decide) ?_
              refine gw_callVi (rm := (roomF 8)) (As := [.int 41]) (rest := []) F hl.1 hW (xs_hE hE hA hsz hW) XS_E (by omega) xe_3 rfl (rX2_readToken hz hz1 (Nat.le_refl 8) ((d.2.2 (nxR (σ 2) z x)).2) _ (hk3 _ (okR_nx (hok)))) pd_yX2_readToken ml_RX2_41 im_yX2_readToken se_yX2_readToken ini_RX2 cd_yX2_readToken ⟨rfl, rfl⟩ ⟨(show 8 + 1 ≤ Fr + 1 by have := hFr; omega), (show 8 + (2 + 11) + 24 * (8) ≤ 24 * (Fr + 1) by have := hFr; omega)⟩ rfl rfl (Nat.le_of_ble_eq_true rfl) ⟨Nat.zero_le _, Nat.zero_le _⟩ dX2_readOne_98 (fun r u H locs hp hW _ _ => ?_)
              obtain ⟨rfl, rfl⟩ := hp
              refine lv_as (z := bI (tokR (σ 2) z 41 ((d.2.2 (nxR (σ 2) z x)).2)).1) rfl ?_
              refine lv_if_eq (tgt := 108) hx hb dX2_readOne_101 (by decide) (fun c_11 => ?_) (fun c_11 => ?_)
              ·
                refine lv_iconst (v := 0) hx hb dX2_readOne_108 (by decide) ?_
                exact hret 0 (rsS σ ((tokR (σ 2) z 41 ((d.2.2 (nxR (σ 2) z x)).2)).2)) _ _ _ _ _ hW rfl rfl (by rw [one_par1 (fun q => q.elim c_1 (fun w => Int32.not_le.mpr c_5 w.1)) hd c_6 (bI_1 c_10)]; exact ⟨(congrArg bI (bI_0 c_11)).symm, rfl⟩) dX2_readOne_109
              ·
                refine lv_iconst (v := 1) hx hb dX2_readOne_104 (by decide) ?_
                refine lv_goto (tgt := 109) hx hb dX2_readOne_105 (by decide) ?_
                exact hret 1 (rsS σ ((tokR (σ 2) z 41 ((d.2.2 (nxR (σ 2) z x)).2)).2)) _ _ _ _ _ hW rfl rfl (by rw [one_par1 (fun q => q.elim c_1 (fun w => Int32.not_le.mpr c_5 w.1)) hd c_6 (bI_1 c_10)]; exact ⟨(congrArg bI (bI_1 c_11)).symm, rfl⟩) dX2_readOne_109
        ·
          have hlo : lo = none := hge (by have := mi_nlt (a := o) (b := 5) c_7 (by omega) (by decide); omega)
          refine lv_iconst (v := 0) hx hb dX2_readOne_70 (by decide) ?_
          exact hret 0 (rsS σ x) _ _ _ _ _ hW rfl rfl (by rw [hlo, one_none (fun q => q.elim c_1 (fun w => Int32.not_le.mpr c_5 w.1))]; exact ⟨rfl, rfl⟩) dX2_readOne_71
      ·
        refine lv_iload_n hx hb dX2_readOne_59 rfl (lv_at hl 0 rfl) ?_
        refine lv_bipush (v := 45) hx hb dX2_readOne_60 (by decide) ?_
        refine lv_icmp_ne (tgt := 70) hx hb dX2_readOne_62 (by decide) (fun c_12 => ?_) (fun c_12 => ?_)
        ·
          refine lv_iconst (v := 0) hx hb dX2_readOne_70 (by decide) ?_
          exact hret 0 (rsS σ x) _ _ _ _ _ hW rfl rfl (by rw [one_els (fun q => q.elim c_1 (fun w => Int32.not_le.mpr c_5 w.1)) c_6 c_12]; exact ⟨rfl, rfl⟩) dX2_readOne_71
        ·
          refine lv_iload_n hx hb dX2_readOne_65 rfl (lv_at hl 2 rfl) ?_
          refine lv_iconst (v := 5) hx hb dX2_readOne_66 (by decide) ?_
          refine lv_icmp_lt (tgt := 72) hx hb dX2_readOne_67 (by decide) (fun c_13 => ?_) (fun c_13 => ?_)
          ·
            have ho5 : o < 5 := mi_lt (a := o) (b := 5) c_13 (by omega) (by decide); obtain ⟨d, hd, hd1, hd2, hd3⟩ := hlt ho5; obtain ⟨hk1, hk2, hk3⟩ := hkl d hd
            refine lv_aload_n hx hb dX2_readOne_72 rfl (lv_at hl 1 rfl) ?_
            refine xr_D F hW 0 (by decide) rfl fl_RX2_9 dX2_readOne_73 ?_
            refine gw_callVv (rm := rm_yX5_next) (As := []) (rest := []) F hl.1 hW (xs_hE hE hA hsz hW) XS_E (by omega) xe_1 rfl (kX5_next (adK := adK) (adV := adV) (σ := rdS σ x.2.2.2.2) (z := z) (a := x.1) hz hz1 (hok).1) pd_yX5_next ml_RX2_48 im_yX5_next se_yX5_next ini_RX5 cd_yX5_next ⟨rfl, rfl⟩ ⟨(show 6 + 1 ≤ Fr + 1 by have := hFr; omega), (show 8 + (1 + 11) + 127 ≤ 24 * (Fr + 1) by have := hFr; omega)⟩ rfl rfl (Nat.le_of_ble_eq_true rfl) ⟨Nat.zero_le _, Nat.zero_le _⟩ dX2_readOne_76 (fun σ_14 H locs hp hW _ _ => ?_)
            subst hp
            have hW : XW D cs ad n ρ TT τ (rsS σ (nxR (σ 2) z x)) A s s.heap H locs := hW
            refine lv_iload_n hx hb dX2_readOne_79 rfl (lv_at hl 0 rfl) ?_
            refine lv_bipush (v := 40) hx hb dX2_readOne_80 (by decide) ?_
            refine lv_icmp_ne (tgt := 110) hx hb dX2_readOne_82 (by decide) (fun c_15 => ?_) (fun c_15 => ?_)
            ·
              refine lv_aload_n hx hb dX2_readOne_110 rfl (lv_at hl 1 rfl) ?_
              refine lv_iload_n hx hb dX2_readOne_111 rfl (lv_at hl 2 rfl) ?_
              refine lv_iconst (v := 1) hx hb dX2_readOne_112 (by decide) ?_
              refine lv_iadd hx hb dX2_readOne_113 ?_
              refine lv_as (z := nI (o + 1)) (nI_1 o) ?_
              refine gw_callVi (rm := (roomF G1)) (As := [.int (nI (o + 1))]) (rest := []) F hl.1 hW (xs_hE hE hA hsz hW) XS_E (by omega) xe_3 rfl (hd1 (nxR (σ 2) z x) _ (okR_nx (hok))) pd_yX2_readOne ml_RX2_67 im_yX2_readOne se_yX2_readOne ini_RX2 cd_yX2_readOne ⟨rfl, rfl⟩ ⟨(show G1 + 1 ≤ Fr + 1 by have := hG; omega), (show 8 + (4 + 11) + 24 * (G1) ≤ 24 * (Fr + 1) by have := hG; omega)⟩ rfl rfl (Nat.le_of_ble_eq_true rfl) ⟨Nat.zero_le _, Nat.zero_le _⟩ dX2_readOne_114 (fun r u H locs hp hW _ _ => ?_)
              obtain ⟨rfl, rfl⟩ := hp
              refine lv_as (z := bI (d.1 (nxR (σ 2) z x)).1) rfl ?_
              refine lv_istore_n (lv' := [(3, .int (bI (d.1 (nxR (σ 2) z x)).1)), (2, .int x.2.1), (0, .ref (ad 3)), (1, .int (nI o))]) hx hb dX2_readOne_117 rfl hl (by decide) rfl (fun ls hl => ?_)
              refine lv_aload_n hx hb dX2_readOne_118 rfl (lv_at hl 2 rfl) ?_
              refine lv_bipush (v := (-18)) hx hb dX2_readOne_119 (by decide) ?_
              refine gw_callVv (rm := rm_yX2_write) (As := [.int (-18)]) (rest := []) F hl.1 hW (fun _ _ hw => va_Nw.warmM hw hE.1) XE_E (by omega) xe_3 rfl (kX2_write (σ := rsS σ ((d.1 (nxR (σ 2) z x)).2)) (z0 := (-18))) pd_yX2_write ml_RX2_54 im_yX2_write se_yX2_write ini_RX2 cd_yX2_write ⟨rfl, rfl⟩ ⟨(show 0 + 1 ≤ Fr + 1 by have := hFr; omega), (show 8 + (2 + 11) + 0 ≤ 24 * (Fr + 1) by have := hFr; omega)⟩ rfl rfl (Nat.le_of_ble_eq_true rfl) ⟨Nat.zero_le _, Nat.zero_le _⟩ dX2_readOne_121 (fun σ_16 H locs hp hW _ _ => ?_)
              have hp : σ_16 = rsS σ (wrR (-18) ((d.1 (nxR (σ 2) z x)).2)) := hp.trans (wri_rs σ (hk1 _ (okR_nx (hok))) (-18))
              subst hp
              refine lv_iload_n hx hb dX2_readOne_124 rfl (lv_at hl 0 rfl) ?_
              exact hret (bI (d.1 (nxR (σ 2) z x)).1) (rsS σ (wrR (-18) ((d.1 (nxR (σ 2) z x)).2))) _ _ _ _ _ hW rfl (bI_n _) (by rw [one_min (fun q => q.elim c_1 (fun w => Int32.not_le.mpr c_5 w.1)) hd c_6 c_12]; exact ⟨rfl, rfl⟩) dX2_readOne_125
            ·
              exact absurd c_15 c_6
          ·
            have hlo : lo = none := hge (by have := mi_nlt (a := o) (b := 5) c_13 (by omega) (by decide); omega)
            refine lv_iconst (v := 0) hx hb dX2_readOne_70 (by decide) ?_
            exact hret 0 (rsS σ x) _ _ _ _ _ hW rfl rfl (by rw [hlo, one_none (fun q => q.elim c_1 (fun w => Int32.not_le.mpr c_5 w.1))]; exact ⟨rfl, rfl⟩) dX2_readOne_71
    ·
      refine lv_iload_n hx hb dX2_readOne_18 rfl (lv_at hl 0 rfl) ?_
      refine lv_bipush (v := (-6)) hx hb dX2_readOne_19 (by decide) ?_
      refine lv_icmp_lt (tgt := 53) hx hb dX2_readOne_21 (by decide) (fun c_17 => ?_) (fun c_17 => ?_)
      ·
        refine lv_iload_n hx hb dX2_readOne_53 rfl (lv_at hl 0 rfl) ?_
        refine lv_bipush (v := 40) hx hb dX2_readOne_54 (by decide) ?_
        refine lv_icmp_eq (tgt := 65) hx hb dX2_readOne_56 (by decide) (fun c_18 => ?_) (fun c_18 => ?_)
        ·
          refine lv_iload_n hx hb dX2_readOne_65 rfl (lv_at hl 2 rfl) ?_
          refine lv_iconst (v := 5) hx hb dX2_readOne_66 (by decide) ?_
          refine lv_icmp_lt (tgt := 72) hx hb dX2_readOne_67 (by decide) (fun c_19 => ?_) (fun c_19 => ?_)
          ·
            have ho5 : o < 5 := mi_lt (a := o) (b := 5) c_19 (by omega) (by decide); obtain ⟨d, hd, hd1, hd2, hd3⟩ := hlt ho5; obtain ⟨hk1, hk2, hk3⟩ := hkl d hd
            refine lv_aload_n hx hb dX2_readOne_72 rfl (lv_at hl 1 rfl) ?_
            refine xr_D F hW 0 (by decide) rfl fl_RX2_9 dX2_readOne_73 ?_
            refine gw_callVv (rm := rm_yX5_next) (As := []) (rest := []) F hl.1 hW (xs_hE hE hA hsz hW) XS_E (by omega) xe_1 rfl (kX5_next (adK := adK) (adV := adV) (σ := rdS σ x.2.2.2.2) (z := z) (a := x.1) hz hz1 (hok).1) pd_yX5_next ml_RX2_48 im_yX5_next se_yX5_next ini_RX5 cd_yX5_next ⟨rfl, rfl⟩ ⟨(show 6 + 1 ≤ Fr + 1 by have := hFr; omega), (show 8 + (1 + 11) + 127 ≤ 24 * (Fr + 1) by have := hFr; omega)⟩ rfl rfl (Nat.le_of_ble_eq_true rfl) ⟨Nat.zero_le _, Nat.zero_le _⟩ dX2_readOne_76 (fun σ_20 H locs hp hW _ _ => ?_)
            subst hp
            have hW : XW D cs ad n ρ TT τ (rsS σ (nxR (σ 2) z x)) A s s.heap H locs := hW
            refine lv_iload_n hx hb dX2_readOne_79 rfl (lv_at hl 0 rfl) ?_
            refine lv_bipush (v := 40) hx hb dX2_readOne_80 (by decide) ?_
            refine lv_icmp_ne (tgt := 110) hx hb dX2_readOne_82 (by decide) (fun c_21 => ?_) (fun c_21 => ?_)
            ·
              exact absurd c_18 c_21
            ·
              refine lv_aload_n hx hb dX2_readOne_85 rfl (lv_at hl 1 rfl) ?_
              refine lv_iload_n hx hb dX2_readOne_86 rfl (lv_at hl 2 rfl) ?_
              refine lv_iconst (v := 1) hx hb dX2_readOne_87 (by decide) ?_
              refine lv_iadd hx hb dX2_readOne_88 ?_
              refine lv_as (z := nI (o + 1)) (nI_1 o) ?_
              refine gw_callVi (rm := (roomF G3)) (As := [.int (nI (o + 1))]) (rest := []) F hl.1 hW (xs_hE hE hA hsz hW) XS_E (by omega) xe_3 rfl (hd3 (nxR (σ 2) z x) _ (okR_nx (hok))) pd_yX2_readOr ml_RX2_45 im_yX2_readOr se_yX2_readOr ini_RX2 cd_yX2_readOr ⟨rfl, rfl⟩ ⟨(show G3 + 1 ≤ Fr + 1 by have := hG; omega), (show 8 + (4 + 11) + 24 * (G3) ≤ 24 * (Fr + 1) by have := hG; omega)⟩ rfl rfl (Nat.le_of_ble_eq_true rfl) ⟨Nat.zero_le _, Nat.zero_le _⟩ dX2_readOne_89 (fun r u H locs hp hW _ _ => ?_)
              obtain ⟨rfl, rfl⟩ := hp
              refine lv_as (z := bI (d.2.2 (nxR (σ 2) z x)).1) rfl ?_
              refine lv_if_eq (tgt := 108) hx hb dX2_readOne_92 (by decide) (fun c_22 => ?_) (fun c_22 => ?_)
              ·
                refine lv_iconst (v := 0) hx hb dX2_readOne_108 (by decide) ?_
                exact hret 0 (rsS σ ((d.2.2 (nxR (σ 2) z x)).2)) _ _ _ _ _ hW rfl rfl (by rw [one_par0 (fun q => q.elim c_1 (fun w => Int32.not_le.mpr c_17 w.2)) hd c_18 (bI_0 c_22)]; exact ⟨(congrArg bI (bI_0 c_22)).symm, rfl⟩) dX2_readOne_109
              ·
                refine lv_aload_n hx hb dX2_readOne_95 rfl (lv_at hl 1 rfl) ?_
                refine lv_bipush (v := 41) hx hb dX2_readOne_96 (by decide) ?_
                refine gw_callVi (rm := (roomF 8)) (As := [.int 41]) (rest := []) F hl.1 hW (xs_hE hE hA hsz hW) XS_E (by omega) xe_3 rfl (rX2_readToken hz hz1 (Nat.le_refl 8) ((d.2.2 (nxR (σ 2) z x)).2) _ (hk3 _ (okR_nx (hok)))) pd_yX2_readToken ml_RX2_41 im_yX2_readToken se_yX2_readToken ini_RX2 cd_yX2_readToken ⟨rfl, rfl⟩ ⟨(show 8 + 1 ≤ Fr + 1 by have := hFr; omega), (show 8 + (2 + 11) + 24 * (8) ≤ 24 * (Fr + 1) by have := hFr; omega)⟩ rfl rfl (Nat.le_of_ble_eq_true rfl) ⟨Nat.zero_le _, Nat.zero_le _⟩ dX2_readOne_98 (fun r u H locs hp hW _ _ => ?_)
                obtain ⟨rfl, rfl⟩ := hp
                refine lv_as (z := bI (tokR (σ 2) z 41 ((d.2.2 (nxR (σ 2) z x)).2)).1) rfl ?_
                refine lv_if_eq (tgt := 108) hx hb dX2_readOne_101 (by decide) (fun c_23 => ?_) (fun c_23 => ?_)
                ·
                  refine lv_iconst (v := 0) hx hb dX2_readOne_108 (by decide) ?_
                  exact hret 0 (rsS σ ((tokR (σ 2) z 41 ((d.2.2 (nxR (σ 2) z x)).2)).2)) _ _ _ _ _ hW rfl rfl (by rw [one_par1 (fun q => q.elim c_1 (fun w => Int32.not_le.mpr c_17 w.2)) hd c_18 (bI_1 c_22)]; exact ⟨(congrArg bI (bI_0 c_23)).symm, rfl⟩) dX2_readOne_109
                ·
                  refine lv_iconst (v := 1) hx hb dX2_readOne_104 (by decide) ?_
                  refine lv_goto (tgt := 109) hx hb dX2_readOne_105 (by decide) ?_
                  exact hret 1 (rsS σ ((tokR (σ 2) z 41 ((d.2.2 (nxR (σ 2) z x)).2)).2)) _ _ _ _ _ hW rfl rfl (by rw [one_par1 (fun q => q.elim c_1 (fun w => Int32.not_le.mpr c_17 w.2)) hd c_18 (bI_1 c_22)]; exact ⟨(congrArg bI (bI_1 c_23)).symm, rfl⟩) dX2_readOne_109
          ·
            have hlo : lo = none := hge (by have := mi_nlt (a := o) (b := 5) c_19 (by omega) (by decide); omega)
            refine lv_iconst (v := 0) hx hb dX2_readOne_70 (by decide) ?_
            exact hret 0 (rsS σ x) _ _ _ _ _ hW rfl rfl (by rw [hlo, one_none (fun q => q.elim c_1 (fun w => Int32.not_le.mpr c_17 w.2))]; exact ⟨rfl, rfl⟩) dX2_readOne_71
        ·
          refine lv_iload_n hx hb dX2_readOne_59 rfl (lv_at hl 0 rfl) ?_
          refine lv_bipush (v := 45) hx hb dX2_readOne_60 (by decide) ?_
          refine lv_icmp_ne (tgt := 70) hx hb dX2_readOne_62 (by decide) (fun c_24 => ?_) (fun c_24 => ?_)
          ·
            refine lv_iconst (v := 0) hx hb dX2_readOne_70 (by decide) ?_
            exact hret 0 (rsS σ x) _ _ _ _ _ hW rfl rfl (by rw [one_els (fun q => q.elim c_1 (fun w => Int32.not_le.mpr c_17 w.2)) c_18 c_24]; exact ⟨rfl, rfl⟩) dX2_readOne_71
          ·
            refine lv_iload_n hx hb dX2_readOne_65 rfl (lv_at hl 2 rfl) ?_
            refine lv_iconst (v := 5) hx hb dX2_readOne_66 (by decide) ?_
            refine lv_icmp_lt (tgt := 72) hx hb dX2_readOne_67 (by decide) (fun c_25 => ?_) (fun c_25 => ?_)
            ·
              have ho5 : o < 5 := mi_lt (a := o) (b := 5) c_25 (by omega) (by decide); obtain ⟨d, hd, hd1, hd2, hd3⟩ := hlt ho5; obtain ⟨hk1, hk2, hk3⟩ := hkl d hd
              refine lv_aload_n hx hb dX2_readOne_72 rfl (lv_at hl 1 rfl) ?_
              refine xr_D F hW 0 (by decide) rfl fl_RX2_9 dX2_readOne_73 ?_
              refine gw_callVv (rm := rm_yX5_next) (As := []) (rest := []) F hl.1 hW (xs_hE hE hA hsz hW) XS_E (by omega) xe_1 rfl (kX5_next (adK := adK) (adV := adV) (σ := rdS σ x.2.2.2.2) (z := z) (a := x.1) hz hz1 (hok).1) pd_yX5_next ml_RX2_48 im_yX5_next se_yX5_next ini_RX5 cd_yX5_next ⟨rfl, rfl⟩ ⟨(show 6 + 1 ≤ Fr + 1 by have := hFr; omega), (show 8 + (1 + 11) + 127 ≤ 24 * (Fr + 1) by have := hFr; omega)⟩ rfl rfl (Nat.le_of_ble_eq_true rfl) ⟨Nat.zero_le _, Nat.zero_le _⟩ dX2_readOne_76 (fun σ_26 H locs hp hW _ _ => ?_)
              subst hp
              have hW : XW D cs ad n ρ TT τ (rsS σ (nxR (σ 2) z x)) A s s.heap H locs := hW
              refine lv_iload_n hx hb dX2_readOne_79 rfl (lv_at hl 0 rfl) ?_
              refine lv_bipush (v := 40) hx hb dX2_readOne_80 (by decide) ?_
              refine lv_icmp_ne (tgt := 110) hx hb dX2_readOne_82 (by decide) (fun c_27 => ?_) (fun c_27 => ?_)
              ·
                refine lv_aload_n hx hb dX2_readOne_110 rfl (lv_at hl 1 rfl) ?_
                refine lv_iload_n hx hb dX2_readOne_111 rfl (lv_at hl 2 rfl) ?_
                refine lv_iconst (v := 1) hx hb dX2_readOne_112 (by decide) ?_
                refine lv_iadd hx hb dX2_readOne_113 ?_
                refine lv_as (z := nI (o + 1)) (nI_1 o) ?_
                refine gw_callVi (rm := (roomF G1)) (As := [.int (nI (o + 1))]) (rest := []) F hl.1 hW (xs_hE hE hA hsz hW) XS_E (by omega) xe_3 rfl (hd1 (nxR (σ 2) z x) _ (okR_nx (hok))) pd_yX2_readOne ml_RX2_67 im_yX2_readOne se_yX2_readOne ini_RX2 cd_yX2_readOne ⟨rfl, rfl⟩ ⟨(show G1 + 1 ≤ Fr + 1 by have := hG; omega), (show 8 + (4 + 11) + 24 * (G1) ≤ 24 * (Fr + 1) by have := hG; omega)⟩ rfl rfl (Nat.le_of_ble_eq_true rfl) ⟨Nat.zero_le _, Nat.zero_le _⟩ dX2_readOne_114 (fun r u H locs hp hW _ _ => ?_)
                obtain ⟨rfl, rfl⟩ := hp
                refine lv_as (z := bI (d.1 (nxR (σ 2) z x)).1) rfl ?_
                refine lv_istore_n (lv' := [(3, .int (bI (d.1 (nxR (σ 2) z x)).1)), (2, .int x.2.1), (0, .ref (ad 3)), (1, .int (nI o))]) hx hb dX2_readOne_117 rfl hl (by decide) rfl (fun ls hl => ?_)
                refine lv_aload_n hx hb dX2_readOne_118 rfl (lv_at hl 2 rfl) ?_
                refine lv_bipush (v := (-18)) hx hb dX2_readOne_119 (by decide) ?_
                refine gw_callVv (rm := rm_yX2_write) (As := [.int (-18)]) (rest := []) F hl.1 hW (fun _ _ hw => va_Nw.warmM hw hE.1) XE_E (by omega) xe_3 rfl (kX2_write (σ := rsS σ ((d.1 (nxR (σ 2) z x)).2)) (z0 := (-18))) pd_yX2_write ml_RX2_54 im_yX2_write se_yX2_write ini_RX2 cd_yX2_write ⟨rfl, rfl⟩ ⟨(show 0 + 1 ≤ Fr + 1 by have := hFr; omega), (show 8 + (2 + 11) + 0 ≤ 24 * (Fr + 1) by have := hFr; omega)⟩ rfl rfl (Nat.le_of_ble_eq_true rfl) ⟨Nat.zero_le _, Nat.zero_le _⟩ dX2_readOne_121 (fun σ_28 H locs hp hW _ _ => ?_)
                have hp : σ_28 = rsS σ (wrR (-18) ((d.1 (nxR (σ 2) z x)).2)) := hp.trans (wri_rs σ (hk1 _ (okR_nx (hok))) (-18))
                subst hp
                refine lv_iload_n hx hb dX2_readOne_124 rfl (lv_at hl 0 rfl) ?_
                exact hret (bI (d.1 (nxR (σ 2) z x)).1) (rsS σ (wrR (-18) ((d.1 (nxR (σ 2) z x)).2))) _ _ _ _ _ hW rfl (bI_n _) (by rw [one_min (fun q => q.elim c_1 (fun w => Int32.not_le.mpr c_17 w.2)) hd c_18 c_24]; exact ⟨rfl, rfl⟩) dX2_readOne_125
              ·
                exact absurd c_27 c_18
            ·
              have hlo : lo = none := hge (by have := mi_nlt (a := o) (b := 5) c_25 (by omega) (by decide); omega)
              refine lv_iconst (v := 0) hx hb dX2_readOne_70 (by decide) ?_
              exact hret 0 (rsS σ x) _ _ _ _ _ hW rfl rfl (by rw [hlo, one_none (fun q => q.elim c_1 (fun w => Int32.not_le.mpr c_17 w.2))]; exact ⟨rfl, rfl⟩) dX2_readOne_71
      ·
        refine lv_aload_n hx hb dX2_readOne_24 rfl (lv_at hl 1 rfl) ?_
        refine lv_iload_n hx hb dX2_readOne_25 rfl (lv_at hl 0 rfl) ?_
        refine lv_iconst (v := 2) hx hb dX2_readOne_26 (by decide) ?_
        refine lv_icmp_ne (tgt := 40) hx hb dX2_readOne_27 (by decide) (fun c_29 => ?_) (fun c_29 => ?_)
        ·
          refine lv_iload_n hx hb dX2_readOne_40 rfl (lv_at hl 0 rfl) ?_
          refine gw_callVv (rm := rm_yX2_write) (As := [.int x.2.1]) (rest := []) F hl.1 hW (fun _ _ hw => va_Nw.warmM hw hE.1) XE_E (by omega) xe_3 rfl (kX2_write (σ := rsS σ x) (z0 := x.2.1)) pd_yX2_write ml_RX2_54 im_yX2_write se_yX2_write ini_RX2 cd_yX2_write ⟨rfl, rfl⟩ ⟨(show 0 + 1 ≤ Fr + 1 by have := hFr; omega), (show 8 + (2 + 11) + 0 ≤ 24 * (Fr + 1) by have := hFr; omega)⟩ rfl rfl (Nat.le_of_ble_eq_true rfl) ⟨Nat.zero_le _, Nat.zero_le _⟩ dX2_readOne_41 (fun σ_30 H locs hp hW _ _ => ?_)
          have hp : σ_30 = rsS σ (wrR x.2.1 x) := hp.trans (wri_rs σ (hok) x.2.1)
          subst hp
          refine lv_aload_n hx hb dX2_readOne_44 rfl (lv_at hl 1 rfl) ?_
          refine xr_D F hW 0 (by decide) rfl fl_RX2_9 dX2_readOne_45 ?_
          refine gw_callVv (rm := rm_yX5_next) (As := []) (rest := []) F hl.1 hW (xs_hE hE hA hsz hW) XS_E (by omega) xe_1 rfl (kX5_next (adK := adK) (adV := adV) (σ := rdS σ (wrR x.2.1 x).2.2.2.2) (z := z) (a := (wrR x.2.1 x).1) hz hz1 (okR_wr (hok) x.2.1).1) pd_yX5_next ml_RX2_48 im_yX5_next se_yX5_next ini_RX5 cd_yX5_next ⟨rfl, rfl⟩ ⟨(show 6 + 1 ≤ Fr + 1 by have := hFr; omega), (show 8 + (1 + 11) + 127 ≤ 24 * (Fr + 1) by have := hFr; omega)⟩ rfl rfl (Nat.le_of_ble_eq_true rfl) ⟨Nat.zero_le _, Nat.zero_le _⟩ dX2_readOne_48 (fun σ_31 H locs hp hW _ _ => ?_)
          subst hp
          have hW : XW D cs ad n ρ TT τ (rsS σ (nxR (σ 2) z (wrR x.2.1 x))) A s s.heap H locs := hW
          refine lv_iconst (v := 1) hx hb dX2_readOne_51 (by decide) ?_
          exact hret 1 (rsS σ (nxR (σ 2) z (wrR x.2.1 x))) _ _ _ _ _ hW rfl rfl (by unfold oneR; rw [if_pos (Or.inr ⟨by rw [i32_le]; exact (fun q => c_5 q), by rw [i32_le]; exact (fun q => c_17 q)⟩), if_neg c_1]; exact ⟨rfl, rfl⟩) dX2_readOne_52
        ·
          exact absurd c_29 c_1
/-- the whole recursion: d = 5 - o opens are left -/
theorem rd_all {l : Launch} {D : va_G} {cs : Nat → ClassId} {ad : Nat → Nat} {n : Nat} {ρ σ : Nat → Nat → Int32} {TT τ : Nat → Nat → Nat → Int32} {adK adV : Nat → Nat} {z : Nat} (hz : σ 1 1 = nI z) (hz1 : z ≤ 160) : ∀ (d o : Nat), o + d = 5 → RdC l D cs ad n ρ TT τ σ z adK adV (oneR (σ 2) z (loR (σ 2) z d)) yX2_readOne cX2_readOne 4 (9 + 6 * d) [.int (nI o)] ∧ RdC l D cs ad n ρ TT τ σ z adK adV (notR (σ 2) z (loR (σ 2) z d)) yX2_readNot cX2_readNot 4 (12 + 6 * d) [.int (nI o)] ∧ RdC l D cs ad n ρ TT τ σ z adK adV (orR (σ 2) z (loR (σ 2) z d)) yX2_readOr cX2_readOr 4 (14 + 6 * d) [.int (nI o)] := by
  intro d
  induction d with
  | zero =>
    intro o ho
    have hk := kp_lo (σ 2) z 0
    have h1 := rX2_readOne (l := l) (D := D) (cs := cs) (ad := ad) (n := n) (ρ := ρ) (TT := TT) (τ := τ) (adK := adK) (adV := adV) (lo := loR (σ 2) z 0) (o := o) (Fr := 8) (G1 := 0) (G2 := 0) (G3 := 0) hz hz1 (Nat.le_refl 8) (fun h => absurd h (by omega)) (fun _ => rfl) (by omega) hk (by omega)
    have h2 := rX2_readTerm (Fr := 9) hz hz1 (by omega) h1 (kp_one hk)
    have h3 := rX2_readSum (Fr := 10) hz hz1 (by omega) h2 (kp_term hk)
    have h4 := rX2_readNot (lo := loR (σ 2) z 0) (Fr := 11) (G1 := 0) (G2 := 0) (G3 := 0) hz hz1 (by omega) h3 (fun h => absurd h (by omega)) (fun _ => rfl) (by omega) hk (by omega)
    have h5 := rX2_readAnd (Fr := 12) hz hz1 (by omega) h4 (kp_not hk)
    have h6 := rX2_readOr (Fr := 13) hz hz1 (by omega) h5 (kp_and hk)
    exact ⟨h1, h4, h6⟩
  | succ d ih =>
    intro o ho
    obtain ⟨i1, i4, i6⟩ := ih (o + 1) (by omega)
    have hk := kp_lo (σ 2) z (d + 1)
    have hlt : o < 5 → ∃ e : Rf × Rf × Rf, loR (σ 2) z (d + 1) = some e ∧ RdC l D cs ad n ρ TT τ σ z adK adV e.1 yX2_readOne cX2_readOne 4 (9 + 6 * d) [.int (nI (o + 1))] ∧ RdC l D cs ad n ρ TT τ σ z adK adV e.2.1 yX2_readNot cX2_readNot 4 (12 + 6 * d) [.int (nI (o + 1))] ∧ RdC l D cs ad n ρ TT τ σ z adK adV e.2.2 yX2_readOr cX2_readOr 4 (14 + 6 * d) [.int (nI (o + 1))] := fun _ => ⟨_, rfl, i1, i4, i6⟩
    have h1 := rX2_readOne (lo := loR (σ 2) z (d + 1)) (o := o) (Fr := 8 + 6 * (d + 1)) hz hz1 (by omega) hlt (fun h => absurd h (by omega)) (by omega) hk (by omega)
    have h2 := rX2_readTerm (Fr := 9 + 6 * (d + 1)) hz hz1 (by omega) (by rw [show 9 + 6 * (d + 1) = 8 + 6 * (d + 1) + 1 by omega]; exact h1) (kp_one hk)
    have h3 := rX2_readSum (Fr := 10 + 6 * (d + 1)) hz hz1 (by omega) (by rw [show 10 + 6 * (d + 1) = 9 + 6 * (d + 1) + 1 by omega]; exact h2) (kp_term hk)
    have h4 := rX2_readNot (lo := loR (σ 2) z (d + 1)) (Fr := 11 + 6 * (d + 1)) hz hz1 (by omega) (by rw [show 11 + 6 * (d + 1) = 10 + 6 * (d + 1) + 1 by omega]; exact h3) hlt (fun h => absurd h (by omega)) (by omega) hk (by omega)
    have h5 := rX2_readAnd (Fr := 12 + 6 * (d + 1)) hz hz1 (by omega) (by rw [show 12 + 6 * (d + 1) = 11 + 6 * (d + 1) + 1 by omega]; exact h4) (kp_not hk)
    have h6 := rX2_readOr (Fr := 13 + 6 * (d + 1)) hz hz1 (by omega) (by rw [show 13 + 6 * (d + 1) = 12 + 6 * (d + 1) + 1 by omega]; exact h5) (kp_and hk)
    exact ⟨by rw [show 9 + 6 * (d + 1) = 8 + 6 * (d + 1) + 1 by omega]; exact h1, by rw [show 12 + 6 * (d + 1) = 11 + 6 * (d + 1) + 1 by omega]; exact h4, by rw [show 14 + 6 * (d + 1) = 13 + 6 * (d + 1) + 1 by omega]; exact h6⟩
