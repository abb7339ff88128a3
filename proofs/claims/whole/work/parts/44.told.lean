/-! ===== told minutes: a sheet's sort, size, numbers ===== -/
def soX (σ : Nat → Nat → Int32) (j : Nat) : Int32 := σ (34 + j) 1
def siX (σ : Nat → Nat → Int32) (j : Nat) : Int32 := σ (34 + j) 2
def nuX (σ : Nat → Nat → Int32) (j : Nat) : Nat → Int32 := σ (34 + j + 4)
def okS (σ : Nat → Nat → Int32) : Prop := ∀ j, j < 4 → ∃ k, k ≤ 40 ∧ σ (34 + j) 2 = nI k
def foF (Lx : Lw) (ν : Nat → Int32) : Nat → Nat → Tb → Int32
  | 0, _, _ => -1
  | f + 1, i, T => if (passS Lx T).2 = ν i then foF Lx ν f (i + 1) (passS Lx T).1 else nI i
def foS (Lx : Lw) (ν : Nat → Int32) (k : Nat) (T : Tb) : Int32 := foF Lx ν k 0 T
def talP (so si : Nat → Int32) (z : Int32) : Int32 := if shP z = 0 then -2 else if so (iN z) = -1 then -11 else if 20 < si (iN z) then -2 else 0
def fitK (f : Nat → Int32) : Nat → Int32
  | 0 => 0
  | v + 1 => if f v = -1 then fitK f v ||| oneS (nI v) else fitK f v
def stK (f : Nat → Int32) : Nat → Int32 × Int32
  | 0 => (0, -1)
  | v + 1 => if f v = -1 then ((stK f v).1 + 1, if (stK f v).2 = -1 then nI v else (stK f v).2) else stK f v
abbrev Sf : Type := Nat → Int32
def judgeP (Lx : Lw) (T : Tb) (so si : Sf) (nu : Nat → Sf) (z : Int32) : Int32 := if talP so si z = 0 then foS Lx (nu (iN z)) (iN (si (iN z))) T else talP so si z
def kindsP (Lx : Lw) (T : Tb) (so si : Sf) (nu : Nat → Sf) (z pp w : Int32) : Int32 := if talP so si z = 0 then (if oneP T pp = 0 then -5 else if choP w = 0 then -7 else if w = 0 then fitK (fun v => foS Lx (nu (iN z)) (iN (si (iN z))) (upT T (iN pp) 0 (nI v))) 6 else fitK (fun v => foS Lx (nu (iN z)) (iN (si (iN z))) (upT T (iN pp) 1 (nI v))) 10) else talP so si z
def turnedP (Lx : Lw) (T : Tb) (so si : Sf) (nu : Nat → Sf) (z pp : Int32) : Int32 := if talP so si z = 0 then (if oneP T pp = 0 then -5 else fitK (fun v => foS Lx (nu (iN z)) (iN (si (iN z))) (upT T (iN pp) 2 (T (iN pp) 2 ^^^ oneS (nI v)))) 10) else talP so si z
def statesP (Lx : Lw) (T : Tb) (so si : Sf) (nu : Nat → Sf) (z pp w w0 : Int32) : Int32 := if talP so si z = 0 then (if oneP T pp = 0 then -5 else if w = 1 ∨ w = 2 then (if choP w0 = 0 then -7 else pickS w0 (stK (fun v => foS Lx (nu (iN z)) (iN (si (iN z))) (upT T (iN pp) (if w = 1 then 3 else 4) (nI v))) 100).1 (stK (fun v => foS Lx (nu (iN z)) (iN (si (iN z))) (upT T (iN pp) (if w = 1 then 3 else 4) (nI v))) 100).2) else -7) else talP so si z
def fearedP (Lx : Lw) (T : Tb) (so si : Sf) (nu : Nat → Sf) (z : Int32) : Int32 := if talP so si z = 0 then fitK (fun v => foS Lx (nu (iN z)) (iN (si (iN z))) (upT T v 6 (if T v 6 = 0 then 1 else 0))) (seatsN T) else talP so si z
def lawsP (Lx : Lw) (T : Tb) (n : Nat) (so si : Sf) (nu : Nat → Sf) (z : Int32) : Int32 := if talP so si z = 0 then fitK (fun v => foS Lx (nu (iN z)) (iN (si (iN z))) (upT T 6 3 (nI v))) n else talP so si z
theorem EqT.ffo {n : Nat} (Lx : Lw) (ν : Nat → Int32) : ∀ (f i : Nat) {T U : Tb}, EqT T U → okT n T → foF Lx ν f i T = foF Lx ν f i U
  | 0, _, _, _, _, _ => rfl
  | f + 1, i, T, U, h, hT => by
    have e1 := h.pass hT Lx
    have e2 := EqT.ffo Lx ν f (i + 1) e1.1 (ok_pass (Lx := Lx) hT).1
    show (if (passS Lx T).2 = ν i then foF Lx ν f (i + 1) (passS Lx T).1 else nI i) = (if (passS Lx U).2 = ν i then foF Lx ν f (i + 1) (passS Lx U).1 else nI i)
    rw [e1.2, e2]
theorem EqT.sfo {n : Nat} {T U : Tb} (h : EqT T U) (hT : okT n T) (Lx : Lw) (ν : Nat → Int32) (k : Nat) : foS Lx ν k T = foS Lx ν k U := EqT.ffo Lx ν k 0 h hT
theorem EqT.law {T U : Tb} (h : EqT T U) (v : Int32) : EqT (upT T 6 3 v) (upT U 6 3 v) := by
  have r : ∀ (Z : Tb) (q : Nat), q ≠ 6 → upT Z 6 3 v q = Z q := fun Z q hq => va_up_ne _ _ hq
  have s6 : ∀ Z : Tb, upT Z 6 3 v 6 = upd (Z 6) 3 v := fun Z => va_up_self _ _ _
  have hs : seatsN (upT T 6 3 v) = seatsN T := by unfold seatsN; rw [s6]; rfl
  refine ⟨by rw [s6, s6]; exact h.1, by rw [s6, s6]; exact h.2.1, by rw [s6, s6]; rfl, fun q hq k hk => ?_⟩
  rw [hs] at hq
  by_cases h6 : q = 6
  · subst h6; rw [s6, s6]
    by_cases h3 : k = 3
    · subst h3; rfl
    · rw [pk_un h3, pk_un h3]; exact h.2.2.2 6 hq k hk
  · rw [r _ _ h6, r _ _ h6]; exact h.2.2.2 q hq k hk
theorem ok_law {n : Nat} {T : Tb} {t : Nat} (hT : okT n T) (ht : t < n) (hn : n ≤ 6) : okT n (upT T 6 3 (nI t)) := by
  have s6 : upT T 6 3 (nI t) 6 = upd (T 6) 3 (nI t) := va_up_self _ _ _
  have hs : seatsN (upT T 6 3 (nI t)) = seatsN T := by unfold seatsN; rw [s6]; rfl
  have hl : lawN (upT T 6 3 (nI t)) = t := by unfold lawN; rw [s6]; exact nI_clamp (by omega)
  refine ⟨by rw [hs]; exact hT.1, by rw [hs, s6]; exact hT.2.1, by rw [hl]; exact ht, by rw [hl, s6]; rfl, fun q hq => ?_⟩
  rw [hs] at hq
  have h6 := hT.1
  rw [show upT T 6 3 (nI t) q = T q from va_up_ne _ _ (by omega)]
  exact hT.2.2.2.2 q hq
theorem tal_ok {σ : Nat → Nat → Int32} {z : Int32} (hS : okS σ) (h : talP (soX σ) (siX σ) z = 0) : ∃ q k, q < 4 ∧ k ≤ 40 ∧ z = nI q ∧ σ (34 + q) 2 = nI k := by
  unfold talP at h
  by_cases h0 : shP z = 0
  · rw [if_pos h0] at h; exact absurd h (by decide)
  · obtain ⟨q, hq, e⟩ := sh_nat h0
    obtain ⟨k, hk, e2⟩ := hS q hq
    exact ⟨q, k, hq, hk, e, e2⟩
abbrev rm_yX7_refusalOfTale : Room := { frames := 1, cells := 0, slots := 0, locals := 20 }
set_option maxHeartbeats 800000 in
set_option maxRecDepth 100000 in
theorem kX7_refusalOfTale {l : Launch} {D : va_G} {cs : Nat → ClassId} {ad : Nat → Nat} {n : Nat} {ρ σ : Nat → Nat → Int32} {TT τ : Nat → Nat → Nat → Int32} {sz : Nat} {z : Int32}  : XMi l yX7_refusalOfTale cX7_refusalOfTale 2 FieldType.int rm_yX7_refusalOfTale [.ref (ad 0), .int z] D cs ad n ρ TT τ σ sz (fun (r : Int32) (u : Unit) => r = talP (soX σ) (siX σ) z) (fun u : Unit => xent ad cs n ρ TT τ σ) := by
  refine gw_stI (Ff := fun u : Unit => xent ad cs n ρ TT τ σ) (own := RX7) (by decide +kernel) rfl (Nat.le_of_ble_eq_true rfl) ?_
  intro p e s m ar below meth c A Q F hE hsz hW hret ls hl
  obtain ⟨hx, hb, hml, hown, hts⟩ := id F
  have hl : lv_has ls 2 [(0, .ref (ad 0)), (1, .int z)] := hl
  refine lv_iload_n hx hb dX7_refusalOfTale_0 rfl (lv_at hl 1 rfl) ?_
  refine gw_callP (As := [.int z]) (rest := []) F hl.1 (kX7_isSheet) pd_yX7_isSheet ml_RX7_251 st_yX7_isSheet ini_RX7 cd_yX7_isSheet ⟨rfl, rfl⟩ ⟨Nat.le_of_ble_eq_true rfl, Nat.le_of_ble_eq_true rfl⟩ rfl rfl (Nat.le_of_ble_eq_true rfl) ⟨Nat.zero_le _, Nat.zero_le _⟩ dX7_refusalOfTale_1 ?_
  refine lv_as (z := shP z) rfl ?_
  refine lv_if_ne (tgt := 10) hx hb dX7_refusalOfTale_4 (by decide) (fun c_1 => ?_) (fun c_1 => ?_)
  ·
    obtain ⟨q, hq, rfl⟩ := sh_nat c_1; have hiq : iN (nI q) = q := iN_nI (by omega)
    refine lv_aload_n hx hb dX7_refusalOfTale_10 rfl (lv_at hl 0 rfl) ?_
    refine xr_O F hW 9 (by decide) rfl fl_RX7_62 dX7_refusalOfTale_11 ?_
    refine lv_iload_n hx hb dX7_refusalOfTale_14 rfl (lv_at hl 1 rfl) ?_
    refine xr_San (q := q) rfl (by omega) F hW dX7_refusalOfTale_15 ?_
    refine xr_S (j := q) (by omega) F hW 1 (by decide) rfl fl_RX7_272 dX7_refusalOfTale_16 ?_
    refine lv_iconst (v := (-1)) hx hb dX7_refusalOfTale_19 (by decide) ?_
    refine lv_icmp_ne (tgt := 26) hx hb dX7_refusalOfTale_20 (by decide) (fun c_2 => ?_) (fun c_2 => ?_)
    ·
      refine lv_aload_n hx hb dX7_refusalOfTale_26 rfl (lv_at hl 0 rfl) ?_
      refine xr_O F hW 9 (by decide) rfl fl_RX7_62 dX7_refusalOfTale_27 ?_
      refine lv_iload_n hx hb dX7_refusalOfTale_30 rfl (lv_at hl 1 rfl) ?_
      refine xr_San (q := q) rfl (by omega) F hW dX7_refusalOfTale_31 ?_
      refine xr_S (j := q) (by omega) F hW 2 (by decide) rfl fl_RX7_275 dX7_refusalOfTale_32 ?_
      refine lv_bipush (v := 20) hx hb dX7_refusalOfTale_35 (by decide) ?_
      refine lv_icmp_le (tgt := 45) hx hb dX7_refusalOfTale_37 (by decide) (fun c_3 => ?_) (fun c_3 => ?_)
      ·
        refine lv_iconst (v := 0) hx hb dX7_refusalOfTale_45 (by decide) ?_
        exact hret 0 () _ _ _ _ _ hW rfl rfl (by (try simp only [i32_le, Decidable.not_not] at c_1); (try simp only [i32_le, Decidable.not_not] at c_2); (try simp only [i32_le, Decidable.not_not] at c_3); first | (simp only [talP, soX, siX, hiq, i32_le, c_1, c_2, c_3, if_true, if_false, not_false_eq_true, not_true_eq_false]; done) | simp [talP, soX, siX, hiq, c_1, c_2, c_3, i32_le]) dX7_refusalOfTale_46
      ·
        refine lv_bipush (v := (-2)) hx hb dX7_refusalOfTale_40 (by decide) ?_
        refine lv_goto (tgt := 46) hx hb dX7_refusalOfTale_42 (by decide) ?_
        exact hret (-2) () _ _ _ _ _ hW rfl rfl (by (try simp only [i32_le, Decidable.not_not] at c_1); (try simp only [i32_le, Decidable.not_not] at c_2); (try simp only [i32_le, Decidable.not_not] at c_3); first | (simp only [talP, soX, siX, hiq, i32_le, c_1, c_2, c_3, if_true, if_false, not_false_eq_true, not_true_eq_false]; done) | simp [talP, soX, siX, hiq, c_1, c_2, c_3, i32_le]) dX7_refusalOfTale_46
    ·
      refine lv_bipush (v := (-11)) hx hb dX7_refusalOfTale_23 (by decide) ?_
      exact hret (-11) () _ _ _ _ _ hW rfl rfl (by (try simp only [i32_le, Decidable.not_not] at c_1); (try simp only [i32_le, Decidable.not_not] at c_2); first | (simp only [talP, soX, siX, hiq, i32_le, c_1, c_2, if_true, if_false, not_false_eq_true, not_true_eq_false]; done) | simp [talP, soX, siX, hiq, c_1, c_2, i32_le]) dX7_refusalOfTale_25
  ·
    refine lv_bipush (v := (-2)) hx hb dX7_refusalOfTale_7 (by decide) ?_
    exact hret (-2) () _ _ _ _ _ hW rfl rfl (by (try simp only [i32_le, Decidable.not_not] at c_1); first | (simp only [talP, soX, siX, i32_le, c_1, if_true, if_false, not_false_eq_true, not_true_eq_false]; done) | simp [talP, soX, siX, c_1, i32_le]) dX7_refusalOfTale_9
abbrev rm_yX7_firstOther : Room := { frames := 6, cells := 0, slots := 0, locals := 139 }
set_option maxHeartbeats 800000 in
set_option maxRecDepth 100000 in
theorem kX7_firstOther {l : Launch} {D : va_G} {cs : Nat → ClassId} {ad : Nat → Nat} {n : Nat} {ρ σ : Nat → Nat → Int32} {TT τ : Nat → Nat → Nat → Int32} {sz : Nat} {X : Tb} {j kt : Nat} (hn6 : n ≤ 6) (hTX : okT n X) (hX : okX n τ) (hj : j < 4) (hkt : kt ≤ 40) (hkz : σ (34 + j) 2 = nI kt) : XMi l yX7_firstOther cX7_firstOther 3 FieldType.int rm_yX7_firstOther [.ref (ad 0), .ref (ad (34 + j))] D cs ad n ρ (va_up TT 1 X) τ σ sz (fun (r : Int32) (u : (Nat → Nat → Int32) × Tb) => r = foS (xLx n τ) (σ (34 + j + 4)) kt X) (fun u : (Nat → Nat → Int32) × Tb => xent ad cs n u.1 (va_up TT 1 u.2) τ σ) := by
  refine gw_stI (Ff := fun u : (Nat → Nat → Int32) × Tb => xent ad cs n u.1 (va_up TT 1 u.2) τ σ) (own := RX7) (by decide +kernel) rfl (Nat.le_of_ble_eq_true rfl) ?_
  intro p e s m ar below meth c A Q F hE hsz hW hret ls hl
  obtain ⟨hx, hb, hml, hown, hts⟩ := id F
  have hl : lv_has ls 3 [(0, .ref (ad 0)), (1, .ref (ad (34 + j)))] := hl
  refine lv_iconst (v := 0) hx hb dX7_firstOther_0 (by decide) ?_
  refine lv_istore_n (lv' := [(2, .int 0), (0, .ref (ad 0)), (1, .ref (ad (34 + j)))]) hx hb dX7_firstOther_1 rfl hl (by decide) rfl (fun ls hl => ?_)
  generalize hR0 : foS (xLx n τ) (σ (34 + j + 4)) kt X = RES
  have L2 : ∀ (k : Nat) (i f : Nat) (ρ' : Nat → Nat → Int32) (X' : Tb), (i + f = kt) → (kt + 1 ≤ i + k) → (okT n X') → (foF (xLx n τ) (σ (34 + j + 4)) f i X' = RES) → ∀ (H : Heap) (locs : List Loc) (ls : Array Slot), XW D cs ad n ρ' (va_up TT 1 X') τ σ A s s.heap H locs → lv_has ls 3 [(2, .int (nI i)), (0, .ref (ad 0)), (1, .ref (ad (34 + j)))] → W p l e rm_yX7_firstOther s m ar below meth c H locs 0 0 Q (F0 m 2 ls []) := by
    intro k
    induction k with
    | zero => intro i f ρ' X' h1 h2 hX1 hRR; exact absurd h2 (by omega)
    | succ k ih2 =>
      intro i f ρ' X' h1 h2 hX1 hRR H locs ls hW hl
      refine lv_iload_n hx hb dX7_firstOther_2 rfl (lv_at hl 0 rfl) ?_
      refine lv_aload_n hx hb dX7_firstOther_3 rfl (lv_at hl 2 rfl) ?_
      refine xr_S (j := j) (by omega) F hW 2 (by decide) rfl fl_RX7_275 dX7_firstOther_4 ?_
      refine lv_as (z := nI kt) (hkz) ?_
      refine lv_icmp_ge (tgt := 34) hx hb dX7_firstOther_7 (by decide) (fun c_1 => ?_) (fun c_1 => ?_)
      ·
        obtain rfl : f = 0 := by have := mi_le c_1 (by omega) (by omega); omega
        refine lv_iconst (v := (-1)) hx hb dX7_firstOther_34 (by decide) ?_
        exact hret (-1) (ρ', X') _ _ _ _ _ hW rfl rfl (by rw [hR0, ← hRR]; rfl) dX7_firstOther_35
      ·
        have hlt : i < kt := mi_nle c_1 (by omega) (by omega); obtain ⟨f', rfl⟩ : ∃ x, f = x + 1 := ⟨f - 1, by omega⟩
        refine lv_aload_n hx hb dX7_firstOther_10 rfl (lv_at hl 1 rfl) ?_
        refine xr_O F hW 6 (by decide) rfl fl_RX7_54 dX7_firstOther_11 ?_
        refine gw_callVi (As := []) (rest := []) F hl.1 hW (fun _ _ hw => va_Nw.warmM hw hE) XE_E (by omega) (xe_T (b := 1) (by decide)) rfl (kX4_pass (b := 1) (by decide) hX1 hX) pd_yX4_pass ml_RX7_192 im_yX4_pass se_yX4_pass ini_RX4 cd_yX4_pass ⟨rfl, rfl⟩ ⟨Nat.le_of_ble_eq_true rfl, Nat.le_of_ble_eq_true rfl⟩ rfl rfl (Nat.le_of_ble_eq_true rfl) ⟨Nat.zero_le _, Nat.zero_le _⟩ dX7_firstOther_14 (fun r u H locs hp hW _ _ => ?_)
        obtain ⟨ρ_2, TT_3⟩ := u
        obtain ⟨rfl, hp⟩ := hp
        have hp : TT_3 = va_up TT 1 (passS (xLx n τ) X').1 := hp.trans (bx_uu _ _ _ _)
        subst hp
        refine lv_as (z := (passS (xLx n τ) X').2) rfl ?_
        refine lv_aload_n hx hb dX7_firstOther_17 rfl (lv_at hl 2 rfl) ?_
        refine xr_S (j := j) (by omega) F hW 0 (by decide) rfl fl_RX7_276 dX7_firstOther_18 ?_
        refine lv_iload_n hx hb dX7_firstOther_21 rfl (lv_at hl 0 rfl) ?_
        refine xr_Ne (j := j) (by omega) F hW (vp_in_nI (by omega) (by decide)) dX7_firstOther_22 ?_
        refine lv_as (z := σ (34 + j + 4) i) (by rw [nI_clamp (by omega)]) ?_
        refine lv_icmp_eq (tgt := 28) hx hb dX7_firstOther_23 (by decide) (fun c_4 => ?_) (fun c_4 => ?_)
        ·
          refine lv_iinc (v := nI (i + 1)) (lv' := [(2, .int (nI (i + 1))), (0, .ref (ad 0)), (1, .ref (ad (34 + j)))]) hx hb dX7_firstOther_28 hl (k := 0) rfl (nI_1 i) (by decide) rfl (fun ls hl => ?_)
          refine lv_goto (tgt := 2) hx hb dX7_firstOther_31 (by decide) ?_
          exact ih2 (i + 1) f' _ _ (by omega) (by omega) ((ok_pass (Lx := (xLx n τ)) hX1).1) (by rw [← hRR]; exact (if_pos c_4).symm) _ _ _ hW (lv_sub hl [0, 1, 2] rfl)
        ·
          refine lv_iload_n hx hb dX7_firstOther_26 rfl (lv_at hl 0 rfl) ?_
          exact hret (nI i) (ρ_2, ((passS (xLx n τ) X').1)) _ _ _ _ _ hW rfl rfl (by rw [hR0, ← hRR]; exact (if_neg c_4).symm) dX7_firstOther_27
  exact L2 (kt + 1) 0 kt ρ X (by omega) (by omega) (hTX) (hR0) _ _ _ hW (lv_sub hl [0, 1, 2] rfl)
abbrev rm_yX7_judge : Room := { frames := 7, cells := 0, slots := 0, locals := 161 }
set_option maxHeartbeats 800000 in
set_option maxRecDepth 100000 in
theorem kX7_judge {l : Launch} {D : va_G} {cs : Nat → ClassId} {ad : Nat → Nat} {n : Nat} {ρ σ : Nat → Nat → Int32} {TT τ : Nat → Nat → Nat → Int32} {sz : Nat} {z : Int32} (hO : okO n TT τ σ) (hSh : okS σ) : XMi l yX7_judge cX7_judge 3 FieldType.int rm_yX7_judge [.ref (ad 0), .int z] D cs ad n ρ TT τ σ sz (fun (r : Int32) (u : (Nat → Nat → Int32) × Tb) => r = judgeP (xLx n τ) (TT 0) (soX σ) (siX σ) (nuX σ) z) (fun u : (Nat → Nat → Int32) × Tb => xent ad cs n u.1 (va_up TT 1 u.2) τ σ) := by
  refine gw_stI (Ff := fun u : (Nat → Nat → Int32) × Tb => xent ad cs n u.1 (va_up TT 1 u.2) τ σ) (own := RX7) (by decide +kernel) rfl (Nat.le_of_ble_eq_true rfl) ?_
  intro p e s m ar below meth c A Q F hE hsz hW hret ls hl
  obtain ⟨hx, hb, hml, hown, hts⟩ := id F
  have hl : lv_has ls 3 [(0, .ref (ad 0)), (1, .int z)] := hl
  obtain ⟨hn1, hn6, hT, hX, hc, hnum⟩ := hO
  have hs6 := hT.1
  have hsN := hT.2.1
  have ht0 : (TT 0 6 3).toNatClampNeg < n := hT.2.2.1
  have hW : XW D cs ad n ρ (va_up TT 1 (TT 1)) τ σ A s s.heap s.heap [] := by rw [va_up_eta]; exact hW
  refine lv_aload_n hx hb dX7_judge_0 rfl (lv_at hl 0 rfl) ?_
  refine lv_iload_n hx hb dX7_judge_1 rfl (lv_at hl 1 rfl) ?_
  refine gw_callVi (As := [.int z]) (rest := []) F hl.1 hW (fun _ _ hw => va_Nw.warmM hw hE) XE_E (by omega) xe_0 rfl (kX7_refusalOfTale) pd_yX7_refusalOfTale ml_RX7_244 im_yX7_refusalOfTale se_yX7_refusalOfTale ini_RX7 cd_yX7_refusalOfTale ⟨rfl, rfl⟩ ⟨Nat.le_of_ble_eq_true rfl, Nat.le_of_ble_eq_true rfl⟩ rfl rfl (Nat.le_of_ble_eq_true rfl) ⟨Nat.zero_le _, Nat.zero_le _⟩ dX7_judge_2 (fun r u H locs hp hW _ _ => ?_)
  subst hp
  refine lv_as (z := talP (soX σ) (siX σ) z) rfl ?_
  refine lv_topi (fun v_1 ev_1 => ?_)
  refine lv_istore_n (lv' := [(2, .int v_1), (0, .ref (ad 0)), (1, .int z)]) hx hb dX7_judge_5 rfl hl (by decide) rfl (fun ls hl => ?_)
  refine lv_iload_n hx hb dX7_judge_6 rfl (lv_at hl 0 rfl) ?_
  refine lv_if_eq (tgt := 12) hx hb dX7_judge_7 (by decide) (fun c_2 => ?_) (fun c_2 => ?_)
  ·
    have htal := (show talP (soX σ) (siX σ) _ = 0 from (ev_1.symm.trans c_2)); obtain ⟨qt, kt, hqt, hkt, rfl, hkz⟩ := tal_ok hSh htal; have hiqt : iN (nI qt) = qt := iN_nI (by omega); have hik : iN (siX σ qt) = kt := by show iN (σ (34 + qt) 2) = kt; rw [hkz]; exact iN_nI (by omega)
    refine lv_aload_n hx hb dX7_judge_12 rfl (lv_at hl 1 rfl) ?_
    refine gw_callVv (As := []) (rest := []) F hl.1 hW (fun _ _ hw => va_Nw.warmM hw hE) XE_E (by omega) xe_0 rfl (kX7_think (TT := TT) (X := (TT 1)) hT) pd_yX7_think ml_RX7_207 im_yX7_think se_yX7_think ini_RX7 cd_yX7_think ⟨rfl, rfl⟩ ⟨Nat.le_of_ble_eq_true rfl, Nat.le_of_ble_eq_true rfl⟩ rfl rfl (Nat.le_of_ble_eq_true rfl) ⟨Nat.zero_le _, Nat.zero_le _⟩ dX7_judge_13 (fun C_3 H locs hp hW _ _ => ?_)
    have hC_C_3 : EqT C_3 (TT 0) := hp
    have hCo_C_3 : okT n C_3 := hC_C_3.symm.ok hT
    have hCs_C_3 : seatsN C_3 = seatsN (TT 0) := hC_C_3.seats
    refine lv_aload_n hx hb dX7_judge_16 rfl (lv_at hl 1 rfl) ?_
    refine lv_aload_n hx hb dX7_judge_17 rfl (lv_at hl 1 rfl) ?_
    refine xr_O F hW 9 (by decide) rfl fl_RX7_62 dX7_judge_18 ?_
    refine lv_iload_n hx hb dX7_judge_21 rfl (lv_at hl 2 rfl) ?_
    refine xr_San (q := qt) rfl (by omega) F hW dX7_judge_22 ?_
    refine gw_callVi (As := [.ref (ad (34 + qt))]) (rest := []) F hl.1 hW (fun _ _ hw => va_Nw.warmM hw hE) XE_E (by omega) xe_0 rfl (kX7_firstOther (TT := TT) (X := C_3) (j := qt) (kt := kt) hn6 hCo_C_3 hX hqt hkt hkz) pd_yX7_firstOther ml_RX7_247 im_yX7_firstOther se_yX7_firstOther ini_RX7 cd_yX7_firstOther ⟨rfl, rfl⟩ ⟨Nat.le_of_ble_eq_true rfl, Nat.le_of_ble_eq_true rfl⟩ rfl rfl (Nat.le_of_ble_eq_true rfl) ⟨Nat.zero_le _, Nat.zero_le _⟩ dX7_judge_23 (fun r u H locs hp hW _ _ => ?_)
    obtain ⟨ρ_4, X_5⟩ := u
    subst hp
    refine lv_as (z := foS (xLx n τ) (σ (34 + qt + 4)) kt C_3) rfl ?_
    refine lv_as (z := foS (xLx n τ) (σ (34 + qt + 4)) kt (TT 0)) (EqT.sfo (hC_C_3) hCo_C_3 _ _ _) ?_
    exact hret (foS (xLx n τ) (σ (34 + qt + 4)) kt (TT 0)) (ρ_4, X_5) _ _ _ _ _ hW rfl rfl (by unfold judgeP; rw [if_pos htal, hiqt, hik]; first | done | rfl) dX7_judge_26
  ·
    refine lv_iload_n hx hb dX7_judge_10 rfl (lv_at hl 0 rfl) ?_
    exact hret v_1 (ρ, (TT 1)) _ _ _ _ _ hW rfl rfl (by unfold judgeP; rw [if_neg (by rw [← ev_1]; exact c_2)]; exact ev_1) dX7_judge_11
abbrev rm_yX7_kinds : Room := { frames := 7, cells := 0, slots := 0, locals := 161 }
set_option maxHeartbeats 800000 in
set_option maxRecDepth 100000 in
theorem kX7_kinds {l : Launch} {D : va_G} {cs : Nat → ClassId} {ad : Nat → Nat} {n : Nat} {ρ σ : Nat → Nat → Int32} {TT τ : Nat → Nat → Nat → Int32} {sz : Nat} {z pp w0 : Int32} (hO : okO n TT τ σ) (hSh : okS σ) : XMi l yX7_kinds cX7_kinds 8 FieldType.int rm_yX7_kinds [.ref (ad 0), .int z, .int pp, .int w0] D cs ad n ρ TT τ σ sz (fun (r : Int32) (u : (Nat → Nat → Int32) × Tb) => r = kindsP (xLx n τ) (TT 0) (soX σ) (siX σ) (nuX σ) z pp w0) (fun u : (Nat → Nat → Int32) × Tb => xent ad cs n u.1 (va_up TT 1 u.2) τ σ) := by
  refine gw_stI (Ff := fun u : (Nat → Nat → Int32) × Tb => xent ad cs n u.1 (va_up TT 1 u.2) τ σ) (own := RX7) (by decide +kernel) rfl (Nat.le_of_ble_eq_true rfl) ?_
  intro p e s m ar below meth c A Q F hE hsz hW hret ls hl
  obtain ⟨hx, hb, hml, hown, hts⟩ := id F
  have hl : lv_has ls 8 [(0, .ref (ad 0)), (1, .int z), (2, .int pp), (3, .int w0)] := hl
  obtain ⟨hn1, hn6, hT, hX, hc, hnum⟩ := hO
  have hs6 := hT.1
  have hsN := hT.2.1
  have ht0 : (TT 0 6 3).toNatClampNeg < n := hT.2.2.1
  have hW : XW D cs ad n ρ (va_up TT 1 (TT 1)) τ σ A s s.heap s.heap [] := by rw [va_up_eta]; exact hW
  refine lv_aload_n hx hb dX7_kinds_0 rfl (lv_at hl 0 rfl) ?_
  refine lv_iload_n hx hb dX7_kinds_1 rfl (lv_at hl 1 rfl) ?_
  refine gw_callVi (As := [.int z]) (rest := []) F hl.1 hW (fun _ _ hw => va_Nw.warmM hw hE) XE_E (by omega) xe_0 rfl (kX7_refusalOfTale) pd_yX7_refusalOfTale ml_RX7_244 im_yX7_refusalOfTale se_yX7_refusalOfTale ini_RX7 cd_yX7_refusalOfTale ⟨rfl, rfl⟩ ⟨Nat.le_of_ble_eq_true rfl, Nat.le_of_ble_eq_true rfl⟩ rfl rfl (Nat.le_of_ble_eq_true rfl) ⟨Nat.zero_le _, Nat.zero_le _⟩ dX7_kinds_2 (fun r u H locs hp hW _ _ => ?_)
  subst hp
  refine lv_as (z := talP (soX σ) (siX σ) z) rfl ?_
  refine lv_topi (fun v_1 ev_1 => ?_)
  refine lv_istore (lv' := [(4, .int v_1), (0, .ref (ad 0)), (1, .int z), (2, .int pp), (3, .int w0)]) hx hb dX7_kinds_5 hl (by decide) rfl (fun ls hl => ?_)
  refine lv_iload hx hb dX7_kinds_7 (lv_at hl 0 rfl) ?_
  refine lv_if_eq (tgt := 15) hx hb dX7_kinds_9 (by decide) (fun c_2 => ?_) (fun c_2 => ?_)
  ·
    have htal := (show talP (soX σ) (siX σ) _ = 0 from (ev_1.symm.trans c_2)); obtain ⟨qt, kt, hqt, hkt, rfl, hkz⟩ := tal_ok hSh htal; have hiqt : iN (nI qt) = qt := iN_nI (by omega); have hik : iN (siX σ qt) = kt := by show iN (σ (34 + qt) 2) = kt; rw [hkz]; exact iN_nI (by omega)
    refine lv_aload_n hx hb dX7_kinds_15 rfl (lv_at hl 1 rfl) ?_
    refine xr_O F hW 5 (by decide) rfl fl_RX7_50 dX7_kinds_16 ?_
    refine lv_iload_n hx hb dX7_kinds_19 rfl (lv_at hl 3 rfl) ?_
    refine gw_callVi (As := [.int pp]) (rest := []) F hl.1 hW (fun _ _ hw => va_Nw.warmM hw hE) XE_E (by omega) (xe_T (b := 0) (by decide)) rfl (kX4_seatsOne (b := 0) (by decide)) pd_yX4_seatsOne ml_RX7_125 im_yX4_seatsOne se_yX4_seatsOne ini_RX4 cd_yX4_seatsOne ⟨rfl, rfl⟩ ⟨Nat.le_of_ble_eq_true rfl, Nat.le_of_ble_eq_true rfl⟩ rfl rfl (Nat.le_of_ble_eq_true rfl) ⟨Nat.zero_le _, Nat.zero_le _⟩ dX7_kinds_20 (fun r u H locs hp hW _ _ => ?_)
    subst hp
    refine lv_as (z := oneP (TT 0) pp) rfl ?_
    refine lv_if_ne (tgt := 29) hx hb dX7_kinds_23 (by decide) (fun c_3 => ?_) (fun c_3 => ?_)
    ·
      obtain ⟨q, hq, rfl⟩ := one_nat hT c_3; have hq6 : q < 6 := seats_le hT hq; have hiq : iN (nI q) = q := iN_nI (by omega); have hG := hT.2.2.2.2 q hq
      refine lv_iload_n hx hb dX7_kinds_29 rfl (lv_at hl 4 rfl) ?_
      refine gw_callP (As := [.int w0]) (rest := []) F hl.1 (kX7_isChoice) pd_yX7_isChoice ml_RX7_216 st_yX7_isChoice ini_RX7 cd_yX7_isChoice ⟨rfl, rfl⟩ ⟨Nat.le_of_ble_eq_true rfl, Nat.le_of_ble_eq_true rfl⟩ rfl rfl (Nat.le_of_ble_eq_true rfl) ⟨Nat.zero_le _, Nat.zero_le _⟩ dX7_kinds_30 ?_
      refine lv_as (z := choP w0) rfl ?_
      refine lv_if_ne (tgt := 39) hx hb dX7_kinds_33 (by decide) (fun c_4 => ?_) (fun c_4 => ?_)
      ·
        refine lv_iconst (v := 0) hx hb dX7_kinds_39 (by decide) ?_
        refine lv_istore (lv' := [(5, .int 0), (4, .int v_1), (0, .ref (ad 0)), (1, .int (nI qt)), (2, .int (nI q)), (3, .int w0)]) hx hb dX7_kinds_40 hl (by decide) rfl (fun ls hl => ?_)
        refine lv_iload_n hx hb dX7_kinds_42 rfl (lv_at hl 5 rfl) ?_
        refine lv_if_ne (tgt := 50) hx hb dX7_kinds_43 (by decide) (fun c_5 => ?_) (fun c_5 => ?_)
        ·
          refine lv_bipush (v := 9) hx hb dX7_kinds_50 (by decide) ?_
          refine lv_istore (lv' := [(6, .int 9), (5, .int 0), (4, .int v_1), (0, .ref (ad 0)), (1, .int (nI qt)), (2, .int (nI q)), (3, .int w0)]) hx hb dX7_kinds_52 hl (by decide) rfl (fun ls hl => ?_)
          refine lv_iconst (v := 0) hx hb dX7_kinds_54 (by decide) ?_
          refine lv_istore (lv' := [(7, .int 0), (6, .int 9), (5, .int 0), (4, .int v_1), (0, .ref (ad 0)), (1, .int (nI qt)), (2, .int (nI q)), (3, .int w0)]) hx hb dX7_kinds_55 hl (by decide) rfl (fun ls hl => ?_)
          have L57 : ∀ (k : Nat) (i : Nat) (ρ' : Nat → Nat → Int32) (X : Tb) (ff : Int32), (i ≤ 10) → (10 + 1 ≤ i + k) → (fitK (fun v => foS (xLx n τ) (σ (34 + qt + 4)) kt (upT (TT 0) q 1 (nI v))) i = ff) → ∀ (H : Heap) (locs : List Loc) (ls : Array Slot), XW D cs ad n ρ' (va_up TT 1 X) τ σ A s s.heap H locs → lv_has ls 8 [(7, .int (nI i)), (5, .int ff), (0, .ref (ad 0)), (1, .int (nI qt)), (2, .int (nI q)), (3, .int w0), (6, .int 9)] → W p l e rm_yX7_kinds s m ar below meth c H locs 0 0 Q (F0 m 57 ls []) := by
            intro k
            induction k with
            | zero => intro i ρ' X ff h1 h2 hF; exact absurd h2 (by omega)
            | succ k ih57 =>
              intro i ρ' X ff h1 h2 hF H locs ls hW hl
              refine lv_iload hx hb dX7_kinds_57 (lv_at hl 0 rfl) ?_
              refine lv_iload hx hb dX7_kinds_59 (lv_at hl 6 rfl) ?_
              refine lv_icmp_gt (tgt := 132) hx hb dX7_kinds_61 (by decide) (fun c_6 => ?_) (fun c_6 => ?_)
              ·
                obtain rfl : i = 10 := by have := mi_lt (a := 9) (b := i) c_6 (by decide) (by omega); omega
                refine lv_iload hx hb dX7_kinds_132 (lv_at hl 1 rfl) ?_
                exact hret ff (ρ', X) _ _ _ _ _ hW rfl rfl (by unfold kindsP; rw [if_pos htal, if_neg c_3, if_neg c_4, if_neg c_5, hiqt, hik, hiq]; exact hF.symm) dX7_kinds_134
              ·
                have hlt : i < 10 := by have := mi_nlt (a := 9) (b := i) c_6 (by decide) (by omega); omega
                refine lv_aload_n hx hb dX7_kinds_64 rfl (lv_at hl 2 rfl) ?_
                refine gw_callVv (As := []) (rest := []) F hl.1 hW (fun _ _ hw => va_Nw.warmM hw hE) XE_E (by omega) xe_0 rfl (kX7_think (TT := TT) (X := X) hT) pd_yX7_think ml_RX7_207 im_yX7_think se_yX7_think ini_RX7 cd_yX7_think ⟨rfl, rfl⟩ ⟨Nat.le_of_ble_eq_true rfl, Nat.le_of_ble_eq_true rfl⟩ rfl rfl (Nat.le_of_ble_eq_true rfl) ⟨Nat.zero_le _, Nat.zero_le _⟩ dX7_kinds_65 (fun C_7 H locs hp hW _ _ => ?_)
                have hC_C_7 : EqT C_7 (TT 0) := hp
                have hCo_C_7 : okT n C_7 := hC_C_7.symm.ok hT
                have hCs_C_7 : seatsN C_7 = seatsN (TT 0) := hC_C_7.seats
                refine lv_iload_n hx hb dX7_kinds_68 rfl (lv_at hl 5 rfl) ?_
                refine lv_if_ne (tgt := 89) hx hb dX7_kinds_69 (by decide) (fun c_8 => ?_) (fun c_8 => ?_)
                ·
                  refine lv_aload_n hx hb dX7_kinds_89 rfl (lv_at hl 2 rfl) ?_
                  refine xr_O F hW 6 (by decide) rfl fl_RX7_54 dX7_kinds_90 ?_
                  refine xr_Tg (b := 1) F hW (by decide) fl_RX7_128 dX7_kinds_93 ?_
                  refine lv_iload_n hx hb dX7_kinds_96 rfl (lv_at hl 4 rfl) ?_
                  refine xr_Rn (b := 1) (q := q) rfl (by omega) F hW (by decide) dX7_kinds_97 ?_
                  refine lv_iload hx hb dX7_kinds_98 (lv_at hl 0 rfl) ?_
                  refine xw_G (b := 1) (q := q) F hW (by decide) (by omega) 1 (by decide) fl_RX7_155 rfl (ty := .int) rfl rfl rfl dX7_kinds_100 (fun H locs hW => ?_)
                  have hW : XW D cs ad n ρ' (va_up TT 1 (upT C_7 q 1 (nI i))) τ σ A s s.heap H locs := by rw [bx_uu] at hW; exact hW
                  refine lv_aload_n hx hb dX7_kinds_103 rfl (lv_at hl 2 rfl) ?_
                  refine lv_aload_n hx hb dX7_kinds_104 rfl (lv_at hl 2 rfl) ?_
                  refine xr_O F hW 9 (by decide) rfl fl_RX7_62 dX7_kinds_105 ?_
                  refine lv_iload_n hx hb dX7_kinds_108 rfl (lv_at hl 3 rfl) ?_
                  refine xr_San (q := qt) rfl (by omega) F hW dX7_kinds_109 ?_
                  refine gw_callVi (As := [.ref (ad (34 + qt))]) (rest := []) F hl.1 hW (fun _ _ hw => va_Nw.warmM hw hE) XE_E (by omega) xe_0 rfl (kX7_firstOther (TT := TT) (X := (upT C_7 q 1 (nI i))) (j := qt) (kt := kt) hn6 (ok_upT hCo_C_7 hq6 (fun hz => okG_1 (hCo_C_7.2.2.2.2 q hz) ⟨i, hlt, rfl⟩)) hX hqt hkt hkz) pd_yX7_firstOther ml_RX7_247 im_yX7_firstOther se_yX7_firstOther ini_RX7 cd_yX7_firstOther ⟨rfl, rfl⟩ ⟨Nat.le_of_ble_eq_true rfl, Nat.le_of_ble_eq_true rfl⟩ rfl rfl (Nat.le_of_ble_eq_true rfl) ⟨Nat.zero_le _, Nat.zero_le _⟩ dX7_kinds_110 (fun r u H locs hp hW _ _ => ?_)
                  obtain ⟨ρ_9, X_10⟩ := u
                  subst hp
                  refine lv_as (z := foS (xLx n τ) (σ (34 + qt + 4)) kt (upT C_7 q 1 (nI i))) rfl ?_
                  refine lv_as (z := foS (xLx n τ) (σ (34 + qt + 4)) kt (upT (TT 0) q 1 (nI i))) (EqT.sfo (hC_C_7.over (n := n) hq6 1 (nI i)) (ok_upT hCo_C_7 hq6 (fun hz => okG_1 (hCo_C_7.2.2.2.2 q hz) ⟨i, hlt, rfl⟩)) _ _ _) ?_
                  refine lv_iconst (v := (-1)) hx hb dX7_kinds_113 (by decide) ?_
                  refine lv_icmp_ne (tgt := 126) hx hb dX7_kinds_114 (by decide) (fun c_11 => ?_) (fun c_11 => ?_)
                  ·
                    refine lv_iinc (v := nI (i + 1)) (lv' := [(7, .int (nI (i + 1))), (5, .int ff), (0, .ref (ad 0)), (1, .int (nI qt)), (2, .int (nI q)), (3, .int w0), (6, .int 9)]) hx hb dX7_kinds_126 hl (k := 0) rfl (nI_1 i) (by decide) rfl (fun ls hl => ?_)
                    refine lv_goto (tgt := 57) hx hb dX7_kinds_129 (by decide) ?_
                    exact ih57 (i + 1) _ _ _ (by omega) (by omega) (by show (if _ = -1 then _ else _) = _; rw [if_neg c_11]; exact hF) _ _ _ hW (lv_sub hl [0, 1, 2, 3, 4, 5, 6] rfl)
                  ·
                    refine lv_iload hx hb dX7_kinds_117 (lv_at hl 1 rfl) ?_
                    refine lv_iconst (v := 1) hx hb dX7_kinds_119 (by decide) ?_
                    refine lv_iload hx hb dX7_kinds_120 (lv_at hl 0 rfl) ?_
                    refine lv_ishl hx hb dX7_kinds_122 ?_
                    refine lv_ior hx hb dX7_kinds_123 ?_
                    refine lv_topi (fun v_12 ev_12 => ?_)
                    refine lv_istore (lv' := [(5, .int v_12), (7, .int (nI i)), (0, .ref (ad 0)), (1, .int (nI qt)), (2, .int (nI q)), (3, .int w0), (6, .int 9)]) hx hb dX7_kinds_124 hl (by decide) rfl (fun ls hl => ?_)
                    refine lv_iinc (v := nI (i + 1)) (lv' := [(7, .int (nI (i + 1))), (5, .int v_12), (0, .ref (ad 0)), (1, .int (nI qt)), (2, .int (nI q)), (3, .int w0), (6, .int 9)]) hx hb dX7_kinds_126 hl (k := 1) rfl (nI_1 i) (by decide) rfl (fun ls hl => ?_)
                    refine lv_goto (tgt := 57) hx hb dX7_kinds_129 (by decide) ?_
                    exact ih57 (i + 1) _ _ _ (by omega) (by omega) (by show (if _ = -1 then _ ||| _ else _) = _; rw [if_pos c_11, hF, ev_12]; rfl) _ _ _ hW (lv_sub hl [0, 1, 2, 3, 4, 5, 6] rfl)
                ·
                  exact absurd c_8 c_5
          exact L57 (10 + 1) 0 _ _ _ (Nat.zero_le _) (by omega) (rfl) _ _ _ hW (lv_sub hl [0, 2, 4, 5, 6, 7, 1] rfl)
        ·
          refine lv_iconst (v := 5) hx hb dX7_kinds_46 (by decide) ?_
          refine lv_goto (tgt := 52) hx hb dX7_kinds_47 (by decide) ?_
          refine lv_istore (lv' := [(6, .int 5), (5, .int 0), (4, .int v_1), (0, .ref (ad 0)), (1, .int (nI qt)), (2, .int (nI q)), (3, .int w0)]) hx hb dX7_kinds_52 hl (by decide) rfl (fun ls hl => ?_)
          refine lv_iconst (v := 0) hx hb dX7_kinds_54 (by decide) ?_
          refine lv_istore (lv' := [(7, .int 0), (6, .int 5), (5, .int 0), (4, .int v_1), (0, .ref (ad 0)), (1, .int (nI qt)), (2, .int (nI q)), (3, .int w0)]) hx hb dX7_kinds_55 hl (by decide) rfl (fun ls hl => ?_)
          have L57 : ∀ (k : Nat) (i : Nat) (ρ' : Nat → Nat → Int32) (X : Tb) (ff : Int32), (i ≤ 6) → (6 + 1 ≤ i + k) → (fitK (fun v => foS (xLx n τ) (σ (34 + qt + 4)) kt (upT (TT 0) q 0 (nI v))) i = ff) → ∀ (H : Heap) (locs : List Loc) (ls : Array Slot), XW D cs ad n ρ' (va_up TT 1 X) τ σ A s s.heap H locs → lv_has ls 8 [(7, .int (nI i)), (5, .int ff), (0, .ref (ad 0)), (1, .int (nI qt)), (2, .int (nI q)), (3, .int w0), (6, .int 5)] → W p l e rm_yX7_kinds s m ar below meth c H locs 0 0 Q (F0 m 57 ls []) := by
            intro k
            induction k with
            | zero => intro i ρ' X ff h1 h2 hF; exact absurd h2 (by omega)
            | succ k ih57 =>
              intro i ρ' X ff h1 h2 hF H locs ls hW hl
              refine lv_iload hx hb dX7_kinds_57 (lv_at hl 0 rfl) ?_
              refine lv_iload hx hb dX7_kinds_59 (lv_at hl 6 rfl) ?_
              refine lv_icmp_gt (tgt := 132) hx hb dX7_kinds_61 (by decide) (fun c_13 => ?_) (fun c_13 => ?_)
              ·
                obtain rfl : i = 6 := by have := mi_lt (a := 5) (b := i) c_13 (by decide) (by omega); omega
                refine lv_iload hx hb dX7_kinds_132 (lv_at hl 1 rfl) ?_
                exact hret ff (ρ', X) _ _ _ _ _ hW rfl rfl (by unfold kindsP; rw [if_pos htal, if_neg c_3, if_neg c_4, if_pos c_5, hiqt, hik, hiq]; exact hF.symm) dX7_kinds_134
              ·
                have hlt : i < 6 := by have := mi_nlt (a := 5) (b := i) c_13 (by decide) (by omega); omega
                refine lv_aload_n hx hb dX7_kinds_64 rfl (lv_at hl 2 rfl) ?_
                refine gw_callVv (As := []) (rest := []) F hl.1 hW (fun _ _ hw => va_Nw.warmM hw hE) XE_E (by omega) xe_0 rfl (kX7_think (TT := TT) (X := X) hT) pd_yX7_think ml_RX7_207 im_yX7_think se_yX7_think ini_RX7 cd_yX7_think ⟨rfl, rfl⟩ ⟨Nat.le_of_ble_eq_true rfl, Nat.le_of_ble_eq_true rfl⟩ rfl rfl (Nat.le_of_ble_eq_true rfl) ⟨Nat.zero_le _, Nat.zero_le _⟩ dX7_kinds_65 (fun C_14 H locs hp hW _ _ => ?_)
                have hC_C_14 : EqT C_14 (TT 0) := hp
                have hCo_C_14 : okT n C_14 := hC_C_14.symm.ok hT
                have hCs_C_14 : seatsN C_14 = seatsN (TT 0) := hC_C_14.seats
                refine lv_iload_n hx hb dX7_kinds_68 rfl (lv_at hl 5 rfl) ?_
                refine lv_if_ne (tgt := 89) hx hb dX7_kinds_69 (by decide) (fun c_15 => ?_) (fun c_15 => ?_)
                ·
                  exact absurd c_5 c_15
                ·
                  refine lv_aload_n hx hb dX7_kinds_72 rfl (lv_at hl 2 rfl) ?_
                  refine xr_O F hW 6 (by decide) rfl fl_RX7_54 dX7_kinds_73 ?_
                  refine xr_Tg (b := 1) F hW (by decide) fl_RX7_128 dX7_kinds_76 ?_
                  refine lv_iload_n hx hb dX7_kinds_79 rfl (lv_at hl 4 rfl) ?_
                  refine xr_Rn (b := 1) (q := q) rfl (by omega) F hW (by decide) dX7_kinds_80 ?_
                  refine lv_iload hx hb dX7_kinds_81 (lv_at hl 0 rfl) ?_
                  refine xw_G (b := 1) (q := q) F hW (by decide) (by omega) 0 (by decide) fl_RX7_152 rfl (ty := .int) rfl rfl rfl dX7_kinds_83 (fun H locs hW => ?_)
                  have hW : XW D cs ad n ρ' (va_up TT 1 (upT C_14 q 0 (nI i))) τ σ A s s.heap H locs := by rw [bx_uu] at hW; exact hW
                  refine lv_goto (tgt := 103) hx hb dX7_kinds_86 (by decide) ?_
                  refine lv_aload_n hx hb dX7_kinds_103 rfl (lv_at hl 2 rfl) ?_
                  refine lv_aload_n hx hb dX7_kinds_104 rfl (lv_at hl 2 rfl) ?_
                  refine xr_O F hW 9 (by decide) rfl fl_RX7_62 dX7_kinds_105 ?_
                  refine lv_iload_n hx hb dX7_kinds_108 rfl (lv_at hl 3 rfl) ?_
                  refine xr_San (q := qt) rfl (by omega) F hW dX7_kinds_109 ?_
                  refine gw_callVi (As := [.ref (ad (34 + qt))]) (rest := []) F hl.1 hW (fun _ _ hw => va_Nw.warmM hw hE) XE_E (by omega) xe_0 rfl (kX7_firstOther (TT := TT) (X := (upT C_14 q 0 (nI i))) (j := qt) (kt := kt) hn6 (ok_upT hCo_C_14 hq6 (fun hz => okG_0 (hCo_C_14.2.2.2.2 q hz) ⟨i, hlt, rfl⟩)) hX hqt hkt hkz) pd_yX7_firstOther ml_RX7_247 im_yX7_firstOther se_yX7_firstOther ini_RX7 cd_yX7_firstOther ⟨rfl, rfl⟩ ⟨Nat.le_of_ble_eq_true rfl, Nat.le_of_ble_eq_true rfl⟩ rfl rfl (Nat.le_of_ble_eq_true rfl) ⟨Nat.zero_le _, Nat.zero_le _⟩ dX7_kinds_110 (fun r u H locs hp hW _ _ => ?_)
                  obtain ⟨ρ_16, X_17⟩ := u
                  subst hp
                  refine lv_as (z := foS (xLx n τ) (σ (34 + qt + 4)) kt (upT C_14 q 0 (nI i))) rfl ?_
                  refine lv_as (z := foS (xLx n τ) (σ (34 + qt + 4)) kt (upT (TT 0) q 0 (nI i))) (EqT.sfo (hC_C_14.over (n := n) hq6 0 (nI i)) (ok_upT hCo_C_14 hq6 (fun hz => okG_0 (hCo_C_14.2.2.2.2 q hz) ⟨i, hlt, rfl⟩)) _ _ _) ?_
                  refine lv_iconst (v := (-1)) hx hb dX7_kinds_113 (by decide) ?_
                  refine lv_icmp_ne (tgt := 126) hx hb dX7_kinds_114 (by decide) (fun c_18 => ?_) (fun c_18 => ?_)
                  ·
                    refine lv_iinc (v := nI (i + 1)) (lv' := [(7, .int (nI (i + 1))), (5, .int ff), (0, .ref (ad 0)), (1, .int (nI qt)), (2, .int (nI q)), (3, .int w0), (6, .int 5)]) hx hb dX7_kinds_126 hl (k := 0) rfl (nI_1 i) (by decide) rfl (fun ls hl => ?_)
                    refine lv_goto (tgt := 57) hx hb dX7_kinds_129 (by decide) ?_
                    exact ih57 (i + 1) _ _ _ (by omega) (by omega) (by show (if _ = -1 then _ else _) = _; rw [if_neg c_18]; exact hF) _ _ _ hW (lv_sub hl [0, 1, 2, 3, 4, 5, 6] rfl)
                  ·
                    refine lv_iload hx hb dX7_kinds_117 (lv_at hl 1 rfl) ?_
                    refine lv_iconst (v := 1) hx hb dX7_kinds_119 (by decide) ?_
                    refine lv_iload hx hb dX7_kinds_120 (lv_at hl 0 rfl) ?_
                    refine lv_ishl hx hb dX7_kinds_122 ?_
                    refine lv_ior hx hb dX7_kinds_123 ?_
                    refine lv_topi (fun v_19 ev_19 => ?_)
                    refine lv_istore (lv' := [(5, .int v_19), (7, .int (nI i)), (0, .ref (ad 0)), (1, .int (nI qt)), (2, .int (nI q)), (3, .int w0), (6, .int 5)]) hx hb dX7_kinds_124 hl (by decide) rfl (fun ls hl => ?_)
                    refine lv_iinc (v := nI (i + 1)) (lv' := [(7, .int (nI (i + 1))), (5, .int v_19), (0, .ref (ad 0)), (1, .int (nI qt)), (2, .int (nI q)), (3, .int w0), (6, .int 5)]) hx hb dX7_kinds_126 hl (k := 1) rfl (nI_1 i) (by decide) rfl (fun ls hl => ?_)
                    refine lv_goto (tgt := 57) hx hb dX7_kinds_129 (by decide) ?_
                    exact ih57 (i + 1) _ _ _ (by omega) (by omega) (by show (if _ = -1 then _ ||| _ else _) = _; rw [if_pos c_18, hF, ev_19]; rfl) _ _ _ hW (lv_sub hl [0, 1, 2, 3, 4, 5, 6] rfl)
          exact L57 (6 + 1) 0 _ _ _ (Nat.zero_le _) (by omega) (rfl) _ _ _ hW (lv_sub hl [0, 2, 4, 5, 6, 7, 1] rfl)
      ·
        refine lv_bipush (v := (-7)) hx hb dX7_kinds_36 (by decide) ?_
        exact hret (-7) (ρ, (TT 1)) _ _ _ _ _ hW rfl rfl (by unfold kindsP; rw [if_pos htal, if_neg c_3, if_pos c_4]) dX7_kinds_38
    ·
      refine lv_bipush (v := (-5)) hx hb dX7_kinds_26 (by decide) ?_
      exact hret (-5) (ρ, (TT 1)) _ _ _ _ _ hW rfl rfl (by unfold kindsP; rw [if_pos htal, if_pos c_3]) dX7_kinds_28
  ·
    refine lv_iload hx hb dX7_kinds_12 (lv_at hl 0 rfl) ?_
    exact hret v_1 (ρ, (TT 1)) _ _ _ _ _ hW rfl rfl (by unfold kindsP; rw [if_neg (by rw [← ev_1]; exact c_2)]; exact ev_1) dX7_kinds_14
abbrev rm_yX7_turned : Room := { frames := 7, cells := 0, slots := 0, locals := 161 }
set_option maxHeartbeats 800000 in
set_option maxRecDepth 100000 in
theorem kX7_turned {l : Launch} {D : va_G} {cs : Nat → ClassId} {ad : Nat → Nat} {n : Nat} {ρ σ : Nat → Nat → Int32} {TT τ : Nat → Nat → Nat → Int32} {sz : Nat} {z pp : Int32} (hO : okO n TT τ σ) (hSh : okS σ) : XMi l yX7_turned cX7_turned 6 FieldType.int rm_yX7_turned [.ref (ad 0), .int z, .int pp] D cs ad n ρ TT τ σ sz (fun (r : Int32) (u : (Nat → Nat → Int32) × Tb) => r = turnedP (xLx n τ) (TT 0) (soX σ) (siX σ) (nuX σ) z pp) (fun u : (Nat → Nat → Int32) × Tb => xent ad cs n u.1 (va_up TT 1 u.2) τ σ) := by
  refine gw_stI (Ff := fun u : (Nat → Nat → Int32) × Tb => xent ad cs n u.1 (va_up TT 1 u.2) τ σ) (own := RX7) (by decide +kernel) rfl (Nat.le_of_ble_eq_true rfl) ?_
  intro p e s m ar below meth c A Q F hE hsz hW hret ls hl
  obtain ⟨hx, hb, hml, hown, hts⟩ := id F
  have hl : lv_has ls 6 [(0, .ref (ad 0)), (1, .int z), (2, .int pp)] := hl
  obtain ⟨hn1, hn6, hT, hX, hc, hnum⟩ := hO
  have hs6 := hT.1
  have hsN := hT.2.1
  have ht0 : (TT 0 6 3).toNatClampNeg < n := hT.2.2.1
  have hW : XW D cs ad n ρ (va_up TT 1 (TT 1)) τ σ A s s.heap s.heap [] := by rw [va_up_eta]; exact hW
  refine lv_aload_n hx hb dX7_turned_0 rfl (lv_at hl 0 rfl) ?_
  refine lv_iload_n hx hb dX7_turned_1 rfl (lv_at hl 1 rfl) ?_
  refine gw_callVi (As := [.int z]) (rest := []) F hl.1 hW (fun _ _ hw => va_Nw.warmM hw hE) XE_E (by omega) xe_0 rfl (kX7_refusalOfTale) pd_yX7_refusalOfTale ml_RX7_244 im_yX7_refusalOfTale se_yX7_refusalOfTale ini_RX7 cd_yX7_refusalOfTale ⟨rfl, rfl⟩ ⟨Nat.le_of_ble_eq_true rfl, Nat.le_of_ble_eq_true rfl⟩ rfl rfl (Nat.le_of_ble_eq_true rfl) ⟨Nat.zero_le _, Nat.zero_le _⟩ dX7_turned_2 (fun r u H locs hp hW _ _ => ?_)
  subst hp
  refine lv_as (z := talP (soX σ) (siX σ) z) rfl ?_
  refine lv_topi (fun v_1 ev_1 => ?_)
  refine lv_istore_n (lv' := [(3, .int v_1), (0, .ref (ad 0)), (1, .int z), (2, .int pp)]) hx hb dX7_turned_5 rfl hl (by decide) rfl (fun ls hl => ?_)
  refine lv_iload_n hx hb dX7_turned_6 rfl (lv_at hl 0 rfl) ?_
  refine lv_if_eq (tgt := 12) hx hb dX7_turned_7 (by decide) (fun c_2 => ?_) (fun c_2 => ?_)
  ·
    have htal := (show talP (soX σ) (siX σ) _ = 0 from (ev_1.symm.trans c_2)); obtain ⟨qt, kt, hqt, hkt, rfl, hkz⟩ := tal_ok hSh htal; have hiqt : iN (nI qt) = qt := iN_nI (by omega); have hik : iN (siX σ qt) = kt := by show iN (σ (34 + qt) 2) = kt; rw [hkz]; exact iN_nI (by omega)
    refine lv_aload_n hx hb dX7_turned_12 rfl (lv_at hl 1 rfl) ?_
    refine xr_O F hW 5 (by decide) rfl fl_RX7_50 dX7_turned_13 ?_
    refine lv_iload_n hx hb dX7_turned_16 rfl (lv_at hl 3 rfl) ?_
    refine gw_callVi (As := [.int pp]) (rest := []) F hl.1 hW (fun _ _ hw => va_Nw.warmM hw hE) XE_E (by omega) (xe_T (b := 0) (by decide)) rfl (kX4_seatsOne (b := 0) (by decide)) pd_yX4_seatsOne ml_RX7_125 im_yX4_seatsOne se_yX4_seatsOne ini_RX4 cd_yX4_seatsOne ⟨rfl, rfl⟩ ⟨Nat.le_of_ble_eq_true rfl, Nat.le_of_ble_eq_true rfl⟩ rfl rfl (Nat.le_of_ble_eq_true rfl) ⟨Nat.zero_le _, Nat.zero_le _⟩ dX7_turned_17 (fun r u H locs hp hW _ _ => ?_)
    subst hp
    refine lv_as (z := oneP (TT 0) pp) rfl ?_
    refine lv_if_ne (tgt := 26) hx hb dX7_turned_20 (by decide) (fun c_3 => ?_) (fun c_3 => ?_)
    ·
      obtain ⟨q, hq, rfl⟩ := one_nat hT c_3; have hq6 : q < 6 := seats_le hT hq; have hiq : iN (nI q) = q := iN_nI (by omega); have hG := hT.2.2.2.2 q hq
      refine lv_iconst (v := 0) hx hb dX7_turned_26 (by decide) ?_
      refine lv_istore (lv' := [(4, .int 0), (3, .int v_1), (0, .ref (ad 0)), (1, .int (nI qt)), (2, .int (nI q))]) hx hb dX7_turned_27 hl (by decide) rfl (fun ls hl => ?_)
      refine lv_iconst (v := 0) hx hb dX7_turned_29 (by decide) ?_
      refine lv_istore (lv' := [(5, .int 0), (4, .int 0), (3, .int v_1), (0, .ref (ad 0)), (1, .int (nI qt)), (2, .int (nI q))]) hx hb dX7_turned_30 hl (by decide) rfl (fun ls hl => ?_)
      have L32 : ∀ (k : Nat) (i : Nat) (ρ' : Nat → Nat → Int32) (X : Tb) (ff : Int32), (i ≤ 10) → (10 + 1 ≤ i + k) → (fitK (fun v => foS (xLx n τ) (σ (34 + qt + 4)) kt (upT (TT 0) q 2 (TT 0 q 2 ^^^ oneS (nI v)))) i = ff) → ∀ (H : Heap) (locs : List Loc) (ls : Array Slot), XW D cs ad n ρ' (va_up TT 1 X) τ σ A s s.heap H locs → lv_has ls 6 [(5, .int (nI i)), (4, .int ff), (0, .ref (ad 0)), (1, .int (nI qt)), (2, .int (nI q)), (3, .int v_1)] → W p l e rm_yX7_turned s m ar below meth c H locs 0 0 Q (F0 m 32 ls []) := by
        intro k
        induction k with
        | zero => intro i ρ' X ff h1 h2 hF; exact absurd h2 (by omega)
        | succ k ih32 =>
          intro i ρ' X ff h1 h2 hF H locs ls hW hl
          refine lv_iload hx hb dX7_turned_32 (lv_at hl 0 rfl) ?_
          refine lv_bipush (v := 10) hx hb dX7_turned_34 (by decide) ?_
          refine lv_icmp_ge (tgt := 93) hx hb dX7_turned_36 (by decide) (fun c_4 => ?_) (fun c_4 => ?_)
          ·
            obtain rfl : i = 10 := by have := mi_le (a := 10) (b := i) c_4 (by decide) (by omega); omega
            refine lv_iload hx hb dX7_turned_93 (lv_at hl 1 rfl) ?_
            exact hret ff (ρ', X) _ _ _ _ _ hW rfl rfl (by unfold turnedP; rw [if_pos htal, if_neg c_3, hiqt, hik, hiq]; exact hF.symm) dX7_turned_95
          ·
            have hlt : i < 10 := mi_nle (a := 10) (b := i) c_4 (by decide) (by omega)
            refine lv_aload_n hx hb dX7_turned_39 rfl (lv_at hl 2 rfl) ?_
            refine gw_callVv (As := []) (rest := []) F hl.1 hW (fun _ _ hw => va_Nw.warmM hw hE) XE_E (by omega) xe_0 rfl (kX7_think (TT := TT) (X := X) hT) pd_yX7_think ml_RX7_207 im_yX7_think se_yX7_think ini_RX7 cd_yX7_think ⟨rfl, rfl⟩ ⟨Nat.le_of_ble_eq_true rfl, Nat.le_of_ble_eq_true rfl⟩ rfl rfl (Nat.le_of_ble_eq_true rfl) ⟨Nat.zero_le _, Nat.zero_le _⟩ dX7_turned_40 (fun C_5 H locs hp hW _ _ => ?_)
            have hC_C_5 : EqT C_5 (TT 0) := hp
            have hCo_C_5 : okT n C_5 := hC_C_5.symm.ok hT
            have hCs_C_5 : seatsN C_5 = seatsN (TT 0) := hC_C_5.seats
            refine lv_aload_n hx hb dX7_turned_43 rfl (lv_at hl 2 rfl) ?_
            refine xr_O F hW 6 (by decide) rfl fl_RX7_54 dX7_turned_44 ?_
            refine xr_Tg (b := 1) F hW (by decide) fl_RX7_128 dX7_turned_47 ?_
            refine lv_iload_n hx hb dX7_turned_50 rfl (lv_at hl 4 rfl) ?_
            refine xr_Rn (b := 1) (q := q) rfl (by omega) F hW (by decide) dX7_turned_51 ?_
            refine lv_dup hx hb dX7_turned_52 rfl ?_
            refine xr_G (b := 1) (q := q) F hW (by decide) (by omega) 2 (by decide) fl_RX7_201 dX7_turned_53 ?_
            refine lv_as (z := C_5 q 2) rfl ?_
            refine lv_iconst (v := 1) hx hb dX7_turned_56 (by decide) ?_
            refine lv_iload hx hb dX7_turned_57 (lv_at hl 0 rfl) ?_
            refine lv_ishl hx hb dX7_turned_59 ?_
            refine lv_ixor hx hb dX7_turned_60 ?_
            refine xw_G (b := 1) (q := q) F hW (by decide) (by omega) 2 (by decide) fl_RX7_201 rfl (ty := .int) rfl rfl rfl dX7_turned_61 (fun H locs hW => ?_)
            have hW : XW D cs ad n ρ' (va_up TT 1 (upT C_5 q 2 ((C_5 q 2) ^^^ (1 <<< ((nI i) &&& 31))))) τ σ A s s.heap H locs := by rw [bx_uu] at hW; exact hW
            refine lv_aload_n hx hb dX7_turned_64 rfl (lv_at hl 2 rfl) ?_
            refine lv_aload_n hx hb dX7_turned_65 rfl (lv_at hl 2 rfl) ?_
            refine xr_O F hW 9 (by decide) rfl fl_RX7_62 dX7_turned_66 ?_
            refine lv_iload_n hx hb dX7_turned_69 rfl (lv_at hl 3 rfl) ?_
            refine xr_San (q := qt) rfl (by omega) F hW dX7_turned_70 ?_
            refine gw_callVi (As := [.ref (ad (34 + qt))]) (rest := []) F hl.1 hW (fun _ _ hw => va_Nw.warmM hw hE) XE_E (by omega) xe_0 rfl (kX7_firstOther (TT := TT) (X := (upT C_5 q 2 ((C_5 q 2) ^^^ (1 <<< ((nI i) &&& 31))))) (j := qt) (kt := kt) hn6 (ok_upT hCo_C_5 hq6 (fun hz => okG_2 (hCo_C_5.2.2.2.2 q hz) (xor_upto (hCo_C_5.2.2.2.2 q hz).2.2.1 hlt))) hX hqt hkt hkz) pd_yX7_firstOther ml_RX7_247 im_yX7_firstOther se_yX7_firstOther ini_RX7 cd_yX7_firstOther ⟨rfl, rfl⟩ ⟨Nat.le_of_ble_eq_true rfl, Nat.le_of_ble_eq_true rfl⟩ rfl rfl (Nat.le_of_ble_eq_true rfl) ⟨Nat.zero_le _, Nat.zero_le _⟩ dX7_turned_71 (fun r u H locs hp hW _ _ => ?_)
            obtain ⟨ρ_6, X_7⟩ := u
            subst hp
            refine lv_as (z := foS (xLx n τ) (σ (34 + qt + 4)) kt (upT C_5 q 2 ((C_5 q 2) ^^^ (1 <<< ((nI i) &&& 31))))) rfl ?_
            refine lv_as (z := foS (xLx n τ) (σ (34 + qt + 4)) kt (upT (TT 0) q 2 (TT 0 q 2 ^^^ oneS (nI i)))) (EqT.sfo (hC_C_5.put hq6 2 (fun hz => by rw [hC_C_5.2.2.2 q hz 2 (by decide)])) (ok_upT hCo_C_5 hq6 (fun hz => okG_2 (hCo_C_5.2.2.2.2 q hz) (xor_upto (hCo_C_5.2.2.2.2 q hz).2.2.1 hlt))) _ _ _) ?_
            refine lv_iconst (v := (-1)) hx hb dX7_turned_74 (by decide) ?_
            refine lv_icmp_ne (tgt := 87) hx hb dX7_turned_75 (by decide) (fun c_8 => ?_) (fun c_8 => ?_)
            ·
              refine lv_iinc (v := nI (i + 1)) (lv' := [(5, .int (nI (i + 1))), (4, .int ff), (0, .ref (ad 0)), (1, .int (nI qt)), (2, .int (nI q)), (3, .int v_1)]) hx hb dX7_turned_87 hl (k := 0) rfl (nI_1 i) (by decide) rfl (fun ls hl => ?_)
              refine lv_goto (tgt := 32) hx hb dX7_turned_90 (by decide) ?_
              exact ih32 (i + 1) _ _ _ (by omega) (by omega) (by show (if _ = -1 then _ else _) = _; rw [if_neg c_8]; exact hF) _ _ _ hW (lv_sub hl [0, 1, 2, 3, 4, 5] rfl)
            ·
              refine lv_iload hx hb dX7_turned_78 (lv_at hl 1 rfl) ?_
              refine lv_iconst (v := 1) hx hb dX7_turned_80 (by decide) ?_
              refine lv_iload hx hb dX7_turned_81 (lv_at hl 0 rfl) ?_
              refine lv_ishl hx hb dX7_turned_83 ?_
              refine lv_ior hx hb dX7_turned_84 ?_
              refine lv_topi (fun v_9 ev_9 => ?_)
              refine lv_istore (lv' := [(4, .int v_9), (5, .int (nI i)), (0, .ref (ad 0)), (1, .int (nI qt)), (2, .int (nI q)), (3, .int v_1)]) hx hb dX7_turned_85 hl (by decide) rfl (fun ls hl => ?_)
              refine lv_iinc (v := nI (i + 1)) (lv' := [(5, .int (nI (i + 1))), (4, .int v_9), (0, .ref (ad 0)), (1, .int (nI qt)), (2, .int (nI q)), (3, .int v_1)]) hx hb dX7_turned_87 hl (k := 1) rfl (nI_1 i) (by decide) rfl (fun ls hl => ?_)
              refine lv_goto (tgt := 32) hx hb dX7_turned_90 (by decide) ?_
              exact ih32 (i + 1) _ _ _ (by omega) (by omega) (by show (if _ = -1 then _ ||| _ else _) = _; rw [if_pos c_8, hF, ev_9]; rfl) _ _ _ hW (lv_sub hl [0, 1, 2, 3, 4, 5] rfl)
      exact L32 (10 + 1) 0 _ _ _ (Nat.zero_le _) (by omega) (rfl) _ _ _ hW (lv_sub hl [0, 1, 3, 4, 5, 2] rfl)
    ·
      refine lv_bipush (v := (-5)) hx hb dX7_turned_23 (by decide) ?_
      exact hret (-5) (ρ, (TT 1)) _ _ _ _ _ hW rfl rfl (by unfold turnedP; rw [if_pos htal, if_pos c_3]) dX7_turned_25
  ·
    refine lv_iload_n hx hb dX7_turned_10 rfl (lv_at hl 0 rfl) ?_
    exact hret v_1 (ρ, (TT 1)) _ _ _ _ _ hW rfl rfl (by unfold turnedP; rw [if_neg (by rw [← ev_1]; exact c_2)]; exact ev_1) dX7_turned_11
abbrev rm_yX7_feared : Room := { frames := 7, cells := 0, slots := 0, locals := 161 }
set_option maxHeartbeats 800000 in
set_option maxRecDepth 100000 in
theorem kX7_feared {l : Launch} {D : va_G} {cs : Nat → ClassId} {ad : Nat → Nat} {n : Nat} {ρ σ : Nat → Nat → Int32} {TT τ : Nat → Nat → Nat → Int32} {sz : Nat} {z : Int32} (hO : okO n TT τ σ) (hSh : okS σ) : XMi l yX7_feared cX7_feared 5 FieldType.int rm_yX7_feared [.ref (ad 0), .int z] D cs ad n ρ TT τ σ sz (fun (r : Int32) (u : (Nat → Nat → Int32) × Tb) => r = fearedP (xLx n τ) (TT 0) (soX σ) (siX σ) (nuX σ) z) (fun u : (Nat → Nat → Int32) × Tb => xent ad cs n u.1 (va_up TT 1 u.2) τ σ) := by
  refine gw_stI (Ff := fun u : (Nat → Nat → Int32) × Tb => xent ad cs n u.1 (va_up TT 1 u.2) τ σ) (own := RX7) (by decide +kernel) rfl (Nat.le_of_ble_eq_true rfl) ?_
  intro p e s m ar below meth c A Q F hE hsz hW hret ls hl
  obtain ⟨hx, hb, hml, hown, hts⟩ := id F
  have hl : lv_has ls 5 [(0, .ref (ad 0)), (1, .int z)] := hl
  obtain ⟨hn1, hn6, hT, hX, hc, hnum⟩ := hO
  have hs6 := hT.1
  have hsN := hT.2.1
  have ht0 : (TT 0 6 3).toNatClampNeg < n := hT.2.2.1
  have hW : XW D cs ad n ρ (va_up TT 1 (TT 1)) τ σ A s s.heap s.heap [] := by rw [va_up_eta]; exact hW
  refine lv_aload_n hx hb dX7_feared_0 rfl (lv_at hl 0 rfl) ?_
  refine lv_iload_n hx hb dX7_feared_1 rfl (lv_at hl 1 rfl) ?_
  refine gw_callVi (As := [.int z]) (rest := []) F hl.1 hW (fun _ _ hw => va_Nw.warmM hw hE) XE_E (by omega) xe_0 rfl (kX7_refusalOfTale) pd_yX7_refusalOfTale ml_RX7_244 im_yX7_refusalOfTale se_yX7_refusalOfTale ini_RX7 cd_yX7_refusalOfTale ⟨rfl, rfl⟩ ⟨Nat.le_of_ble_eq_true rfl, Nat.le_of_ble_eq_true rfl⟩ rfl rfl (Nat.le_of_ble_eq_true rfl) ⟨Nat.zero_le _, Nat.zero_le _⟩ dX7_feared_2 (fun r u H locs hp hW _ _ => ?_)
  subst hp
  refine lv_as (z := talP (soX σ) (siX σ) z) rfl ?_
  refine lv_topi (fun v_1 ev_1 => ?_)
  refine lv_istore_n (lv' := [(2, .int v_1), (0, .ref (ad 0)), (1, .int z)]) hx hb dX7_feared_5 rfl hl (by decide) rfl (fun ls hl => ?_)
  refine lv_iload_n hx hb dX7_feared_6 rfl (lv_at hl 0 rfl) ?_
  refine lv_if_eq (tgt := 12) hx hb dX7_feared_7 (by decide) (fun c_2 => ?_) (fun c_2 => ?_)
  ·
    have htal := (show talP (soX σ) (siX σ) _ = 0 from (ev_1.symm.trans c_2)); obtain ⟨qt, kt, hqt, hkt, rfl, hkz⟩ := tal_ok hSh htal; have hiqt : iN (nI qt) = qt := iN_nI (by omega); have hik : iN (siX σ qt) = kt := by show iN (σ (34 + qt) 2) = kt; rw [hkz]; exact iN_nI (by omega)
    refine lv_iconst (v := 0) hx hb dX7_feared_12 (by decide) ?_
    refine lv_istore_n (lv' := [(3, .int 0), (2, .int v_1), (0, .ref (ad 0)), (1, .int (nI qt))]) hx hb dX7_feared_13 rfl hl (by decide) rfl (fun ls hl => ?_)
    refine lv_iconst (v := 0) hx hb dX7_feared_14 (by decide) ?_
    refine lv_istore (lv' := [(4, .int 0), (3, .int 0), (2, .int v_1), (0, .ref (ad 0)), (1, .int (nI qt))]) hx hb dX7_feared_15 hl (by decide) rfl (fun ls hl => ?_)
    have L17 : ∀ (k : Nat) (i : Nat) (ρ' : Nat → Nat → Int32) (X : Tb) (ff : Int32), (i ≤ seatsN (TT 0)) → (seatsN (TT 0) + 1 ≤ i + k) → (fitK (fun v => foS (xLx n τ) (σ (34 + qt + 4)) kt (upT (TT 0) v 6 (if TT 0 v 6 = 0 then 1 else 0))) i = ff) → ∀ (H : Heap) (locs : List Loc) (ls : Array Slot), XW D cs ad n ρ' (va_up TT 1 X) τ σ A s s.heap H locs → lv_has ls 5 [(4, .int (nI i)), (3, .int ff), (0, .ref (ad 0)), (1, .int (nI qt)), (2, .int v_1)] → W p l e rm_yX7_feared s m ar below meth c H locs 0 0 Q (F0 m 17 ls []) := by
      intro k
      induction k with
      | zero => intro i ρ' X ff h1 h2 hF; exact absurd h2 (by omega)
      | succ k ih17 =>
        intro i ρ' X ff h1 h2 hF H locs ls hW hl
        refine lv_iload hx hb dX7_feared_17 (lv_at hl 0 rfl) ?_
        refine lv_aload_n hx hb dX7_feared_19 rfl (lv_at hl 2 rfl) ?_
        refine xr_O F hW 5 (by decide) rfl fl_RX7_50 dX7_feared_20 ?_
        refine xr_Ti (b := 0) F hW (by decide) 1 (by decide) fl_RX7_67 dX7_feared_23 ?_
        refine lv_as (z := TT 0 6 1) rfl ?_
        refine lv_as (z := nI (seatsN (TT 0))) (hsN) ?_
        refine lv_icmp_ge (tgt := 94) hx hb dX7_feared_26 (by decide) (fun c_3 => ?_) (fun c_3 => ?_)
        ·
          obtain rfl : i = seatsN (TT 0) := by have := mi_le c_3 (by omega) (by omega); omega
          refine lv_iload_n hx hb dX7_feared_94 rfl (lv_at hl 1 rfl) ?_
          exact hret ff (ρ', X) _ _ _ _ _ hW rfl rfl (by unfold fearedP; rw [if_pos htal, hiqt, hik]; exact hF.symm) dX7_feared_95
        ·
          have hlt : i < seatsN (TT 0) := mi_nle c_3 (by omega) (by omega); have hi6 : i < 6 := (by omega)
          refine lv_aload_n hx hb dX7_feared_29 rfl (lv_at hl 2 rfl) ?_
          refine gw_callVv (As := []) (rest := []) F hl.1 hW (fun _ _ hw => va_Nw.warmM hw hE) XE_E (by omega) xe_0 rfl (kX7_think (TT := TT) (X := X) hT) pd_yX7_think ml_RX7_207 im_yX7_think se_yX7_think ini_RX7 cd_yX7_think ⟨rfl, rfl⟩ ⟨Nat.le_of_ble_eq_true rfl, Nat.le_of_ble_eq_true rfl⟩ rfl rfl (Nat.le_of_ble_eq_true rfl) ⟨Nat.zero_le _, Nat.zero_le _⟩ dX7_feared_30 (fun C_4 H locs hp hW _ _ => ?_)
          have hC_C_4 : EqT C_4 (TT 0) := hp
          have hCo_C_4 : okT n C_4 := hC_C_4.symm.ok hT
          have hCs_C_4 : seatsN C_4 = seatsN (TT 0) := hC_C_4.seats
          refine lv_aload_n hx hb dX7_feared_33 rfl (lv_at hl 2 rfl) ?_
          refine xr_O F hW 6 (by decide) rfl fl_RX7_54 dX7_feared_34 ?_
          refine xr_Tg (b := 1) F hW (by decide) fl_RX7_128 dX7_feared_37 ?_
          refine lv_iload hx hb dX7_feared_40 (lv_at hl 0 rfl) ?_
          refine xr_Rn (b := 1) (q := i) rfl (by omega) F hW (by decide) dX7_feared_42 ?_
          refine lv_aload_n hx hb dX7_feared_43 rfl (lv_at hl 2 rfl) ?_
          refine xr_O F hW 6 (by decide) rfl fl_RX7_54 dX7_feared_44 ?_
          refine xr_Tg (b := 1) F hW (by decide) fl_RX7_128 dX7_feared_47 ?_
          refine lv_iload hx hb dX7_feared_50 (lv_at hl 0 rfl) ?_
          refine xr_Rn (b := 1) (q := i) rfl (by omega) F hW (by decide) dX7_feared_52 ?_
          refine xr_G (b := 1) (q := i) F hW (by decide) (by omega) 6 (by decide) fl_RX7_228 dX7_feared_53 ?_
          refine lv_as (z := C_4 i 6) rfl ?_
          refine lv_if_ne (tgt := 63) hx hb dX7_feared_56 (by decide) (fun c_5 => ?_) (fun c_5 => ?_)
          ·
            refine lv_iconst (v := 0) hx hb dX7_feared_63 (by decide) ?_
            refine xw_G (b := 1) (q := i) F hW (by decide) (by omega) 6 (by decide) fl_RX7_228 rfl (ty := .boolean) rfl rfl rfl dX7_feared_64 (fun H locs hW => ?_)
            have hW : XW D cs ad n ρ' (va_up TT 1 (upT C_4 i 6 0)) τ σ A s s.heap H locs := by rw [bx_uu] at hW; exact hW
            refine lv_aload_n hx hb dX7_feared_67 rfl (lv_at hl 2 rfl) ?_
            refine lv_aload_n hx hb dX7_feared_68 rfl (lv_at hl 2 rfl) ?_
            refine xr_O F hW 9 (by decide) rfl fl_RX7_62 dX7_feared_69 ?_
            refine lv_iload_n hx hb dX7_feared_72 rfl (lv_at hl 3 rfl) ?_
            refine xr_San (q := qt) rfl (by omega) F hW dX7_feared_73 ?_
            refine gw_callVi (As := [.ref (ad (34 + qt))]) (rest := []) F hl.1 hW (fun _ _ hw => va_Nw.warmM hw hE) XE_E (by omega) xe_0 rfl (kX7_firstOther (TT := TT) (X := (upT C_4 i 6 0)) (j := qt) (kt := kt) hn6 (ok_upT hCo_C_4 hi6 (fun hz => okG_6 (hCo_C_4.2.2.2.2 i hz) (Or.inl rfl))) hX hqt hkt hkz) pd_yX7_firstOther ml_RX7_247 im_yX7_firstOther se_yX7_firstOther ini_RX7 cd_yX7_firstOther ⟨rfl, rfl⟩ ⟨Nat.le_of_ble_eq_true rfl, Nat.le_of_ble_eq_true rfl⟩ rfl rfl (Nat.le_of_ble_eq_true rfl) ⟨Nat.zero_le _, Nat.zero_le _⟩ dX7_feared_74 (fun r u H locs hp hW _ _ => ?_)
            obtain ⟨ρ_6, X_7⟩ := u
            subst hp
            refine lv_as (z := foS (xLx n τ) (σ (34 + qt + 4)) kt (upT C_4 i 6 0)) rfl ?_
            refine lv_as (z := foS (xLx n τ) (σ (34 + qt + 4)) kt (upT (TT 0) i 6 (if TT 0 i 6 = 0 then 1 else 0))) (EqT.sfo (hC_C_4.put hi6 6 (fun hz => by rw [← hC_C_4.2.2.2 i hz 6 (by decide), if_neg c_5])) (ok_upT hCo_C_4 hi6 (fun hz => okG_6 (hCo_C_4.2.2.2.2 i hz) (Or.inl rfl))) _ _ _) ?_
            refine lv_iconst (v := (-1)) hx hb dX7_feared_77 (by decide) ?_
            refine lv_icmp_ne (tgt := 88) hx hb dX7_feared_78 (by decide) (fun c_8 => ?_) (fun c_8 => ?_)
            ·
              refine lv_iinc (v := nI (i + 1)) (lv' := [(4, .int (nI (i + 1))), (3, .int ff), (0, .ref (ad 0)), (1, .int (nI qt)), (2, .int v_1)]) hx hb dX7_feared_88 hl (k := 0) rfl (nI_1 i) (by decide) rfl (fun ls hl => ?_)
              refine lv_goto (tgt := 17) hx hb dX7_feared_91 (by decide) ?_
              exact ih17 (i + 1) _ _ _ (by omega) (by omega) (by show (if _ = -1 then _ else _) = _; rw [if_neg c_8]; exact hF) _ _ _ hW (lv_sub hl [0, 1, 2, 3, 4] rfl)
            ·
              refine lv_iload_n hx hb dX7_feared_81 rfl (lv_at hl 1 rfl) ?_
              refine lv_iconst (v := 1) hx hb dX7_feared_82 (by decide) ?_
              refine lv_iload hx hb dX7_feared_83 (lv_at hl 0 rfl) ?_
              refine lv_ishl hx hb dX7_feared_85 ?_
              refine lv_ior hx hb dX7_feared_86 ?_
              refine lv_topi (fun v_9 ev_9 => ?_)
              refine lv_istore_n (lv' := [(3, .int v_9), (4, .int (nI i)), (0, .ref (ad 0)), (1, .int (nI qt)), (2, .int v_1)]) hx hb dX7_feared_87 rfl hl (by decide) rfl (fun ls hl => ?_)
              refine lv_iinc (v := nI (i + 1)) (lv' := [(4, .int (nI (i + 1))), (3, .int v_9), (0, .ref (ad 0)), (1, .int (nI qt)), (2, .int v_1)]) hx hb dX7_feared_88 hl (k := 1) rfl (nI_1 i) (by decide) rfl (fun ls hl => ?_)
              refine lv_goto (tgt := 17) hx hb dX7_feared_91 (by decide) ?_
              exact ih17 (i + 1) _ _ _ (by omega) (by omega) (by show (if _ = -1 then _ ||| _ else _) = _; rw [if_pos c_8, hF, ev_9]; rfl) _ _ _ hW (lv_sub hl [0, 1, 2, 3, 4] rfl)
          ·
            refine lv_iconst (v := 1) hx hb dX7_feared_59 (by decide) ?_
            refine lv_goto (tgt := 64) hx hb dX7_feared_60 (by decide) ?_
            refine xw_G (b := 1) (q := i) F hW (by decide) (by omega) 6 (by decide) fl_RX7_228 rfl (ty := .boolean) rfl rfl rfl dX7_feared_64 (fun H locs hW => ?_)
            have hW : XW D cs ad n ρ' (va_up TT 1 (upT C_4 i 6 1)) τ σ A s s.heap H locs := by rw [bx_uu] at hW; exact hW
            refine lv_aload_n hx hb dX7_feared_67 rfl (lv_at hl 2 rfl) ?_
            refine lv_aload_n hx hb dX7_feared_68 rfl (lv_at hl 2 rfl) ?_
            refine xr_O F hW 9 (by decide) rfl fl_RX7_62 dX7_feared_69 ?_
            refine lv_iload_n hx hb dX7_feared_72 rfl (lv_at hl 3 rfl) ?_
            refine xr_San (q := qt) rfl (by omega) F hW dX7_feared_73 ?_
            refine gw_callVi (As := [.ref (ad (34 + qt))]) (rest := []) F hl.1 hW (fun _ _ hw => va_Nw.warmM hw hE) XE_E (by omega) xe_0 rfl (kX7_firstOther (TT := TT) (X := (upT C_4 i 6 1)) (j := qt) (kt := kt) hn6 (ok_upT hCo_C_4 hi6 (fun hz => okG_6 (hCo_C_4.2.2.2.2 i hz) (Or.inr rfl))) hX hqt hkt hkz) pd_yX7_firstOther ml_RX7_247 im_yX7_firstOther se_yX7_firstOther ini_RX7 cd_yX7_firstOther ⟨rfl, rfl⟩ ⟨Nat.le_of_ble_eq_true rfl, Nat.le_of_ble_eq_true rfl⟩ rfl rfl (Nat.le_of_ble_eq_true rfl) ⟨Nat.zero_le _, Nat.zero_le _⟩ dX7_feared_74 (fun r u H locs hp hW _ _ => ?_)
            obtain ⟨ρ_10, X_11⟩ := u
            subst hp
            refine lv_as (z := foS (xLx n τ) (σ (34 + qt + 4)) kt (upT C_4 i 6 1)) rfl ?_
            refine lv_as (z := foS (xLx n τ) (σ (34 + qt + 4)) kt (upT (TT 0) i 6 (if TT 0 i 6 = 0 then 1 else 0))) (EqT.sfo (hC_C_4.put hi6 6 (fun hz => by rw [← hC_C_4.2.2.2 i hz 6 (by decide), if_pos c_5])) (ok_upT hCo_C_4 hi6 (fun hz => okG_6 (hCo_C_4.2.2.2.2 i hz) (Or.inr rfl))) _ _ _) ?_
            refine lv_iconst (v := (-1)) hx hb dX7_feared_77 (by decide) ?_
            refine lv_icmp_ne (tgt := 88) hx hb dX7_feared_78 (by decide) (fun c_12 => ?_) (fun c_12 => ?_)
            ·
              refine lv_iinc (v := nI (i + 1)) (lv' := [(4, .int (nI (i + 1))), (3, .int ff), (0, .ref (ad 0)), (1, .int (nI qt)), (2, .int v_1)]) hx hb dX7_feared_88 hl (k := 0) rfl (nI_1 i) (by decide) rfl (fun ls hl => ?_)
              refine lv_goto (tgt := 17) hx hb dX7_feared_91 (by decide) ?_
              exact ih17 (i + 1) _ _ _ (by omega) (by omega) (by show (if _ = -1 then _ else _) = _; rw [if_neg c_12]; exact hF) _ _ _ hW (lv_sub hl [0, 1, 2, 3, 4] rfl)
            ·
              refine lv_iload_n hx hb dX7_feared_81 rfl (lv_at hl 1 rfl) ?_
              refine lv_iconst (v := 1) hx hb dX7_feared_82 (by decide) ?_
              refine lv_iload hx hb dX7_feared_83 (lv_at hl 0 rfl) ?_
              refine lv_ishl hx hb dX7_feared_85 ?_
              refine lv_ior hx hb dX7_feared_86 ?_
              refine lv_topi (fun v_13 ev_13 => ?_)
              refine lv_istore_n (lv' := [(3, .int v_13), (4, .int (nI i)), (0, .ref (ad 0)), (1, .int (nI qt)), (2, .int v_1)]) hx hb dX7_feared_87 rfl hl (by decide) rfl (fun ls hl => ?_)
              refine lv_iinc (v := nI (i + 1)) (lv' := [(4, .int (nI (i + 1))), (3, .int v_13), (0, .ref (ad 0)), (1, .int (nI qt)), (2, .int v_1)]) hx hb dX7_feared_88 hl (k := 1) rfl (nI_1 i) (by decide) rfl (fun ls hl => ?_)
              refine lv_goto (tgt := 17) hx hb dX7_feared_91 (by decide) ?_
              exact ih17 (i + 1) _ _ _ (by omega) (by omega) (by show (if _ = -1 then _ ||| _ else _) = _; rw [if_pos c_12, hF, ev_13]; rfl) _ _ _ hW (lv_sub hl [0, 1, 2, 3, 4] rfl)
    exact L17 (seatsN (TT 0) + 1) 0 _ _ _ (Nat.zero_le _) (by omega) (rfl) _ _ _ hW (lv_sub hl [0, 1, 3, 4, 2] rfl)
  ·
    refine lv_iload_n hx hb dX7_feared_10 rfl (lv_at hl 0 rfl) ?_
    exact hret v_1 (ρ, (TT 1)) _ _ _ _ _ hW rfl rfl (by unfold fearedP; rw [if_neg (by rw [← ev_1]; exact c_2)]; exact ev_1) dX7_feared_11
abbrev rm_yX7_laws : Room := { frames := 7, cells := 0, slots := 0, locals := 161 }
set_option maxHeartbeats 800000 in
set_option maxRecDepth 100000 in
theorem kX7_laws {l : Launch} {D : va_G} {cs : Nat → ClassId} {ad : Nat → Nat} {n : Nat} {ρ σ : Nat → Nat → Int32} {TT τ : Nat → Nat → Nat → Int32} {sz : Nat} {z : Int32} (hO : okO n TT τ σ) (hSh : okS σ) : XMi l yX7_laws cX7_laws 5 FieldType.int rm_yX7_laws [.ref (ad 0), .int z] D cs ad n ρ TT τ σ sz (fun (r : Int32) (u : (Nat → Nat → Int32) × Tb) => r = lawsP (xLx n τ) (TT 0) n (soX σ) (siX σ) (nuX σ) z) (fun u : (Nat → Nat → Int32) × Tb => xent ad cs n u.1 (va_up TT 1 u.2) τ σ) := by
  refine gw_stI (Ff := fun u : (Nat → Nat → Int32) × Tb => xent ad cs n u.1 (va_up TT 1 u.2) τ σ) (own := RX7) (by decide +kernel) rfl (Nat.le_of_ble_eq_true rfl) ?_
  intro p e s m ar below meth c A Q F hE hsz hW hret ls hl
  obtain ⟨hx, hb, hml, hown, hts⟩ := id F
  have hl : lv_has ls 5 [(0, .ref (ad 0)), (1, .int z)] := hl
  obtain ⟨hn1, hn6, hT, hX, hc, hnum⟩ := hO
  have hs6 := hT.1
  have hsN := hT.2.1
  have ht0 : (TT 0 6 3).toNatClampNeg < n := hT.2.2.1
  have hW : XW D cs ad n ρ (va_up TT 1 (TT 1)) τ σ A s s.heap s.heap [] := by rw [va_up_eta]; exact hW
  refine lv_aload_n hx hb dX7_laws_0 rfl (lv_at hl 0 rfl) ?_
  refine lv_iload_n hx hb dX7_laws_1 rfl (lv_at hl 1 rfl) ?_
  refine gw_callVi (As := [.int z]) (rest := []) F hl.1 hW (fun _ _ hw => va_Nw.warmM hw hE) XE_E (by omega) xe_0 rfl (kX7_refusalOfTale) pd_yX7_refusalOfTale ml_RX7_244 im_yX7_refusalOfTale se_yX7_refusalOfTale ini_RX7 cd_yX7_refusalOfTale ⟨rfl, rfl⟩ ⟨Nat.le_of_ble_eq_true rfl, Nat.le_of_ble_eq_true rfl⟩ rfl rfl (Nat.le_of_ble_eq_true rfl) ⟨Nat.zero_le _, Nat.zero_le _⟩ dX7_laws_2 (fun r u H locs hp hW _ _ => ?_)
  subst hp
  refine lv_as (z := talP (soX σ) (siX σ) z) rfl ?_
  refine lv_topi (fun v_1 ev_1 => ?_)
  refine lv_istore_n (lv' := [(2, .int v_1), (0, .ref (ad 0)), (1, .int z)]) hx hb dX7_laws_5 rfl hl (by decide) rfl (fun ls hl => ?_)
  refine lv_iload_n hx hb dX7_laws_6 rfl (lv_at hl 0 rfl) ?_
  refine lv_if_eq (tgt := 12) hx hb dX7_laws_7 (by decide) (fun c_2 => ?_) (fun c_2 => ?_)
  ·
    have htal := (show talP (soX σ) (siX σ) _ = 0 from (ev_1.symm.trans c_2)); obtain ⟨qt, kt, hqt, hkt, rfl, hkz⟩ := tal_ok hSh htal; have hiqt : iN (nI qt) = qt := iN_nI (by omega); have hik : iN (siX σ qt) = kt := by show iN (σ (34 + qt) 2) = kt; rw [hkz]; exact iN_nI (by omega)
    refine lv_iconst (v := 0) hx hb dX7_laws_12 (by decide) ?_
    refine lv_istore_n (lv' := [(3, .int 0), (2, .int v_1), (0, .ref (ad 0)), (1, .int (nI qt))]) hx hb dX7_laws_13 rfl hl (by decide) rfl (fun ls hl => ?_)
    refine lv_iconst (v := 0) hx hb dX7_laws_14 (by decide) ?_
    refine lv_istore (lv' := [(4, .int 0), (3, .int 0), (2, .int v_1), (0, .ref (ad 0)), (1, .int (nI qt))]) hx hb dX7_laws_15 hl (by decide) rfl (fun ls hl => ?_)
    have L17 : ∀ (k : Nat) (i : Nat) (ρ' : Nat → Nat → Int32) (X : Tb) (ff : Int32), (i ≤ n) → (n + 1 ≤ i + k) → (fitK (fun v => foS (xLx n τ) (σ (34 + qt + 4)) kt (upT (TT 0) 6 3 (nI v))) i = ff) → ∀ (H : Heap) (locs : List Loc) (ls : Array Slot), XW D cs ad n ρ' (va_up TT 1 X) τ σ A s s.heap H locs → lv_has ls 5 [(4, .int (nI i)), (3, .int ff), (0, .ref (ad 0)), (1, .int (nI qt)), (2, .int v_1)] → W p l e rm_yX7_laws s m ar below meth c H locs 0 0 Q (F0 m 17 ls []) := by
      intro k
      induction k with
      | zero => intro i ρ' X ff h1 h2 hF; exact absurd h2 (by omega)
      | succ k ih17 =>
        intro i ρ' X ff h1 h2 hF H locs ls hW hl
        refine lv_iload hx hb dX7_laws_17 (lv_at hl 0 rfl) ?_
        refine lv_aload_n hx hb dX7_laws_19 rfl (lv_at hl 2 rfl) ?_
        refine xr_O F hW 4 (by decide) rfl fl_RX7_41 dX7_laws_20 ?_
        refine lv_as (z := nI n) (hc) ?_
        refine lv_icmp_ge (tgt := 71) hx hb dX7_laws_23 (by decide) (fun c_3 => ?_) (fun c_3 => ?_)
        ·
          obtain rfl : i = n := by have := mi_le c_3 (by omega) (by omega); omega
          refine lv_iload_n hx hb dX7_laws_71 rfl (lv_at hl 1 rfl) ?_
          exact hret ff (ρ', X) _ _ _ _ _ hW rfl rfl (by unfold lawsP; rw [if_pos htal, hiqt, hik]; exact hF.symm) dX7_laws_72
        ·
          have hlt : i < n := mi_nle c_3 (by omega) (by omega)
          refine lv_aload_n hx hb dX7_laws_26 rfl (lv_at hl 2 rfl) ?_
          refine gw_callVv (As := []) (rest := []) F hl.1 hW (fun _ _ hw => va_Nw.warmM hw hE) XE_E (by omega) xe_0 rfl (kX7_think (TT := TT) (X := X) hT) pd_yX7_think ml_RX7_207 im_yX7_think se_yX7_think ini_RX7 cd_yX7_think ⟨rfl, rfl⟩ ⟨Nat.le_of_ble_eq_true rfl, Nat.le_of_ble_eq_true rfl⟩ rfl rfl (Nat.le_of_ble_eq_true rfl) ⟨Nat.zero_le _, Nat.zero_le _⟩ dX7_laws_27 (fun C_4 H locs hp hW _ _ => ?_)
          have hC_C_4 : EqT C_4 (TT 0) := hp
          have hCo_C_4 : okT n C_4 := hC_C_4.symm.ok hT
          have hCs_C_4 : seatsN C_4 = seatsN (TT 0) := hC_C_4.seats
          refine lv_aload_n hx hb dX7_laws_30 rfl (lv_at hl 2 rfl) ?_
          refine xr_O F hW 6 (by decide) rfl fl_RX7_54 dX7_laws_31 ?_
          refine lv_aload_n hx hb dX7_laws_34 rfl (lv_at hl 2 rfl) ?_
          refine xr_O F hW 3 (by decide) rfl fl_RX7_34 dX7_laws_35 ?_
          refine lv_iload hx hb dX7_laws_38 (lv_at hl 0 rfl) ?_
          refine xr_Xan (q := i) rfl (by omega) (by omega) F hW dX7_laws_40 ?_
          refine xw_Tl (b := 1) (v := nI i) (nI_clamp (by omega)) F hW (by decide) fl_RX7_83 dX7_laws_41 (fun H locs hW => ?_)
          have hW : XW D cs ad n ρ' (va_up TT 1 (upT C_4 6 3 (nI i))) τ σ A s s.heap H locs := by rw [bx_uu] at hW; exact hW
          refine lv_aload_n hx hb dX7_laws_44 rfl (lv_at hl 2 rfl) ?_
          refine lv_aload_n hx hb dX7_laws_45 rfl (lv_at hl 2 rfl) ?_
          refine xr_O F hW 9 (by decide) rfl fl_RX7_62 dX7_laws_46 ?_
          refine lv_iload_n hx hb dX7_laws_49 rfl (lv_at hl 3 rfl) ?_
          refine xr_San (q := qt) rfl (by omega) F hW dX7_laws_50 ?_
          refine gw_callVi (As := [.ref (ad (34 + qt))]) (rest := []) F hl.1 hW (fun _ _ hw => va_Nw.warmM hw hE) XE_E (by omega) xe_0 rfl (kX7_firstOther (TT := TT) (X := (upT C_4 6 3 (nI i))) (j := qt) (kt := kt) hn6 (ok_law hCo_C_4 hlt hn6) hX hqt hkt hkz) pd_yX7_firstOther ml_RX7_247 im_yX7_firstOther se_yX7_firstOther ini_RX7 cd_yX7_firstOther ⟨rfl, rfl⟩ ⟨Nat.le_of_ble_eq_true rfl, Nat.le_of_ble_eq_true rfl⟩ rfl rfl (Nat.le_of_ble_eq_true rfl) ⟨Nat.zero_le _, Nat.zero_le _⟩ dX7_laws_51 (fun r u H locs hp hW _ _ => ?_)
          obtain ⟨ρ_5, X_6⟩ := u
          subst hp
          refine lv_as (z := foS (xLx n τ) (σ (34 + qt + 4)) kt (upT C_4 6 3 (nI i))) rfl ?_
          refine lv_as (z := foS (xLx n τ) (σ (34 + qt + 4)) kt (upT (TT 0) 6 3 (nI i))) (EqT.sfo (hC_C_4.law (nI i)) (ok_law hCo_C_4 hlt hn6) _ _ _) ?_
          refine lv_iconst (v := (-1)) hx hb dX7_laws_54 (by decide) ?_
          refine lv_icmp_ne (tgt := 65) hx hb dX7_laws_55 (by decide) (fun c_7 => ?_) (fun c_7 => ?_)
          ·
            refine lv_iinc (v := nI (i + 1)) (lv' := [(4, .int (nI (i + 1))), (3, .int ff), (0, .ref (ad 0)), (1, .int (nI qt)), (2, .int v_1)]) hx hb dX7_laws_65 hl (k := 0) rfl (nI_1 i) (by decide) rfl (fun ls hl => ?_)
            refine lv_goto (tgt := 17) hx hb dX7_laws_68 (by decide) ?_
            exact ih17 (i + 1) _ _ _ (by omega) (by omega) (by show (if _ = -1 then _ else _) = _; rw [if_neg c_7]; exact hF) _ _ _ hW (lv_sub hl [0, 1, 2, 3, 4] rfl)
          ·
            refine lv_iload_n hx hb dX7_laws_58 rfl (lv_at hl 1 rfl) ?_
            refine lv_iconst (v := 1) hx hb dX7_laws_59 (by decide) ?_
            refine lv_iload hx hb dX7_laws_60 (lv_at hl 0 rfl) ?_
            refine lv_ishl hx hb dX7_laws_62 ?_
            refine lv_ior hx hb dX7_laws_63 ?_
            refine lv_topi (fun v_8 ev_8 => ?_)
            refine lv_istore_n (lv' := [(3, .int v_8), (4, .int (nI i)), (0, .ref (ad 0)), (1, .int (nI qt)), (2, .int v_1)]) hx hb dX7_laws_64 rfl hl (by decide) rfl (fun ls hl => ?_)
            refine lv_iinc (v := nI (i + 1)) (lv' := [(4, .int (nI (i + 1))), (3, .int v_8), (0, .ref (ad 0)), (1, .int (nI qt)), (2, .int v_1)]) hx hb dX7_laws_65 hl (k := 1) rfl (nI_1 i) (by decide) rfl (fun ls hl => ?_)
            refine lv_goto (tgt := 17) hx hb dX7_laws_68 (by decide) ?_
            exact ih17 (i + 1) _ _ _ (by omega) (by omega) (by show (if _ = -1 then _ ||| _ else _) = _; rw [if_pos c_7, hF, ev_8]; rfl) _ _ _ hW (lv_sub hl [0, 1, 2, 3, 4] rfl)
    exact L17 (n + 1) 0 _ _ _ (Nat.zero_le _) (by omega) (rfl) _ _ _ hW (lv_sub hl [0, 1, 3, 4, 2] rfl)
  ·
    refine lv_iload_n hx hb dX7_laws_10 rfl (lv_at hl 0 rfl) ?_
    exact hret v_1 (ρ, (TT 1)) _ _ _ _ _ hW rfl rfl (by unfold lawsP; rw [if_neg (by rw [← ev_1]; exact c_2)]; exact ev_1) dX7_laws_11
abbrev rm_yX7_states : Room := { frames := 7, cells := 0, slots := 0, locals := 161 }
set_option maxHeartbeats 800000 in
set_option maxRecDepth 100000 in
theorem kX7_states {l : Launch} {D : va_G} {cs : Nat → ClassId} {ad : Nat → Nat} {n : Nat} {ρ σ : Nat → Nat → Int32} {TT τ : Nat → Nat → Nat → Int32} {sz : Nat} {z pp w0 w1 : Int32} (hO : okO n TT τ σ) (hSh : okS σ) : XMi l yX7_states cX7_states 9 FieldType.int rm_yX7_states [.ref (ad 0), .int z, .int pp, .int w0, .int w1] D cs ad n ρ TT τ σ sz (fun (r : Int32) (u : (Nat → Nat → Int32) × Tb) => r = statesP (xLx n τ) (TT 0) (soX σ) (siX σ) (nuX σ) z pp w0 w1) (fun u : (Nat → Nat → Int32) × Tb => xent ad cs n u.1 (va_up TT 1 u.2) τ σ) := by
  refine gw_stI (Ff := fun u : (Nat → Nat → Int32) × Tb => xent ad cs n u.1 (va_up TT 1 u.2) τ σ) (own := RX7) (by decide +kernel) rfl (Nat.le_of_ble_eq_true rfl) ?_
  intro p e s m ar below meth c A Q F hE hsz hW hret ls hl
  obtain ⟨hx, hb, hml, hown, hts⟩ := id F
  have hl : lv_has ls 9 [(0, .ref (ad 0)), (1, .int z), (2, .int pp), (3, .int w0), (4, .int w1)] := hl
  obtain ⟨hn1, hn6, hT, hX, hc, hnum⟩ := hO
  have hs6 := hT.1
  have hsN := hT.2.1
  have ht0 : (TT 0 6 3).toNatClampNeg < n := hT.2.2.1
  have hW : XW D cs ad n ρ (va_up TT 1 (TT 1)) τ σ A s s.heap s.heap [] := by rw [va_up_eta]; exact hW
  refine lv_aload_n hx hb dX7_states_0 rfl (lv_at hl 0 rfl) ?_
  refine lv_iload_n hx hb dX7_states_1 rfl (lv_at hl 1 rfl) ?_
  refine gw_callVi (As := [.int z]) (rest := []) F hl.1 hW (fun _ _ hw => va_Nw.warmM hw hE) XE_E (by omega) xe_0 rfl (kX7_refusalOfTale) pd_yX7_refusalOfTale ml_RX7_244 im_yX7_refusalOfTale se_yX7_refusalOfTale ini_RX7 cd_yX7_refusalOfTale ⟨rfl, rfl⟩ ⟨Nat.le_of_ble_eq_true rfl, Nat.le_of_ble_eq_true rfl⟩ rfl rfl (Nat.le_of_ble_eq_true rfl) ⟨Nat.zero_le _, Nat.zero_le _⟩ dX7_states_2 (fun r u H locs hp hW _ _ => ?_)
  subst hp
  refine lv_as (z := talP (soX σ) (siX σ) z) rfl ?_
  refine lv_topi (fun v_1 ev_1 => ?_)
  refine lv_istore (lv' := [(5, .int v_1), (0, .ref (ad 0)), (1, .int z), (2, .int pp), (3, .int w0), (4, .int w1)]) hx hb dX7_states_5 hl (by decide) rfl (fun ls hl => ?_)
  refine lv_iload hx hb dX7_states_7 (lv_at hl 0 rfl) ?_
  refine lv_if_eq (tgt := 15) hx hb dX7_states_9 (by decide) (fun c_2 => ?_) (fun c_2 => ?_)
  ·
    have htal := (show talP (soX σ) (siX σ) _ = 0 from (ev_1.symm.trans c_2)); obtain ⟨qt, kt, hqt, hkt, rfl, hkz⟩ := tal_ok hSh htal; have hiqt : iN (nI qt) = qt := iN_nI (by omega); have hik : iN (siX σ qt) = kt := by show iN (σ (34 + qt) 2) = kt; rw [hkz]; exact iN_nI (by omega)
    refine lv_aload_n hx hb dX7_states_15 rfl (lv_at hl 1 rfl) ?_
    refine xr_O F hW 5 (by decide) rfl fl_RX7_50 dX7_states_16 ?_
    refine lv_iload_n hx hb dX7_states_19 rfl (lv_at hl 3 rfl) ?_
    refine gw_callVi (As := [.int pp]) (rest := []) F hl.1 hW (fun _ _ hw => va_Nw.warmM hw hE) XE_E (by omega) (xe_T (b := 0) (by decide)) rfl (kX4_seatsOne (b := 0) (by decide)) pd_yX4_seatsOne ml_RX7_125 im_yX4_seatsOne se_yX4_seatsOne ini_RX4 cd_yX4_seatsOne ⟨rfl, rfl⟩ ⟨Nat.le_of_ble_eq_true rfl, Nat.le_of_ble_eq_true rfl⟩ rfl rfl (Nat.le_of_ble_eq_true rfl) ⟨Nat.zero_le _, Nat.zero_le _⟩ dX7_states_20 (fun r u H locs hp hW _ _ => ?_)
    subst hp
    refine lv_as (z := oneP (TT 0) pp) rfl ?_
    refine lv_if_ne (tgt := 29) hx hb dX7_states_23 (by decide) (fun c_3 => ?_) (fun c_3 => ?_)
    ·
      obtain ⟨q, hq, rfl⟩ := one_nat hT c_3; have hq6 : q < 6 := seats_le hT hq; have hiq : iN (nI q) = q := iN_nI (by omega); have hG := hT.2.2.2.2 q hq
      refine lv_iload_n hx hb dX7_states_29 rfl (lv_at hl 4 rfl) ?_
      refine lv_iconst (v := 1) hx hb dX7_states_30 (by decide) ?_
      refine lv_icmp_eq (tgt := 39) hx hb dX7_states_31 (by decide) (fun c_4 => ?_) (fun c_4 => ?_)
      ·
        obtain rfl := c_4
        refine lv_iload hx hb dX7_states_39 (lv_at hl 5 rfl) ?_
        refine gw_callP (As := [.int w1]) (rest := []) F hl.1 (kX7_isChoice) pd_yX7_isChoice ml_RX7_216 st_yX7_isChoice ini_RX7 cd_yX7_isChoice ⟨rfl, rfl⟩ ⟨Nat.le_of_ble_eq_true rfl, Nat.le_of_ble_eq_true rfl⟩ rfl rfl (Nat.le_of_ble_eq_true rfl) ⟨Nat.zero_le _, Nat.zero_le _⟩ dX7_states_41 ?_
        refine lv_as (z := choP w1) rfl ?_
        refine lv_if_ne (tgt := 50) hx hb dX7_states_44 (by decide) (fun c_5 => ?_) (fun c_5 => ?_)
        ·
          refine lv_iconst (v := 0) hx hb dX7_states_50 (by decide) ?_
          refine lv_istore (lv' := [(6, .int 0), (5, .int v_1), (0, .ref (ad 0)), (1, .int (nI qt)), (2, .int (nI q)), (3, .int 1), (4, .int w1)]) hx hb dX7_states_51 hl (by decide) rfl (fun ls hl => ?_)
          refine lv_iconst (v := (-1)) hx hb dX7_states_53 (by decide) ?_
          refine lv_istore (lv' := [(7, .int (-1)), (6, .int 0), (5, .int v_1), (0, .ref (ad 0)), (1, .int (nI qt)), (2, .int (nI q)), (3, .int 1), (4, .int w1)]) hx hb dX7_states_54 hl (by decide) rfl (fun ls hl => ?_)
          refine lv_iconst (v := 0) hx hb dX7_states_56 (by decide) ?_
          refine lv_istore (lv' := [(8, .int 0), (7, .int (-1)), (6, .int 0), (5, .int v_1), (0, .ref (ad 0)), (1, .int (nI qt)), (2, .int (nI q)), (3, .int 1), (4, .int w1)]) hx hb dX7_states_57 hl (by decide) rfl (fun ls hl => ?_)
          have L59 : ∀ (k : Nat) (i : Nat) (ρ' : Nat → Nat → Int32) (X : Tb) (cc ll : Int32), (i ≤ 100) → (101 ≤ i + k) → (stK (fun v => foS (xLx n τ) (σ (34 + qt + 4)) kt (upT (TT 0) q 3 (nI v))) i = (cc, ll)) → ∀ (H : Heap) (locs : List Loc) (ls : Array Slot), XW D cs ad n ρ' (va_up TT 1 X) τ σ A s s.heap H locs → lv_has ls 9 [(8, .int (nI i)), (6, .int cc), (7, .int ll), (0, .ref (ad 0)), (1, .int (nI qt)), (2, .int (nI q)), (3, .int 1), (4, .int w1), (5, .int v_1)] → W p l e rm_yX7_states s m ar below meth c H locs 0 0 Q (F0 m 59 ls []) := by
            intro k
            induction k with
            | zero => intro i ρ' X cc ll h1 h2 hF; exact absurd h2 (by omega)
            | succ k ih59 =>
              intro i ρ' X cc ll h1 h2 hF H locs ls hW hl
              refine lv_iload hx hb dX7_states_59 (lv_at hl 0 rfl) ?_
              refine lv_bipush (v := 99) hx hb dX7_states_61 (by decide) ?_
              refine lv_icmp_gt (tgt := 123) hx hb dX7_states_63 (by decide) (fun c_6 => ?_) (fun c_6 => ?_)
              ·
                obtain rfl : i = 100 := by have := mi_lt (a := 99) (b := i) c_6 (by decide) (by omega); omega
                refine lv_iload hx hb dX7_states_123 (lv_at hl 7 rfl) ?_
                refine lv_if_ne (tgt := 133) hx hb dX7_states_125 (by decide) (fun c_7 => ?_) (fun c_7 => ?_)
                ·
                  refine lv_iload hx hb dX7_states_133 (lv_at hl 2 rfl) ?_
                  exact hret ll (ρ', X) _ _ _ _ _ hW rfl rfl (by unfold statesP; rw [if_pos htal, if_neg c_3, if_pos (by decide), if_neg c_5, hiqt, hik, hiq]; exact (show pickS _ _ _ = _ from by unfold pickS; rw [if_neg c_7]; exact congrArg Prod.snd hF).symm) dX7_states_135
                ·
                  refine lv_iload hx hb dX7_states_128 (lv_at hl 1 rfl) ?_
                  refine lv_goto (tgt := 135) hx hb dX7_states_130 (by decide) ?_
                  exact hret cc (ρ', X) _ _ _ _ _ hW rfl rfl (by unfold statesP; rw [if_pos htal, if_neg c_3, if_pos (by decide), if_neg c_5, hiqt, hik, hiq]; exact (show pickS _ _ _ = _ from by unfold pickS; rw [if_pos c_7]; exact congrArg Prod.fst hF).symm) dX7_states_135
              ·
                have hlt : i < 100 := by have := mi_nlt (a := 99) (b := i) c_6 (by decide) (by omega); omega
                refine lv_aload_n hx hb dX7_states_66 rfl (lv_at hl 3 rfl) ?_
                refine gw_callVv (As := []) (rest := []) F hl.1 hW (fun _ _ hw => va_Nw.warmM hw hE) XE_E (by omega) xe_0 rfl (kX7_think (TT := TT) (X := X) hT) pd_yX7_think ml_RX7_207 im_yX7_think se_yX7_think ini_RX7 cd_yX7_think ⟨rfl, rfl⟩ ⟨Nat.le_of_ble_eq_true rfl, Nat.le_of_ble_eq_true rfl⟩ rfl rfl (Nat.le_of_ble_eq_true rfl) ⟨Nat.zero_le _, Nat.zero_le _⟩ dX7_states_67 (fun C_8 H locs hp hW _ _ => ?_)
                have hC_C_8 : EqT C_8 (TT 0) := hp
                have hCo_C_8 : okT n C_8 := hC_C_8.symm.ok hT
                have hCs_C_8 : seatsN C_8 = seatsN (TT 0) := hC_C_8.seats
                refine lv_aload_n hx hb dX7_states_70 rfl (lv_at hl 3 rfl) ?_
                refine xr_O F hW 6 (by decide) rfl fl_RX7_54 dX7_states_71 ?_
                refine xr_Tg (b := 1) F hW (by decide) fl_RX7_128 dX7_states_74 ?_
                refine lv_iload_n hx hb dX7_states_77 rfl (lv_at hl 5 rfl) ?_
                refine xr_Rn (b := 1) (q := q) rfl (by omega) F hW (by decide) dX7_states_78 ?_
                refine lv_iload_n hx hb dX7_states_79 rfl (lv_at hl 6 rfl) ?_
                refine lv_iload hx hb dX7_states_80 (lv_at hl 0 rfl) ?_
                refine gw_callVv (As := [.int 1, .int (nI i)]) (rest := []) F hl.1 hW (fun _ _ hw => va_Nw.warmM hw hE) XE_E (by omega) (xe_G (b := 1) (q := q) (by decide) (by omega)) rfl (kX0_setState (b := 1) (q := q) (by decide) (by omega)) pd_yX0_setState ml_RX7_148 im_yX0_setState se_yX0_setState ini_RX0 cd_yX0_setState ⟨rfl, rfl⟩ ⟨Nat.le_of_ble_eq_true rfl, Nat.le_of_ble_eq_true rfl⟩ rfl rfl (Nat.le_of_ble_eq_true rfl) ⟨Nat.zero_le _, Nat.zero_le _⟩ dX7_states_82 (fun TT_9 H locs hp hW _ _ => ?_)
                rw [bx_uu] at hp
                subst hp
                have hW : XW D cs ad n ρ' (va_up TT 1 (upT C_8 q 3 (nI i))) τ σ A s s.heap H locs := hW
                refine lv_aload_n hx hb dX7_states_85 rfl (lv_at hl 3 rfl) ?_
                refine lv_aload_n hx hb dX7_states_86 rfl (lv_at hl 3 rfl) ?_
                refine xr_O F hW 9 (by decide) rfl fl_RX7_62 dX7_states_87 ?_
                refine lv_iload_n hx hb dX7_states_90 rfl (lv_at hl 4 rfl) ?_
                refine xr_San (q := qt) rfl (by omega) F hW dX7_states_91 ?_
                refine gw_callVi (As := [.ref (ad (34 + qt))]) (rest := []) F hl.1 hW (fun _ _ hw => va_Nw.warmM hw hE) XE_E (by omega) xe_0 rfl (kX7_firstOther (TT := TT) (X := (upT C_8 q 3 (nI i))) (j := qt) (kt := kt) hn6 (ok_upT hCo_C_8 hq6 (fun hz => okG_3 (hCo_C_8.2.2.2.2 q hz) ⟨i, hlt, rfl⟩)) hX hqt hkt hkz) pd_yX7_firstOther ml_RX7_247 im_yX7_firstOther se_yX7_firstOther ini_RX7 cd_yX7_firstOther ⟨rfl, rfl⟩ ⟨Nat.le_of_ble_eq_true rfl, Nat.le_of_ble_eq_true rfl⟩ rfl rfl (Nat.le_of_ble_eq_true rfl) ⟨Nat.zero_le _, Nat.zero_le _⟩ dX7_states_92 (fun r u H locs hp hW _ _ => ?_)
                obtain ⟨ρ_10, X_11⟩ := u
                subst hp
                refine lv_as (z := foS (xLx n τ) (σ (34 + qt + 4)) kt (upT C_8 q 3 (nI i))) rfl ?_
                refine lv_as (z := foS (xLx n τ) (σ (34 + qt + 4)) kt (upT (TT 0) q 3 (nI i))) (EqT.sfo (hC_C_8.over (n := n) hq6 3 (nI i)) (ok_upT hCo_C_8 hq6 (fun hz => okG_3 (hCo_C_8.2.2.2.2 q hz) ⟨i, hlt, rfl⟩)) _ _ _) ?_
                refine lv_iconst (v := (-1)) hx hb dX7_states_95 (by decide) ?_
                refine lv_icmp_ne (tgt := 117) hx hb dX7_states_96 (by decide) (fun c_12 => ?_) (fun c_12 => ?_)
                ·
                  refine lv_iinc (v := nI (i + 1)) (lv' := [(8, .int (nI (i + 1))), (6, .int cc), (7, .int ll), (0, .ref (ad 0)), (1, .int (nI qt)), (2, .int (nI q)), (3, .int 1), (4, .int w1), (5, .int v_1)]) hx hb dX7_states_117 hl (k := 0) rfl (nI_1 i) (by decide) rfl (fun ls hl => ?_)
                  refine lv_goto (tgt := 59) hx hb dX7_states_120 (by decide) ?_
                  exact ih59 (i + 1) _ _ _ _ (by omega) (by omega) (by show (if _ = -1 then _ else _) = _; rw [if_neg c_12]; exact hF) _ _ _ hW (lv_sub hl [0, 1, 2, 3, 4, 5, 6, 7, 8] rfl)
                ·
                  obtain ⟨v_13, ev_13⟩ : ∃ z : Int32, z = cc + 1 := ⟨_, rfl⟩
                  refine lv_iinc (v := v_13) (lv' := [(6, .int v_13), (8, .int (nI i)), (7, .int ll), (0, .ref (ad 0)), (1, .int (nI qt)), (2, .int (nI q)), (3, .int 1), (4, .int w1), (5, .int v_1)]) hx hb dX7_states_99 hl (k := 1) rfl (by rw [ev_13]; rfl) (by decide) rfl (fun ls hl => ?_)
                  refine lv_iload hx hb dX7_states_102 (lv_at hl 2 rfl) ?_
                  refine lv_iconst (v := (-1)) hx hb dX7_states_104 (by decide) ?_
                  refine lv_icmp_ne (tgt := 113) hx hb dX7_states_105 (by decide) (fun c_14 => ?_) (fun c_14 => ?_)
                  ·
                    refine lv_iload hx hb dX7_states_113 (lv_at hl 2 rfl) ?_
                    refine lv_istore (lv' := [(7, .int ll), (6, .int v_13), (8, .int (nI i)), (0, .ref (ad 0)), (1, .int (nI qt)), (2, .int (nI q)), (3, .int 1), (4, .int w1), (5, .int v_1)]) hx hb dX7_states_115 hl (by decide) rfl (fun ls hl => ?_)
                    refine lv_iinc (v := nI (i + 1)) (lv' := [(8, .int (nI (i + 1))), (7, .int ll), (6, .int v_13), (0, .ref (ad 0)), (1, .int (nI qt)), (2, .int (nI q)), (3, .int 1), (4, .int w1), (5, .int v_1)]) hx hb dX7_states_117 hl (k := 2) rfl (nI_1 i) (by decide) rfl (fun ls hl => ?_)
                    refine lv_goto (tgt := 59) hx hb dX7_states_120 (by decide) ?_
                    exact ih59 (i + 1) _ _ _ _ (by omega) (by omega) (by show (if _ = -1 then _ else _) = _; rw [if_pos c_12, hF]; show (cc + 1, if ll = -1 then nI i else ll) = _; rw [if_neg c_14, ev_13]) _ _ _ hW (lv_sub hl [0, 2, 1, 3, 4, 5, 6, 7, 8] rfl)
                  ·
                    refine lv_iload hx hb dX7_states_108 (lv_at hl 1 rfl) ?_
                    refine lv_goto (tgt := 115) hx hb dX7_states_110 (by decide) ?_
                    refine lv_istore (lv' := [(7, .int (nI i)), (6, .int v_13), (8, .int (nI i)), (0, .ref (ad 0)), (1, .int (nI qt)), (2, .int (nI q)), (3, .int 1), (4, .int w1), (5, .int v_1)]) hx hb dX7_states_115 hl (by decide) rfl (fun ls hl => ?_)
                    refine lv_iinc (v := nI (i + 1)) (lv' := [(8, .int (nI (i + 1))), (7, .int (nI i)), (6, .int v_13), (0, .ref (ad 0)), (1, .int (nI qt)), (2, .int (nI q)), (3, .int 1), (4, .int w1), (5, .int v_1)]) hx hb dX7_states_117 hl (k := 2) rfl (nI_1 i) (by decide) rfl (fun ls hl => ?_)
                    refine lv_goto (tgt := 59) hx hb dX7_states_120 (by decide) ?_
                    exact ih59 (i + 1) _ _ _ _ (by omega) (by omega) (by show (if _ = -1 then _ else _) = _; rw [if_pos c_12, hF]; show (cc + 1, if ll = -1 then nI i else ll) = _; rw [if_pos c_14, ev_13]) _ _ _ hW (lv_sub hl [0, 2, 1, 3, 4, 5, 6, 7, 8] rfl)
          exact L59 101 0 _ _ _ _ (Nat.zero_le _) (by omega) (rfl) _ _ _ hW (lv_sub hl [0, 2, 1, 4, 5, 6, 7, 8, 3] rfl)
        ·
          refine lv_bipush (v := (-7)) hx hb dX7_states_47 (by decide) ?_
          exact hret (-7) (ρ, (TT 1)) _ _ _ _ _ hW rfl rfl (by unfold statesP; rw [if_pos htal, if_neg c_3, if_pos (by decide), if_pos c_5]) dX7_states_49
      ·
        refine lv_iload_n hx hb dX7_states_34 rfl (lv_at hl 4 rfl) ?_
        refine lv_iconst (v := 2) hx hb dX7_states_35 (by decide) ?_
        refine lv_icmp_ne (tgt := 47) hx hb dX7_states_36 (by decide) (fun c_15 => ?_) (fun c_15 => ?_)
        ·
          refine lv_bipush (v := (-7)) hx hb dX7_states_47 (by decide) ?_
          exact hret (-7) (ρ, (TT 1)) _ _ _ _ _ hW rfl rfl (by unfold statesP; rw [if_pos htal, if_neg c_3, if_neg (fun z => z.elim c_4 c_15)]) dX7_states_49
        ·
          obtain rfl := c_15
          refine lv_iload hx hb dX7_states_39 (lv_at hl 5 rfl) ?_
          refine gw_callP (As := [.int w1]) (rest := []) F hl.1 (kX7_isChoice) pd_yX7_isChoice ml_RX7_216 st_yX7_isChoice ini_RX7 cd_yX7_isChoice ⟨rfl, rfl⟩ ⟨Nat.le_of_ble_eq_true rfl, Nat.le_of_ble_eq_true rfl⟩ rfl rfl (Nat.le_of_ble_eq_true rfl) ⟨Nat.zero_le _, Nat.zero_le _⟩ dX7_states_41 ?_
          refine lv_as (z := choP w1) rfl ?_
          refine lv_if_ne (tgt := 50) hx hb dX7_states_44 (by decide) (fun c_16 => ?_) (fun c_16 => ?_)
          ·
            refine lv_iconst (v := 0) hx hb dX7_states_50 (by decide) ?_
            refine lv_istore (lv' := [(6, .int 0), (5, .int v_1), (0, .ref (ad 0)), (1, .int (nI qt)), (2, .int (nI q)), (3, .int 2), (4, .int w1)]) hx hb dX7_states_51 hl (by decide) rfl (fun ls hl => ?_)
            refine lv_iconst (v := (-1)) hx hb dX7_states_53 (by decide) ?_
            refine lv_istore (lv' := [(7, .int (-1)), (6, .int 0), (5, .int v_1), (0, .ref (ad 0)), (1, .int (nI qt)), (2, .int (nI q)), (3, .int 2), (4, .int w1)]) hx hb dX7_states_54 hl (by decide) rfl (fun ls hl => ?_)
            refine lv_iconst (v := 0) hx hb dX7_states_56 (by decide) ?_
            refine lv_istore (lv' := [(8, .int 0), (7, .int (-1)), (6, .int 0), (5, .int v_1), (0, .ref (ad 0)), (1, .int (nI qt)), (2, .int (nI q)), (3, .int 2), (4, .int w1)]) hx hb dX7_states_57 hl (by decide) rfl (fun ls hl => ?_)
            have L59 : ∀ (k : Nat) (i : Nat) (ρ' : Nat → Nat → Int32) (X : Tb) (cc ll : Int32), (i ≤ 100) → (101 ≤ i + k) → (stK (fun v => foS (xLx n τ) (σ (34 + qt + 4)) kt (upT (TT 0) q 4 (nI v))) i = (cc, ll)) → ∀ (H : Heap) (locs : List Loc) (ls : Array Slot), XW D cs ad n ρ' (va_up TT 1 X) τ σ A s s.heap H locs → lv_has ls 9 [(8, .int (nI i)), (6, .int cc), (7, .int ll), (0, .ref (ad 0)), (1, .int (nI qt)), (2, .int (nI q)), (3, .int 2), (4, .int w1), (5, .int v_1)] → W p l e rm_yX7_states s m ar below meth c H locs 0 0 Q (F0 m 59 ls []) := by
              intro k
              induction k with
              | zero => intro i ρ' X cc ll h1 h2 hF; exact absurd h2 (by omega)
              | succ k ih59 =>
                intro i ρ' X cc ll h1 h2 hF H locs ls hW hl
                refine lv_iload hx hb dX7_states_59 (lv_at hl 0 rfl) ?_
                refine lv_bipush (v := 99) hx hb dX7_states_61 (by decide) ?_
                refine lv_icmp_gt (tgt := 123) hx hb dX7_states_63 (by decide) (fun c_17 => ?_) (fun c_17 => ?_)
                ·
                  obtain rfl : i = 100 := by have := mi_lt (a := 99) (b := i) c_17 (by decide) (by omega); omega
                  refine lv_iload hx hb dX7_states_123 (lv_at hl 7 rfl) ?_
                  refine lv_if_ne (tgt := 133) hx hb dX7_states_125 (by decide) (fun c_18 => ?_) (fun c_18 => ?_)
                  ·
                    refine lv_iload hx hb dX7_states_133 (lv_at hl 2 rfl) ?_
                    exact hret ll (ρ', X) _ _ _ _ _ hW rfl rfl (by unfold statesP; rw [if_pos htal, if_neg c_3, if_pos (by decide), if_neg c_16, hiqt, hik, hiq]; exact (show pickS _ _ _ = _ from by unfold pickS; rw [if_neg c_18]; exact congrArg Prod.snd hF).symm) dX7_states_135
                  ·
                    refine lv_iload hx hb dX7_states_128 (lv_at hl 1 rfl) ?_
                    refine lv_goto (tgt := 135) hx hb dX7_states_130 (by decide) ?_
                    exact hret cc (ρ', X) _ _ _ _ _ hW rfl rfl (by unfold statesP; rw [if_pos htal, if_neg c_3, if_pos (by decide), if_neg c_16, hiqt, hik, hiq]; exact (show pickS _ _ _ = _ from by unfold pickS; rw [if_pos c_18]; exact congrArg Prod.fst hF).symm) dX7_states_135
                ·
                  have hlt : i < 100 := by have := mi_nlt (a := 99) (b := i) c_17 (by decide) (by omega); omega
                  refine lv_aload_n hx hb dX7_states_66 rfl (lv_at hl 3 rfl) ?_
                  refine gw_callVv (As := []) (rest := []) F hl.1 hW (fun _ _ hw => va_Nw.warmM hw hE) XE_E (by omega) xe_0 rfl (kX7_think (TT := TT) (X := X) hT) pd_yX7_think ml_RX7_207 im_yX7_think se_yX7_think ini_RX7 cd_yX7_think ⟨rfl, rfl⟩ ⟨Nat.le_of_ble_eq_true rfl, Nat.le_of_ble_eq_true rfl⟩ rfl rfl (Nat.le_of_ble_eq_true rfl) ⟨Nat.zero_le _, Nat.zero_le _⟩ dX7_states_67 (fun C_19 H locs hp hW _ _ => ?_)
                  have hC_C_19 : EqT C_19 (TT 0) := hp
                  have hCo_C_19 : okT n C_19 := hC_C_19.symm.ok hT
                  have hCs_C_19 : seatsN C_19 = seatsN (TT 0) := hC_C_19.seats
                  refine lv_aload_n hx hb dX7_states_70 rfl (lv_at hl 3 rfl) ?_
                  refine xr_O F hW 6 (by decide) rfl fl_RX7_54 dX7_states_71 ?_
                  refine xr_Tg (b := 1) F hW (by decide) fl_RX7_128 dX7_states_74 ?_
                  refine lv_iload_n hx hb dX7_states_77 rfl (lv_at hl 5 rfl) ?_
                  refine xr_Rn (b := 1) (q := q) rfl (by omega) F hW (by decide) dX7_states_78 ?_
                  refine lv_iload_n hx hb dX7_states_79 rfl (lv_at hl 6 rfl) ?_
                  refine lv_iload hx hb dX7_states_80 (lv_at hl 0 rfl) ?_
                  refine gw_callVv (As := [.int 2, .int (nI i)]) (rest := []) F hl.1 hW (fun _ _ hw => va_Nw.warmM hw hE) XE_E (by omega) (xe_G (b := 1) (q := q) (by decide) (by omega)) rfl (kX0_setState (b := 1) (q := q) (by decide) (by omega)) pd_yX0_setState ml_RX7_148 im_yX0_setState se_yX0_setState ini_RX0 cd_yX0_setState ⟨rfl, rfl⟩ ⟨Nat.le_of_ble_eq_true rfl, Nat.le_of_ble_eq_true rfl⟩ rfl rfl (Nat.le_of_ble_eq_true rfl) ⟨Nat.zero_le _, Nat.zero_le _⟩ dX7_states_82 (fun TT_20 H locs hp hW _ _ => ?_)
                  rw [bx_uu] at hp
                  subst hp
                  have hW : XW D cs ad n ρ' (va_up TT 1 (upT C_19 q 4 (nI i))) τ σ A s s.heap H locs := hW
                  refine lv_aload_n hx hb dX7_states_85 rfl (lv_at hl 3 rfl) ?_
                  refine lv_aload_n hx hb dX7_states_86 rfl (lv_at hl 3 rfl) ?_
                  refine xr_O F hW 9 (by decide) rfl fl_RX7_62 dX7_states_87 ?_
                  refine lv_iload_n hx hb dX7_states_90 rfl (lv_at hl 4 rfl) ?_
                  refine xr_San (q := qt) rfl (by omega) F hW dX7_states_91 ?_
                  refine gw_callVi (As := [.ref (ad (34 + qt))]) (rest := []) F hl.1 hW (fun _ _ hw => va_Nw.warmM hw hE) XE_E (by omega) xe_0 rfl (kX7_firstOther (TT := TT) (X := (upT C_19 q 4 (nI i))) (j := qt) (kt := kt) hn6 (ok_upT hCo_C_19 hq6 (fun hz => okG_4 (hCo_C_19.2.2.2.2 q hz) ⟨i, hlt, rfl⟩)) hX hqt hkt hkz) pd_yX7_firstOther ml_RX7_247 im_yX7_firstOther se_yX7_firstOther ini_RX7 cd_yX7_firstOther ⟨rfl, rfl⟩ ⟨Nat.le_of_ble_eq_true rfl, Nat.le_of_ble_eq_true rfl⟩ rfl rfl (Nat.le_of_ble_eq_true rfl) ⟨Nat.zero_le _, Nat.zero_le _⟩ dX7_states_92 (fun r u H locs hp hW _ _ => ?_)
                  obtain ⟨ρ_21, X_22⟩ := u
                  subst hp
                  refine lv_as (z := foS (xLx n τ) (σ (34 + qt + 4)) kt (upT C_19 q 4 (nI i))) rfl ?_
                  refine lv_as (z := foS (xLx n τ) (σ (34 + qt + 4)) kt (upT (TT 0) q 4 (nI i))) (EqT.sfo (hC_C_19.over (n := n) hq6 4 (nI i)) (ok_upT hCo_C_19 hq6 (fun hz => okG_4 (hCo_C_19.2.2.2.2 q hz) ⟨i, hlt, rfl⟩)) _ _ _) ?_
                  refine lv_iconst (v := (-1)) hx hb dX7_states_95 (by decide) ?_
                  refine lv_icmp_ne (tgt := 117) hx hb dX7_states_96 (by decide) (fun c_23 => ?_) (fun c_23 => ?_)
                  ·
                    refine lv_iinc (v := nI (i + 1)) (lv' := [(8, .int (nI (i + 1))), (6, .int cc), (7, .int ll), (0, .ref (ad 0)), (1, .int (nI qt)), (2, .int (nI q)), (3, .int 2), (4, .int w1), (5, .int v_1)]) hx hb dX7_states_117 hl (k := 0) rfl (nI_1 i) (by decide) rfl (fun ls hl => ?_)
                    refine lv_goto (tgt := 59) hx hb dX7_states_120 (by decide) ?_
                    exact ih59 (i + 1) _ _ _ _ (by omega) (by omega) (by show (if _ = -1 then _ else _) = _; rw [if_neg c_23]; exact hF) _ _ _ hW (lv_sub hl [0, 1, 2, 3, 4, 5, 6, 7, 8] rfl)
                  ·
                    obtain ⟨v_24, ev_24⟩ : ∃ z : Int32, z = cc + 1 := ⟨_, rfl⟩
                    refine lv_iinc (v := v_24) (lv' := [(6, .int v_24), (8, .int (nI i)), (7, .int ll), (0, .ref (ad 0)), (1, .int (nI qt)), (2, .int (nI q)), (3, .int 2), (4, .int w1), (5, .int v_1)]) hx hb dX7_states_99 hl (k := 1) rfl (by rw [ev_24]; rfl) (by decide) rfl (fun ls hl => ?_)
                    refine lv_iload hx hb dX7_states_102 (lv_at hl 2 rfl) ?_
                    refine lv_iconst (v := (-1)) hx hb dX7_states_104 (by decide) ?_
                    refine lv_icmp_ne (tgt := 113) hx hb dX7_states_105 (by decide) (fun c_25 => ?_) (fun c_25 => ?_)
                    ·
                      refine lv_iload hx hb dX7_states_113 (lv_at hl 2 rfl) ?_
                      refine lv_istore (lv' := [(7, .int ll), (6, .int v_24), (8, .int (nI i)), (0, .ref (ad 0)), (1, .int (nI qt)), (2, .int (nI q)), (3, .int 2), (4, .int w1), (5, .int v_1)]) hx hb dX7_states_115 hl (by decide) rfl (fun ls hl => ?_)
                      refine lv_iinc (v := nI (i + 1)) (lv' := [(8, .int (nI (i + 1))), (7, .int ll), (6, .int v_24), (0, .ref (ad 0)), (1, .int (nI qt)), (2, .int (nI q)), (3, .int 2), (4, .int w1), (5, .int v_1)]) hx hb dX7_states_117 hl (k := 2) rfl (nI_1 i) (by decide) rfl (fun ls hl => ?_)
                      refine lv_goto (tgt := 59) hx hb dX7_states_120 (by decide) ?_
                      exact ih59 (i + 1) _ _ _ _ (by omega) (by omega) (by show (if _ = -1 then _ else _) = _; rw [if_pos c_23, hF]; show (cc + 1, if ll = -1 then nI i else ll) = _; rw [if_neg c_25, ev_24]) _ _ _ hW (lv_sub hl [0, 2, 1, 3, 4, 5, 6, 7, 8] rfl)
                    ·
                      refine lv_iload hx hb dX7_states_108 (lv_at hl 1 rfl) ?_
                      refine lv_goto (tgt := 115) hx hb dX7_states_110 (by decide) ?_
                      refine lv_istore (lv' := [(7, .int (nI i)), (6, .int v_24), (8, .int (nI i)), (0, .ref (ad 0)), (1, .int (nI qt)), (2, .int (nI q)), (3, .int 2), (4, .int w1), (5, .int v_1)]) hx hb dX7_states_115 hl (by decide) rfl (fun ls hl => ?_)
                      refine lv_iinc (v := nI (i + 1)) (lv' := [(8, .int (nI (i + 1))), (7, .int (nI i)), (6, .int v_24), (0, .ref (ad 0)), (1, .int (nI qt)), (2, .int (nI q)), (3, .int 2), (4, .int w1), (5, .int v_1)]) hx hb dX7_states_117 hl (k := 2) rfl (nI_1 i) (by decide) rfl (fun ls hl => ?_)
                      refine lv_goto (tgt := 59) hx hb dX7_states_120 (by decide) ?_
                      exact ih59 (i + 1) _ _ _ _ (by omega) (by omega) (by show (if _ = -1 then _ else _) = _; rw [if_pos c_23, hF]; show (cc + 1, if ll = -1 then nI i else ll) = _; rw [if_pos c_25, ev_24]) _ _ _ hW (lv_sub hl [0, 2, 1, 3, 4, 5, 6, 7, 8] rfl)
            exact L59 101 0 _ _ _ _ (Nat.zero_le _) (by omega) (rfl) _ _ _ hW (lv_sub hl [0, 2, 1, 4, 5, 6, 7, 8, 3] rfl)
          ·
            refine lv_bipush (v := (-7)) hx hb dX7_states_47 (by decide) ?_
            exact hret (-7) (ρ, (TT 1)) _ _ _ _ _ hW rfl rfl (by unfold statesP; rw [if_pos htal, if_neg c_3, if_pos (by decide), if_pos c_16]) dX7_states_49
    ·
      refine lv_bipush (v := (-5)) hx hb dX7_states_26 (by decide) ?_
      exact hret (-5) (ρ, (TT 1)) _ _ _ _ _ hW rfl rfl (by unfold statesP; rw [if_pos htal, if_pos c_3]) dX7_states_28
  ·
    refine lv_iload hx hb dX7_states_12 (lv_at hl 0 rfl) ?_
    exact hret v_1 (ρ, (TT 1)) _ _ _ _ _ hW rfl rfl (by unfold statesP; rw [if_neg (by rw [← ev_1]; exact c_2)]; exact ev_1) dX7_states_14
