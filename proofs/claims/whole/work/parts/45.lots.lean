/-! ===== dinners by lots ===== -/
theorem lv_asl {p : Program} {l : Launch} {e : Env} {R : Room} {s : State} {m : MethodId} {args : Array Value} {below : List Frame} {meth : Method} {c : Code} {H : Heap} {locs : List Loc} {cells slots pc : Nat} {Q : State → Prop} {ls : Array Slot} {rest : List Value} {x z : Int64} (h : x = z) (k : W p l e R s m args below meth c H locs cells slots Q (F0 m pc ls (.long z :: rest))) : W p l e R s m args below meth c H locs cells slots Q (F0 m pc ls (.long x :: rest)) := by rw [h]; exact k
def lotN (w : Nat) : Nat := w * 48271 % 2147483647
def lotT (T : Tb) (p a : Nat) : Tb := if oneP T (nI p) = 0 then T else upT T p 2 (T p 2 ^^^ oneS (nI a))
def lotOne (Lx : Lw) (r : (Tb × Int32) × Nat) : (Tb × Int32) × Nat := (((passS Lx (lotT r.1.1 (lotN r.2 % 6) (lotN (lotN r.2) % 10))).1, r.1.2 + (passS Lx (lotT r.1.1 (lotN r.2 % 6) (lotN (lotN r.2) % 10))).2), lotN (lotN r.2))
def lotK (Lx : Lw) (T : Tb) (w : Nat) : Nat → (Tb × Int32) × Nat
  | 0 => ((T, 0), w)
  | k + 1 => lotOne Lx (lotK Lx T w k)
def drawnP (Lx : Lw) (T : Tb) (z w : Int32) : Int32 := if seedP z = 0 then -2 else if choP w = 0 then -2 else if w = 0 then (lotK Lx T (iN z + 1) 12).1.2 else stuckBS Lx (lotK Lx T (iN z + 1) 12).1.1
def oddK (Lx : Lw) (T : Tb) (z : Nat) (l : Int32) : Nat → Nat
  | 0 => 0
  | k + 1 => if (lotK Lx T (z + k + 1) 12).1.2 < l then oddK Lx T z l k else oddK Lx T z l k + 1
def fracP (a b : Nat) (w : Int32) : Int64 := if w = 0 then lN (a / Nat.gcd a b) else lN (b / Nat.gcd a b)
def oddsP (Lx : Lw) (T : Tb) (z m l w : Int32) : Int64 := if seedP z = 0 then -4611686018427387904 else if m < 1 then -4611686018427387904 else if 40 < m then -4611686018427387904 else if l < 0 then -4611686018427387904 else if 72 < l then -4611686018427387904 else if choP w = 0 then -4611686018427387904 else fracP (oddK Lx T (iN z) l (iN m)) (iN m) w
def meanP (T : Tb) (w : Int32) : Int64 := if choP w = 0 then -4611686018427387904 else if T 6 1 = 0 then -4611686018427387904 else fracP (iN (boredS T)) (seatsN T) w
theorem lot_lt (w : Nat) : lotN w < 2147483647 := Nat.mod_lt _ (by decide)
theorem lot_L {w : Nat} (h : w < 2147483647) : lN w * 48271 - lN w * 48271 / 2147483647 * 2147483647 = lN (lotN w) := by
  rw [show (48271 : Int64) = lN 48271 from rfl, lN_mul, show (2147483647 : Int64) = lN 2147483647 from rfl]
  exact pk_lRem (by omega) (by decide) (by decide)
theorem lot_6 {w : Nat} (h : w < 2147483647) : (lN w - lN w / 6 * 6).toInt32 = nI (w % 6) := by
  rw [show (6 : Int64) = lN 6 from rfl, pk_lRem (by omega) (by decide) (by decide), lN_i]
theorem lot_10 {w : Nat} (h : w < 2147483647) : (lN w - lN w / 10 * 10).toInt32 = nI (w % 10) := by
  rw [show (10 : Int64) = lN 10 from rfl, pk_lRem (by omega) (by decide) (by decide), lN_i]
theorem EqT.onep {T U : Tb} (h : EqT T U) (v : Int32) : oneP T v = oneP U v := by unfold oneP; rw [h.1]
theorem EqT.lot {n : Nat} {T U : Tb} (h : EqT T U) (hT : okT n T) {p a : Nat} (hp : p < 6) : EqT (lotT T p a) (lotT U p a) := by
  unfold lotT
  rw [h.onep]
  by_cases hz : oneP U (nI p) = 0
  · rw [if_pos hz, if_pos hz]; exact h
  · rw [if_neg hz, if_neg hz]
    exact h.put hp 2 (fun hq => by rw [h.2.2.2 p hq 2 (by decide)])
theorem ok_lot {n : Nat} {T : Tb} (hT : okT n T) {p a : Nat} (hp : p < 6) (ha : a < 10) : okT n (lotT T p a) := by
  unfold lotT
  by_cases hz : oneP T (nI p) = 0
  · rw [if_pos hz]; exact hT
  · rw [if_neg hz]; exact ok_upT hT hp (fun hq => okG_2 (hT.2.2.2.2 p hq) (xor_upto (hT.2.2.2.2 p hq).2.2.1 ha))
theorem lot_back {n : Nat} {Lx : Lw} {T X Xn : Tb} {z i w : Nat} {x : Int32} (hXE : EqT X (lotK Lx T z i).1.1) (hxx : x = (lotK Lx T z i).1.2) (hw : w = (lotK Lx T z i).2) (hX : okT n X) (hl : Xn = lotT X (lotN w % 6) (lotN (lotN w) % 10)) :
    okT n Xn ∧ EqT (passS Lx Xn).1 (lotK Lx T z (i + 1)).1.1 ∧ x + (passS Lx Xn).2 = (lotK Lx T z (i + 1)).1.2 ∧ lotN (lotN w) = (lotK Lx T z (i + 1)).2 := by
  have h6 : lotN w % 6 < 6 := Nat.mod_lt _ (by decide)
  have h10 : lotN (lotN w) % 10 < 10 := Nat.mod_lt _ (by decide)
  have hk : okT n Xn := by rw [hl]; exact ok_lot hX h6 h10
  have he : EqT Xn (lotT (lotK Lx T z i).1.1 (lotN w % 6) (lotN (lotN w) % 10)) := by rw [hl]; exact hXE.lot hX h6
  have hp := he.pass hk Lx
  show _ ∧ EqT _ (passS Lx (lotT (lotK Lx T z i).1.1 (lotN (lotK Lx T z i).2 % 6) (lotN (lotN (lotK Lx T z i).2) % 10))).1 ∧ _ = (lotK Lx T z i).1.2 + (passS Lx (lotT (lotK Lx T z i).1.1 (lotN (lotK Lx T z i).2 % 6) (lotN (lotN (lotK Lx T z i).2) % 10))).2 ∧ _ = lotN (lotN (lotK Lx T z i).2)
  rw [← hw, ← hxx]
  exact ⟨hk, hp.1, by rw [hp.2], rfl⟩
theorem seed_nat {v : Int32} (h : ¬ seedP v = 0) : ∃ w, w < 100000 ∧ v = nI w := by
  unfold seedP at h
  by_cases h0 : v < 0
  · rw [if_pos h0] at h; exact absurd rfl h
  · rw [if_neg h0] at h
    by_cases h1 : 100000 ≤ v
    · rw [if_pos h1] at h; exact absurd rfl h
    · exact ge_nat (N := 100000) h0 h1 (by decide)
theorem nI_dec {m : Nat} (h : 0 < m) : nI m + -1 = nI (m - 1) := by
  obtain ⟨k, rfl⟩ : ∃ k, m = k + 1 := ⟨m - 1, by omega⟩
  rw [← Int32.sub_eq_add_neg, nI_pred]; rfl
theorem nI_10 {k : Nat} (hk : k < 2 ^ 31) (h : nI k = 0) : k = 0 := by
  have := congrArg iN h
  rw [iN_nI hk] at this
  exact this
theorem gcd_one {a b : Nat} (hb : 0 < b) {m : Nat} (h : Nat.gcd a b ≤ m) (hm : m ≤ 1) : Nat.gcd a b = 1 := by
  have := Nat.gcd_pos_of_pos_right a hb
  omega
theorem gcd_at {a b m : Nat} {D : Int32} (hI : D = nI (Nat.gcd a b) ∨ (D = 1 ∧ Nat.gcd a b ≤ m)) (hb : 0 < b) (hb2 : b < 2 ^ 31) (hm : 1 < m) (hD : D = 1) (h1 : a % m = 0) (h2 : b % m = 0) : nI m = nI (Nat.gcd a b) := by
  have hg := Nat.gcd_pos_of_pos_right a hb
  have hd : m ∣ Nat.gcd a b := Nat.dvd_gcd (Nat.dvd_of_mod_eq_zero h1) (Nat.dvd_of_mod_eq_zero h2)
  have hle := Nat.le_of_dvd hg hd
  have hgb : Nat.gcd a b ≤ b := Nat.gcd_le_right a hb
  rcases hI with h | ⟨_, h⟩
  · have e := congrArg iN (hD.symm.trans h)
    rw [iN_nI (by omega)] at e
    have e1 : iN 1 = 1 := rfl
    omega
  · rw [Nat.le_antisymm hle h]
theorem gcd_dn {a b m : Nat} {D : Int32} (hI : D = nI (Nat.gcd a b) ∨ (D = 1 ∧ Nat.gcd a b ≤ m)) (hn : ¬ (a % m = 0 ∧ b % m = 0)) : D = nI (Nat.gcd a b) ∨ (D = 1 ∧ Nat.gcd a b ≤ m - 1) := by
  rcases hI with h | ⟨h, h2⟩
  · exact Or.inl h
  · refine Or.inr ⟨h, ?_⟩
    have hne : Nat.gcd a b ≠ m := by
      intro e
      exact hn ⟨by rw [← e]; exact Nat.mod_eq_zero_of_dvd (Nat.gcd_dvd_left a b), by rw [← e]; exact Nat.mod_eq_zero_of_dvd (Nat.gcd_dvd_right a b)⟩
    omega
theorem bored_upto {n : Nat} {T : Tb} (hT : okT n T) : ∀ k, k ≤ seatsN T → ∃ j, j ≤ 100 * k ∧ boredK T k = nI j
  | 0, _ => ⟨0, Nat.le_refl _, rfl⟩
  | k + 1, hk => by
    obtain ⟨j, hj, e⟩ := bored_upto hT k (by omega)
    obtain ⟨i, hi, e2⟩ := (hT.2.2.2.2 k (by omega)).2.2.2.2.1
    refine ⟨j + i, by omega, ?_⟩
    show boredK T k + T k 4 = _
    rw [e, e2, nI_add]
abbrev rm_yX7_actsByLots : Room := { frames := 6, cells := 0, slots := 0, locals := 139 }
set_option maxHeartbeats 800000 in
set_option maxRecDepth 100000 in
theorem kX7_actsByLots {l : Launch} {D : va_G} {cs : Nat → ClassId} {ad : Nat → Nat} {n : Nat} {ρ σ : Nat → Nat → Int32} {TT τ : Nat → Nat → Nat → Int32} {sz : Nat} {z0 : Nat} (hO : okO n TT τ σ) (hz0 : z0 < 2 ^ 30) : XMi l yX7_actsByLots cX7_actsByLots 8 FieldType.int rm_yX7_actsByLots [.ref (ad 0), .int (nI z0)] D cs ad n ρ TT τ σ sz (fun (r : Int32) (u : (Nat → Nat → Int32) × Tb) => r = (lotK (xLx n τ) (TT 0) (z0 + 1) 12).1.2 ∧ EqT u.2 (lotK (xLx n τ) (TT 0) (z0 + 1) 12).1.1 ∧ okT n u.2) (fun u : (Nat → Nat → Int32) × Tb => xent ad cs n u.1 (va_up TT 1 u.2) τ σ) := by
  refine gw_stI (Ff := fun u : (Nat → Nat → Int32) × Tb => xent ad cs n u.1 (va_up TT 1 u.2) τ σ) (own := RX7) (by decide +kernel) rfl (Nat.le_of_ble_eq_true rfl) ?_
  intro p e s m ar below meth c A Q F hE hsz hW hret ls hl
  obtain ⟨hx, hb, hml, hown, hts⟩ := id F
  have hl : lv_has ls 8 [(0, .ref (ad 0)), (1, .int (nI z0))] := hl
  obtain ⟨hn1, hn6, hT, hX, hc, hnum⟩ := hO
  have hs6 := hT.1
  have hsN := hT.2.1
  have ht0 : (TT 0 6 3).toNatClampNeg < n := hT.2.2.1
  have hW : XW D cs ad n ρ (va_up TT 1 (TT 1)) τ σ A s s.heap s.heap [] := by rw [va_up_eta]; exact hW
  refine lv_aload_n hx hb dX7_actsByLots_0 rfl (lv_at hl 0 rfl) ?_
  refine gw_callVv (As := []) (rest := []) F hl.1 hW (fun _ _ hw => va_Nw.warmM hw hE) XE_E (by omega) xe_0 rfl (kX7_think (TT := TT) (X := (TT 1)) hT) pd_yX7_think ml_RX7_207 im_yX7_think se_yX7_think ini_RX7 cd_yX7_think ⟨rfl, rfl⟩ ⟨Nat.le_of_ble_eq_true rfl, Nat.le_of_ble_eq_true rfl⟩ rfl rfl (Nat.le_of_ble_eq_true rfl) ⟨Nat.zero_le _, Nat.zero_le _⟩ dX7_actsByLots_1 (fun C_1 H locs hp hW _ _ => ?_)
  have hC_C_1 : EqT C_1 (TT 0) := hp
  have hCo_C_1 : okT n C_1 := hC_C_1.symm.ok hT
  have hCs_C_1 : seatsN C_1 = seatsN (TT 0) := hC_C_1.seats
  refine lv_iconst (v := 0) hx hb dX7_actsByLots_4 (by decide) ?_
  refine lv_istore_n (lv' := [(2, .int 0), (0, .ref (ad 0)), (1, .int (nI z0))]) hx hb dX7_actsByLots_5 rfl hl (by decide) rfl (fun ls hl => ?_)
  refine lv_iload_n hx hb dX7_actsByLots_6 rfl (lv_at hl 2 rfl) ?_
  refine lv_i2l hx hb dX7_actsByLots_7 rfl ?_
  refine lv_lconst (v := 1) hx hb dX7_actsByLots_8 (by decide) ?_
  refine lv_ladd hx hb dX7_actsByLots_9 ?_
  refine lv_asl (z := lN (z0 + 1)) (by rw [nI_l (by omega), lN_1]) ?_
  refine lv_lstore_n (lv' := [(3, .long (lN (z0 + 1))), (2, .int 0), (0, .ref (ad 0)), (1, .int (nI z0))]) hx hb dX7_actsByLots_10 rfl hl (by decide) rfl (fun ls hl => ?_)
  refine lv_iconst (v := 0) hx hb dX7_actsByLots_11 (by decide) ?_
  refine lv_istore (lv' := [(5, .int 0), (3, .long (lN (z0 + 1))), (2, .int 0), (0, .ref (ad 0)), (1, .int (nI z0))]) hx hb dX7_actsByLots_12 hl (by decide) rfl (fun ls hl => ?_)
  have L14 : ∀ (k : Nat) (i w : Nat) (x : Int32) (ρ' : Nat → Nat → Int32) (X : Tb), (i ≤ 12) → (13 ≤ i + k) → (okT n X) → (EqT X (lotK (xLx n τ) (TT 0) (z0 + 1) i).1.1) → (x = (lotK (xLx n τ) (TT 0) (z0 + 1) i).1.2) → (w = (lotK (xLx n τ) (TT 0) (z0 + 1) i).2) → (w < 2147483647) → ∀ (H : Heap) (locs : List Loc) (ls : Array Slot), XW D cs ad n ρ' (va_up TT 1 X) τ σ A s s.heap H locs → lv_has ls 8 [(5, .int (nI i)), (2, .int x), (3, .long (lN w)), (0, .ref (ad 0)), (1, .int (nI z0))] → W p l e rm_yX7_actsByLots s m ar below meth c H locs 0 0 Q (F0 m 14 ls []) := by
    intro k
    induction k with
    | zero => intro i w x ρ' X h1 h2 hX1 hXE hxx hww hwl; exact absurd h2 (by omega)
    | succ k ih14 =>
      intro i w x ρ' X h1 h2 hX1 hXE hxx hww hwl H locs ls hW hl
      refine lv_iload hx hb dX7_actsByLots_14 (lv_at hl 0 rfl) ?_
      refine lv_bipush (v := 12) hx hb dX7_actsByLots_16 (by decide) ?_
      refine lv_icmp_ge (tgt := 107) hx hb dX7_actsByLots_18 (by decide) (fun c_2 => ?_) (fun c_2 => ?_)
      ·
        obtain rfl : i = 12 := by have := mi_le (a := 12) (b := i) c_2 (by decide) (by omega); omega
        refine lv_iload_n hx hb dX7_actsByLots_107 rfl (lv_at hl 1 rfl) ?_
        exact hret x (ρ', X) _ _ _ _ _ hW rfl rfl (⟨hxx, hXE, hX1⟩) dX7_actsByLots_108
      ·
        have hlt : i < 12 := mi_nle (a := 12) (b := i) c_2 (by decide) (by omega)
        refine lv_lload_n hx hb dX7_actsByLots_21 rfl (lv_at hl 2 rfl) ?_
        refine lv_ldc2 (v := 48271) hx hb hown (hts _ kl_RX7_292) dX7_actsByLots_22 ?_
        refine lv_lmul hx hb dX7_actsByLots_25 ?_
        refine lv_ldc2 (v := 2147483647) hx hb hown (hts _ kl_RX7_294) dX7_actsByLots_26 ?_
        refine lv_lrem hx hb dX7_actsByLots_29 (by decide) ?_
        refine lv_asl (z := lN (lotN w)) (lot_L hwl) ?_
        refine lv_lstore_n (lv' := [(3, .long (lN (lotN w))), (5, .int (nI i)), (2, .int x), (0, .ref (ad 0)), (1, .int (nI z0))]) hx hb dX7_actsByLots_30 rfl hl (by decide) rfl (fun ls hl => ?_)
        refine lv_lload_n hx hb dX7_actsByLots_31 rfl (lv_at hl 0 rfl) ?_
        refine lv_ldc2 (v := 6) hx hb hown (hts _ kl_RX7_296) dX7_actsByLots_32 ?_
        refine lv_lrem hx hb dX7_actsByLots_35 (by decide) ?_
        refine lv_l2i hx hb dX7_actsByLots_36 rfl ?_
        refine lv_as (z := nI (lotN w % 6)) (lot_6 (lot_lt _)) ?_
        refine lv_istore (lv' := [(6, .int (nI (lotN w % 6))), (3, .long (lN (lotN w))), (5, .int (nI i)), (2, .int x), (0, .ref (ad 0)), (1, .int (nI z0))]) hx hb dX7_actsByLots_37 hl (by decide) rfl (fun ls hl => ?_)
        refine lv_lload_n hx hb dX7_actsByLots_39 rfl (lv_at hl 1 rfl) ?_
        refine lv_ldc2 (v := 48271) hx hb hown (hts _ kl_RX7_292) dX7_actsByLots_40 ?_
        refine lv_lmul hx hb dX7_actsByLots_43 ?_
        refine lv_ldc2 (v := 2147483647) hx hb hown (hts _ kl_RX7_294) dX7_actsByLots_44 ?_
        refine lv_lrem hx hb dX7_actsByLots_47 (by decide) ?_
        refine lv_asl (z := lN (lotN (lotN w))) (lot_L (lot_lt _)) ?_
        refine lv_lstore_n (lv' := [(3, .long (lN (lotN (lotN w)))), (6, .int (nI (lotN w % 6))), (5, .int (nI i)), (2, .int x), (0, .ref (ad 0)), (1, .int (nI z0))]) hx hb dX7_actsByLots_48 rfl hl (by decide) rfl (fun ls hl => ?_)
        refine lv_lload_n hx hb dX7_actsByLots_49 rfl (lv_at hl 0 rfl) ?_
        refine lv_ldc2 (v := 10) hx hb hown (hts _ kl_RX7_298) dX7_actsByLots_50 ?_
        refine lv_lrem hx hb dX7_actsByLots_53 (by decide) ?_
        refine lv_l2i hx hb dX7_actsByLots_54 rfl ?_
        refine lv_as (z := nI (lotN (lotN w) % 10)) (lot_10 (lot_lt _)) ?_
        refine lv_istore (lv' := [(7, .int (nI (lotN (lotN w) % 10))), (3, .long (lN (lotN (lotN w)))), (6, .int (nI (lotN w % 6))), (5, .int (nI i)), (2, .int x), (0, .ref (ad 0)), (1, .int (nI z0))]) hx hb dX7_actsByLots_55 hl (by decide) rfl (fun ls hl => ?_)
        have h6 : lotN w % 6 < 6 := Nat.mod_lt _ (by decide)
        refine lv_aload_n hx hb dX7_actsByLots_57 rfl (lv_at hl 5 rfl) ?_
        refine xr_O F hW 6 (by decide) rfl fl_RX7_54 dX7_actsByLots_58 ?_
        refine lv_iload hx hb dX7_actsByLots_61 (lv_at hl 2 rfl) ?_
        refine gw_callVi (As := [.int (nI (lotN w % 6))]) (rest := []) F hl.1 hW (fun _ _ hw => va_Nw.warmM hw hE) XE_E (by omega) (xe_T (b := 1) (by decide)) rfl (kX4_seatsOne (b := 1) (by decide)) pd_yX4_seatsOne ml_RX7_125 im_yX4_seatsOne se_yX4_seatsOne ini_RX4 cd_yX4_seatsOne ⟨rfl, rfl⟩ ⟨Nat.le_of_ble_eq_true rfl, Nat.le_of_ble_eq_true rfl⟩ rfl rfl (Nat.le_of_ble_eq_true rfl) ⟨Nat.zero_le _, Nat.zero_le _⟩ dX7_actsByLots_63 (fun r u H locs hp hW _ _ => ?_)
        subst hp
        refine lv_as (z := oneP X (nI (lotN w % 6))) rfl ?_
        refine lv_if_eq (tgt := 91) hx hb dX7_actsByLots_66 (by decide) (fun c_3 => ?_) (fun c_3 => ?_)
        ·
          have hlb := lot_back (n := n) (Xn := X) hXE hxx hww hX1 (by unfold lotT; rw [if_pos c_3]; first | done | rfl)
          refine lv_iload_n hx hb dX7_actsByLots_91 rfl (lv_at hl 4 rfl) ?_
          refine lv_aload_n hx hb dX7_actsByLots_92 rfl (lv_at hl 5 rfl) ?_
          refine xr_O F hW 6 (by decide) rfl fl_RX7_54 dX7_actsByLots_93 ?_
          refine gw_callVi (As := []) (rest := [.int x]) F hl.1 hW (fun _ _ hw => va_Nw.warmM hw hE) XE_E (by omega) (xe_T (b := 1) (by decide)) rfl (kX4_pass (b := 1) (by decide) hlb.1 hX) pd_yX4_pass ml_RX7_192 im_yX4_pass se_yX4_pass ini_RX4 cd_yX4_pass ⟨rfl, rfl⟩ ⟨Nat.le_of_ble_eq_true rfl, Nat.le_of_ble_eq_true rfl⟩ rfl rfl (Nat.le_of_ble_eq_true rfl) ⟨Nat.zero_le _, Nat.zero_le _⟩ dX7_actsByLots_96 (fun r u H locs hp hW _ _ => ?_)
          obtain ⟨ρ_4, TT_5⟩ := u
          obtain ⟨rfl, hp⟩ := hp
          have hp : TT_5 = va_up TT 1 (passS (xLx n τ) X).1 := hp.trans (bx_uu _ _ _ _)
          subst hp
          refine lv_as (z := (passS (xLx n τ) X).2) rfl ?_
          refine lv_iadd hx hb dX7_actsByLots_99 ?_
          refine lv_topi (fun v_6 ev_6 => ?_)
          refine lv_istore_n (lv' := [(2, .int v_6), (7, .int (nI (lotN (lotN w) % 10))), (3, .long (lN (lotN (lotN w)))), (6, .int (nI (lotN w % 6))), (5, .int (nI i)), (0, .ref (ad 0)), (1, .int (nI z0))]) hx hb dX7_actsByLots_100 rfl hl (by decide) rfl (fun ls hl => ?_)
          refine lv_iinc (v := nI (i + 1)) (lv' := [(5, .int (nI (i + 1))), (2, .int v_6), (7, .int (nI (lotN (lotN w) % 10))), (3, .long (lN (lotN (lotN w)))), (6, .int (nI (lotN w % 6))), (0, .ref (ad 0)), (1, .int (nI z0))]) hx hb dX7_actsByLots_101 hl (k := 4) rfl (nI_1 i) (by decide) rfl (fun ls hl => ?_)
          refine lv_goto (tgt := 14) hx hb dX7_actsByLots_104 (by decide) ?_
          exact ih14 (i + 1) (lotN (lotN w)) _ _ _ (by omega) (by omega) ((ok_pass (Lx := xLx n τ) hlb.1).1) (hlb.2.1) (by rw [ev_6]; exact hlb.2.2.1) (hlb.2.2.2) (lot_lt _) _ _ _ hW (lv_sub hl [0, 1, 3, 5, 6] rfl)
        ·
          refine lv_aload_n hx hb dX7_actsByLots_69 rfl (lv_at hl 5 rfl) ?_
          refine xr_O F hW 6 (by decide) rfl fl_RX7_54 dX7_actsByLots_70 ?_
          refine xr_Tg (b := 1) F hW (by decide) fl_RX7_128 dX7_actsByLots_73 ?_
          refine lv_iload hx hb dX7_actsByLots_76 (lv_at hl 2 rfl) ?_
          refine xr_Rn (b := 1) (q := lotN w % 6) rfl (by omega) F hW (by decide) dX7_actsByLots_78 ?_
          refine lv_dup hx hb dX7_actsByLots_79 rfl ?_
          refine xr_G (b := 1) (q := lotN w % 6) F hW (by decide) (by omega) 2 (by decide) fl_RX7_201 dX7_actsByLots_80 ?_
          refine lv_as (z := X (lotN w % 6) 2) rfl ?_
          refine lv_iconst (v := 1) hx hb dX7_actsByLots_83 (by decide) ?_
          refine lv_iload hx hb dX7_actsByLots_84 (lv_at hl 0 rfl) ?_
          refine lv_ishl hx hb dX7_actsByLots_86 ?_
          refine lv_ixor hx hb dX7_actsByLots_87 ?_
          refine xw_G (b := 1) (q := lotN w % 6) F hW (by decide) (by omega) 2 (by decide) fl_RX7_201 rfl (ty := .int) rfl rfl rfl dX7_actsByLots_88 (fun H locs hW => ?_)
          have hW : XW D cs ad n ρ' (va_up TT 1 (upT X (lotN w % 6) 2 ((X (lotN w % 6) 2) ^^^ (1 <<< ((nI (lotN (lotN w) % 10)) &&& 31))))) τ σ A s s.heap H locs := by rw [bx_uu] at hW; exact hW
          have hlb := lot_back (n := n) (Xn := (upT X (lotN w % 6) 2 ((X (lotN w % 6) 2) ^^^ (1 <<< ((nI (lotN (lotN w) % 10)) &&& 31))))) hXE hxx hww hX1 (by unfold lotT; rw [if_neg c_3]; first | done | rfl)
          refine lv_iload_n hx hb dX7_actsByLots_91 rfl (lv_at hl 4 rfl) ?_
          refine lv_aload_n hx hb dX7_actsByLots_92 rfl (lv_at hl 5 rfl) ?_
          refine xr_O F hW 6 (by decide) rfl fl_RX7_54 dX7_actsByLots_93 ?_
          refine gw_callVi (As := []) (rest := [.int x]) F hl.1 hW (fun _ _ hw => va_Nw.warmM hw hE) XE_E (by omega) (xe_T (b := 1) (by decide)) rfl (kX4_pass (b := 1) (by decide) hlb.1 hX) pd_yX4_pass ml_RX7_192 im_yX4_pass se_yX4_pass ini_RX4 cd_yX4_pass ⟨rfl, rfl⟩ ⟨Nat.le_of_ble_eq_true rfl, Nat.le_of_ble_eq_true rfl⟩ rfl rfl (Nat.le_of_ble_eq_true rfl) ⟨Nat.zero_le _, Nat.zero_le _⟩ dX7_actsByLots_96 (fun r u H locs hp hW _ _ => ?_)
          obtain ⟨ρ_7, TT_8⟩ := u
          obtain ⟨rfl, hp⟩ := hp
          have hp : TT_8 = va_up TT 1 (passS (xLx n τ) (upT X (lotN w % 6) 2 ((X (lotN w % 6) 2) ^^^ (1 <<< ((nI (lotN (lotN w) % 10)) &&& 31))))).1 := hp.trans (bx_uu _ _ _ _)
          subst hp
          refine lv_as (z := (passS (xLx n τ) (upT X (lotN w % 6) 2 ((X (lotN w % 6) 2) ^^^ (1 <<< ((nI (lotN (lotN w) % 10)) &&& 31))))).2) rfl ?_
          refine lv_iadd hx hb dX7_actsByLots_99 ?_
          refine lv_topi (fun v_9 ev_9 => ?_)
          refine lv_istore_n (lv' := [(2, .int v_9), (7, .int (nI (lotN (lotN w) % 10))), (3, .long (lN (lotN (lotN w)))), (6, .int (nI (lotN w % 6))), (5, .int (nI i)), (0, .ref (ad 0)), (1, .int (nI z0))]) hx hb dX7_actsByLots_100 rfl hl (by decide) rfl (fun ls hl => ?_)
          refine lv_iinc (v := nI (i + 1)) (lv' := [(5, .int (nI (i + 1))), (2, .int v_9), (7, .int (nI (lotN (lotN w) % 10))), (3, .long (lN (lotN (lotN w)))), (6, .int (nI (lotN w % 6))), (0, .ref (ad 0)), (1, .int (nI z0))]) hx hb dX7_actsByLots_101 hl (k := 4) rfl (nI_1 i) (by decide) rfl (fun ls hl => ?_)
          refine lv_goto (tgt := 14) hx hb dX7_actsByLots_104 (by decide) ?_
          exact ih14 (i + 1) (lotN (lotN w)) _ _ _ (by omega) (by omega) ((ok_pass (Lx := xLx n τ) hlb.1).1) (hlb.2.1) (by rw [ev_9]; exact hlb.2.2.1) (hlb.2.2.2) (lot_lt _) _ _ _ hW (lv_sub hl [0, 1, 3, 5, 6] rfl)
  exact L14 13 0 (z0 + 1) 0 _ _ (Nat.zero_le _) (by omega) (hCo_C_1) (hC_C_1) (rfl) (rfl) (by omega) _ _ _ hW (lv_sub hl [0, 2, 1, 3, 4] rfl)
abbrev rm_yX7_drawn : Room := { frames := 7, cells := 0, slots := 0, locals := 166 }
set_option maxHeartbeats 800000 in
set_option maxRecDepth 100000 in
theorem kX7_drawn {l : Launch} {D : va_G} {cs : Nat → ClassId} {ad : Nat → Nat} {n : Nat} {ρ σ : Nat → Nat → Int32} {TT τ : Nat → Nat → Nat → Int32} {sz : Nat} {z w0 : Int32} (hO : okO n TT τ σ) : XMi l yX7_drawn cX7_drawn 4 FieldType.int rm_yX7_drawn [.ref (ad 0), .int z, .int w0] D cs ad n ρ TT τ σ sz (fun (r : Int32) (u : (Nat → Nat → Int32) × Tb) => r = drawnP (xLx n τ) (TT 0) z w0) (fun u : (Nat → Nat → Int32) × Tb => xent ad cs n u.1 (va_up TT 1 u.2) τ σ) := by
  refine gw_stI (Ff := fun u : (Nat → Nat → Int32) × Tb => xent ad cs n u.1 (va_up TT 1 u.2) τ σ) (own := RX7) (by decide +kernel) rfl (Nat.le_of_ble_eq_true rfl) ?_
  intro p e s m ar below meth c A Q F hE hsz hW hret ls hl
  obtain ⟨hx, hb, hml, hown, hts⟩ := id F
  have hl : lv_has ls 4 [(0, .ref (ad 0)), (1, .int z), (2, .int w0)] := hl
  obtain ⟨hn1, hn6, hT, hX, hc, hnum⟩ := hO
  have hs6 := hT.1
  have hsN := hT.2.1
  have ht0 : (TT 0 6 3).toNatClampNeg < n := hT.2.2.1
  have hW : XW D cs ad n ρ (va_up TT 1 (TT 1)) τ σ A s s.heap s.heap [] := by rw [va_up_eta]; exact hW
  refine lv_iload_n hx hb dX7_drawn_0 rfl (lv_at hl 1 rfl) ?_
  refine gw_callP (As := [.int z]) (rest := []) F hl.1 (kX7_isSeed) pd_yX7_isSeed ml_RX7_260 st_yX7_isSeed ini_RX7 cd_yX7_isSeed ⟨rfl, rfl⟩ ⟨Nat.le_of_ble_eq_true rfl, Nat.le_of_ble_eq_true rfl⟩ rfl rfl (Nat.le_of_ble_eq_true rfl) ⟨Nat.zero_le _, Nat.zero_le _⟩ dX7_drawn_1 ?_
  refine lv_as (z := seedP z) rfl ?_
  refine lv_if_eq (tgt := 14) hx hb dX7_drawn_4 (by decide) (fun c_1 => ?_) (fun c_1 => ?_)
  ·
    refine lv_bipush (v := (-2)) hx hb dX7_drawn_14 (by decide) ?_
    exact hret (-2) (ρ, (TT 1)) _ _ _ _ _ hW rfl rfl (by unfold drawnP; rw [if_pos c_1]) dX7_drawn_16
  ·
    obtain ⟨sd, hsd, rfl⟩ := seed_nat c_1; have hisd : iN (nI sd) = sd := iN_nI (by omega)
    refine lv_iload_n hx hb dX7_drawn_7 rfl (lv_at hl 2 rfl) ?_
    refine gw_callP (As := [.int w0]) (rest := []) F hl.1 (kX7_isChoice) pd_yX7_isChoice ml_RX7_216 st_yX7_isChoice ini_RX7 cd_yX7_isChoice ⟨rfl, rfl⟩ ⟨Nat.le_of_ble_eq_true rfl, Nat.le_of_ble_eq_true rfl⟩ rfl rfl (Nat.le_of_ble_eq_true rfl) ⟨Nat.zero_le _, Nat.zero_le _⟩ dX7_drawn_8 ?_
    refine lv_as (z := choP w0) rfl ?_
    refine lv_if_ne (tgt := 17) hx hb dX7_drawn_11 (by decide) (fun c_2 => ?_) (fun c_2 => ?_)
    ·
      refine lv_aload_n hx hb dX7_drawn_17 rfl (lv_at hl 0 rfl) ?_
      refine lv_iload_n hx hb dX7_drawn_18 rfl (lv_at hl 1 rfl) ?_
      refine gw_callVi (As := [.int (nI sd)]) (rest := []) F hl.1 hW (fun _ _ hw => va_Nw.warmM hw hE) XE_E (by omega) xe_0 rfl (kX7_actsByLots (TT := va_up TT 1 (TT 1)) (z0 := sd) ⟨hn1, hn6, hT, hX, hc, hnum⟩ (by omega)) pd_yX7_actsByLots ml_RX7_263 im_yX7_actsByLots se_yX7_actsByLots ini_RX7 cd_yX7_actsByLots ⟨rfl, rfl⟩ ⟨Nat.le_of_ble_eq_true rfl, Nat.le_of_ble_eq_true rfl⟩ rfl rfl (Nat.le_of_ble_eq_true rfl) ⟨Nat.zero_le _, Nat.zero_le _⟩ dX7_drawn_19 (fun r u H locs hp hW _ _ => ?_)
      obtain ⟨ρ_3, C_4⟩ := u
      obtain ⟨hpr, hpE, hpO⟩ := hp
      have hE_C_4 : EqT C_4 (lotK (xLx n τ) (TT 0) (sd + 1) 12).1.1 := hpE
      have hO_C_4 : okT n C_4 := hpO
      subst hpr
      have hW : XW D cs ad n ρ_3 (va_up TT 1 C_4) τ σ A s s.heap H locs := by rw [bx_uu] at hW; exact hW
      refine lv_as (z := (lotK (xLx n τ) (TT 0) (sd + 1) 12).1.2) rfl ?_
      refine lv_topi (fun v_5 ev_5 => ?_)
      refine lv_istore_n (lv' := [(3, .int v_5), (0, .ref (ad 0)), (1, .int (nI sd)), (2, .int w0)]) hx hb dX7_drawn_22 rfl hl (by decide) rfl (fun ls hl => ?_)
      refine lv_iload_n hx hb dX7_drawn_23 rfl (lv_at hl 3 rfl) ?_
      refine lv_if_ne (tgt := 31) hx hb dX7_drawn_24 (by decide) (fun c_6 => ?_) (fun c_6 => ?_)
      ·
        refine lv_aload_n hx hb dX7_drawn_31 rfl (lv_at hl 1 rfl) ?_
        refine xr_O F hW 6 (by decide) rfl fl_RX7_54 dX7_drawn_32 ?_
        refine gw_callVi (As := []) (rest := []) F hl.1 hW (fun _ _ hw => va_Nw.warmM hw hE) XE_E (by omega) (xe_T (b := 1) (by decide)) rfl (kX4_stuckBits (b := 1) (by decide) hO_C_4 hX) pd_yX4_stuckBits ml_RX7_73 im_yX4_stuckBits se_yX4_stuckBits ini_RX4 cd_yX4_stuckBits ⟨rfl, rfl⟩ ⟨Nat.le_of_ble_eq_true rfl, Nat.le_of_ble_eq_true rfl⟩ rfl rfl (Nat.le_of_ble_eq_true rfl) ⟨Nat.zero_le _, Nat.zero_le _⟩ dX7_drawn_35 (fun r ρ_7 H locs hp hW _ _ => ?_)
        subst hp
        refine lv_as (z := stuckBS (xLx n τ) C_4) rfl ?_
        refine lv_as (z := stuckBS (xLx n τ) (lotK (xLx n τ) (TT 0) (sd + 1) 12).1.1) (hE_C_4.stuckB (xLx n τ)) ?_
        exact hret (stuckBS (xLx n τ) (lotK (xLx n τ) (TT 0) (sd + 1) 12).1.1) (ρ_7, C_4) _ _ _ _ _ hW rfl rfl (by unfold drawnP; rw [if_neg c_1, if_neg c_2, hisd, if_neg c_6]) dX7_drawn_38
      ·
        refine lv_iload_n hx hb dX7_drawn_27 rfl (lv_at hl 0 rfl) ?_
        refine lv_goto (tgt := 38) hx hb dX7_drawn_28 (by decide) ?_
        exact hret v_5 (ρ_3, C_4) _ _ _ _ _ hW rfl rfl (by unfold drawnP; rw [if_neg c_1, if_neg c_2, hisd, if_pos c_6]; exact ev_5) dX7_drawn_38
    ·
      refine lv_bipush (v := (-2)) hx hb dX7_drawn_14 (by decide) ?_
      exact hret (-2) (ρ, (TT 1)) _ _ _ _ _ hW rfl rfl (by unfold drawnP; rw [if_neg c_1, if_pos c_2]) dX7_drawn_16
abbrev rm_yX7_partOfFraction : Room := { frames := 0, cells := 0, slots := 0, locals := 0 }
set_option maxHeartbeats 800000 in
set_option maxRecDepth 100000 in
theorem kX7_partOfFraction {l : Launch} {D : va_G} {cs : Nat → ClassId} {ad : Nat → Nat} {n : Nat} {ρ σ : Nat → Nat → Int32} {TT τ : Nat → Nat → Nat → Int32} {sz : Nat} {a b : Nat} {w0 : Int32} (ha0 : a < 2 ^ 30) (hb0 : 0 < b) (hb1 : b < 2 ^ 30) : XMl l yX7_partOfFraction cX7_partOfFraction 5 rm_yX7_partOfFraction [.int (nI a), .int (nI b), .int w0] D cs ad n ρ TT τ σ sz (fun (r : Int64) (u : Unit) => r = fracP a b w0) (fun u : Unit => xent ad cs n ρ TT τ σ) := by
  refine gw_stL (Ff := fun u : Unit => xent ad cs n ρ TT τ σ) (own := RX7) (by decide +kernel) rfl (Nat.le_of_ble_eq_true rfl) ?_
  intro p e s m ar below meth c A Q F hE hsz hW hret ls hl
  obtain ⟨hx, hb, hml, hown, hts⟩ := id F
  have hl : lv_has ls 5 [(0, .int (nI a)), (1, .int (nI b)), (2, .int w0)] := hl
  refine lv_iconst (v := 1) hx hb dX7_partOfFraction_0 (by decide) ?_
  refine lv_istore_n (lv' := [(3, .int 1), (0, .int (nI a)), (1, .int (nI b)), (2, .int w0)]) hx hb dX7_partOfFraction_1 rfl hl (by decide) rfl (fun ls hl => ?_)
  refine lv_iload_n hx hb dX7_partOfFraction_2 rfl (lv_at hl 2 rfl) ?_
  refine lv_istore (lv' := [(4, .int (nI b)), (3, .int 1), (0, .int (nI a)), (1, .int (nI b)), (2, .int w0)]) hx hb dX7_partOfFraction_3 hl (by decide) rfl (fun ls hl => ?_)
  have L5 : ∀ (k : Nat) (mm : Nat) (gd x : Int32), (mm ≤ b) → (mm + 1 ≤ k) → (x = nI mm) → (gd = nI (Nat.gcd a b) ∨ (gd = 1 ∧ Nat.gcd a b ≤ mm)) → ∀ (H : Heap) (locs : List Loc) (ls : Array Slot), XW D cs ad n ρ TT τ σ A s s.heap H locs → lv_has ls 5 [(4, .int x), (3, .int gd), (0, .int (nI a)), (1, .int (nI b)), (2, .int w0)] → W p l e rm_yX7_partOfFraction s m ar below meth c H locs 0 0 Q (F0 m 5 ls []) := by
    intro k
    induction k with
    | zero => intro mm gd x h1 h2 hxm hI; exact absurd h2 (by omega)
    | succ k ih5 =>
      intro mm gd x h1 h2 hxm hI H locs ls hW hl
      refine lv_iload hx hb dX7_partOfFraction_5 (lv_at hl 0 rfl) ?_
      refine lv_as (z := nI mm) hxm ?_
      refine lv_iconst (v := 1) hx hb dX7_partOfFraction_7 (by decide) ?_
      refine lv_icmp_le (tgt := 39) hx hb dX7_partOfFraction_8 (by decide) (fun c_1 => ?_) (fun c_1 => ?_)
      ·
        have hD : gd = nI (Nat.gcd a b) := by rcases hI with h | ⟨h, h3⟩; exact h; rw [h, gcd_one hb0 h3 (mi_le (a := mm) (b := 1) c_1 (by omega) (by decide))]; rfl
        have hg0 := Nat.gcd_pos_of_pos_right a hb0; have hgb : Nat.gcd a b ≤ b := Nat.gcd_le_right a hb0
        refine lv_iload_n hx hb dX7_partOfFraction_39 rfl (lv_at hl 4 rfl) ?_
        refine lv_if_ne (tgt := 47) hx hb dX7_partOfFraction_40 (by decide) (fun c_2 => ?_) (fun c_2 => ?_)
        ·
          refine lv_iload_n hx hb dX7_partOfFraction_47 rfl (lv_at hl 3 rfl) ?_
          refine lv_iload_n hx hb dX7_partOfFraction_48 rfl (lv_at hl 1 rfl) ?_
          refine lv_idiv hx hb dX7_partOfFraction_49 (by rw [hD]; exact nI_ne0 hg0 (by omega)) ?_
          refine lv_i2l hx hb dX7_partOfFraction_50 rfl ?_
          exact hret (((nI b) / gd).toInt64) () _ _ _ _ _ hW rfl (by unfold fracP; rw [if_neg c_2, hD, pk_div (by omega) hg0 (by omega)]; exact nI_l (by have := Nat.div_le_self b (Nat.gcd a b); omega)) dX7_partOfFraction_51
        ·
          refine lv_iload_n hx hb dX7_partOfFraction_43 rfl (lv_at hl 2 rfl) ?_
          refine lv_goto (tgt := 48) hx hb dX7_partOfFraction_44 (by decide) ?_
          refine lv_iload_n hx hb dX7_partOfFraction_48 rfl (lv_at hl 1 rfl) ?_
          refine lv_idiv hx hb dX7_partOfFraction_49 (by rw [hD]; exact nI_ne0 hg0 (by omega)) ?_
          refine lv_i2l hx hb dX7_partOfFraction_50 rfl ?_
          exact hret (((nI a) / gd).toInt64) () _ _ _ _ _ hW rfl (by unfold fracP; rw [if_pos c_2, hD, pk_div (by omega) hg0 (by omega)]; exact nI_l (by have := Nat.div_le_self a (Nat.gcd a b); omega)) dX7_partOfFraction_51
      ·
        have hm1 : 1 < mm := mi_nle (a := mm) (b := 1) c_1 (by omega) (by decide)
        refine lv_iload_n hx hb dX7_partOfFraction_11 rfl (lv_at hl 1 rfl) ?_
        refine lv_iconst (v := 1) hx hb dX7_partOfFraction_12 (by decide) ?_
        refine lv_icmp_ne (tgt := 39) hx hb dX7_partOfFraction_13 (by decide) (fun c_3 => ?_) (fun c_3 => ?_)
        ·
          have hD : gd = nI (Nat.gcd a b) := by rcases hI with h | ⟨h, h3⟩; exact h; exact absurd h c_3
          have hg0 := Nat.gcd_pos_of_pos_right a hb0; have hgb : Nat.gcd a b ≤ b := Nat.gcd_le_right a hb0
          refine lv_iload_n hx hb dX7_partOfFraction_39 rfl (lv_at hl 4 rfl) ?_
          refine lv_if_ne (tgt := 47) hx hb dX7_partOfFraction_40 (by decide) (fun c_4 => ?_) (fun c_4 => ?_)
          ·
            refine lv_iload_n hx hb dX7_partOfFraction_47 rfl (lv_at hl 3 rfl) ?_
            refine lv_iload_n hx hb dX7_partOfFraction_48 rfl (lv_at hl 1 rfl) ?_
            refine lv_idiv hx hb dX7_partOfFraction_49 (by rw [hD]; exact nI_ne0 hg0 (by omega)) ?_
            refine lv_i2l hx hb dX7_partOfFraction_50 rfl ?_
            exact hret (((nI b) / gd).toInt64) () _ _ _ _ _ hW rfl (by unfold fracP; rw [if_neg c_4, hD, pk_div (by omega) hg0 (by omega)]; exact nI_l (by have := Nat.div_le_self b (Nat.gcd a b); omega)) dX7_partOfFraction_51
          ·
            refine lv_iload_n hx hb dX7_partOfFraction_43 rfl (lv_at hl 2 rfl) ?_
            refine lv_goto (tgt := 48) hx hb dX7_partOfFraction_44 (by decide) ?_
            refine lv_iload_n hx hb dX7_partOfFraction_48 rfl (lv_at hl 1 rfl) ?_
            refine lv_idiv hx hb dX7_partOfFraction_49 (by rw [hD]; exact nI_ne0 hg0 (by omega)) ?_
            refine lv_i2l hx hb dX7_partOfFraction_50 rfl ?_
            exact hret (((nI a) / gd).toInt64) () _ _ _ _ _ hW rfl (by unfold fracP; rw [if_pos c_4, hD, pk_div (by omega) hg0 (by omega)]; exact nI_l (by have := Nat.div_le_self a (Nat.gcd a b); omega)) dX7_partOfFraction_51
        ·
          refine lv_iload_n hx hb dX7_partOfFraction_16 rfl (lv_at hl 2 rfl) ?_
          refine lv_iload hx hb dX7_partOfFraction_17 (lv_at hl 0 rfl) ?_
          refine lv_as (z := nI mm) hxm ?_
          refine lv_irem hx hb dX7_partOfFraction_19 (nI_ne0 (by omega) (by omega)) ?_
          refine lv_as (z := nI (a % mm)) (pk_rem (by omega) (by omega) (by omega)) ?_
          refine lv_if_ne (tgt := 33) hx hb dX7_partOfFraction_20 (by decide) (fun c_5 => ?_) (fun c_5 => ?_)
          ·
            obtain ⟨v_6, ev_6⟩ : ∃ z : Int32, z = x + (-1) := ⟨_, rfl⟩
            refine lv_iinc (v := v_6) (lv' := [(4, .int v_6), (3, .int gd), (0, .int (nI a)), (1, .int (nI b)), (2, .int w0)]) hx hb dX7_partOfFraction_33 hl (k := 0) rfl (by rw [ev_6]; rfl) (by decide) rfl (fun ls hl => ?_)
            refine lv_goto (tgt := 5) hx hb dX7_partOfFraction_36 (by decide) ?_
            exact ih5 (mm - 1) _ _ (by omega) (by omega) (by rw [ev_6, hxm]; exact nI_dec (by omega)) (gcd_dn hI (fun z => c_5 (by rw [z.1]; rfl))) _ _ _ hW (lv_sub hl [0, 1, 2, 3, 4] rfl)
          ·
            refine lv_iload_n hx hb dX7_partOfFraction_23 rfl (lv_at hl 3 rfl) ?_
            refine lv_iload hx hb dX7_partOfFraction_24 (lv_at hl 0 rfl) ?_
            refine lv_as (z := nI mm) hxm ?_
            refine lv_irem hx hb dX7_partOfFraction_26 (nI_ne0 (by omega) (by omega)) ?_
            refine lv_as (z := nI (b % mm)) (pk_rem (by omega) (by omega) (by omega)) ?_
            refine lv_if_ne (tgt := 33) hx hb dX7_partOfFraction_27 (by decide) (fun c_7 => ?_) (fun c_7 => ?_)
            ·
              obtain ⟨v_8, ev_8⟩ : ∃ z : Int32, z = x + (-1) := ⟨_, rfl⟩
              refine lv_iinc (v := v_8) (lv' := [(4, .int v_8), (3, .int gd), (0, .int (nI a)), (1, .int (nI b)), (2, .int w0)]) hx hb dX7_partOfFraction_33 hl (k := 0) rfl (by rw [ev_8]; rfl) (by decide) rfl (fun ls hl => ?_)
              refine lv_goto (tgt := 5) hx hb dX7_partOfFraction_36 (by decide) ?_
              exact ih5 (mm - 1) _ _ (by omega) (by omega) (by rw [ev_8, hxm]; exact nI_dec (by omega)) (gcd_dn hI (fun z => c_7 (by rw [z.2]; rfl))) _ _ _ hW (lv_sub hl [0, 1, 2, 3, 4] rfl)
            ·
              refine lv_iload hx hb dX7_partOfFraction_30 (lv_at hl 0 rfl) ?_
              refine lv_as (z := nI mm) hxm ?_
              refine lv_istore_n (lv' := [(3, .int (nI mm)), (4, .int x), (0, .int (nI a)), (1, .int (nI b)), (2, .int w0)]) hx hb dX7_partOfFraction_32 rfl hl (by decide) rfl (fun ls hl => ?_)
              obtain ⟨v_9, ev_9⟩ : ∃ z : Int32, z = x + (-1) := ⟨_, rfl⟩
              refine lv_iinc (v := v_9) (lv' := [(4, .int v_9), (3, .int (nI mm)), (0, .int (nI a)), (1, .int (nI b)), (2, .int w0)]) hx hb dX7_partOfFraction_33 hl (k := 1) rfl (by rw [ev_9]; rfl) (by decide) rfl (fun ls hl => ?_)
              refine lv_goto (tgt := 5) hx hb dX7_partOfFraction_36 (by decide) ?_
              exact ih5 (mm - 1) _ _ (by omega) (by omega) (by rw [ev_9, hxm]; exact nI_dec (by omega)) (Or.inl (gcd_at hI hb0 (by omega) hm1 c_3 (nI_10 (by have := Nat.mod_le a mm; omega) c_5) (nI_10 (by have := Nat.mod_le b mm; omega) c_7))) _ _ _ hW (lv_sub hl [0, 1, 2, 3, 4] rfl)
  exact L5 (b + 1) b 1 (nI b) (Nat.le_refl _) (by omega) (rfl) (Or.inr ⟨rfl, Nat.gcd_le_right a hb0⟩) _ _ _ hW (lv_sub hl [0, 1, 2, 3, 4] rfl)
abbrev rm_yX7_odds : Room := { frames := 7, cells := 0, slots := 0, locals := 166 }
set_option maxHeartbeats 800000 in
set_option maxRecDepth 100000 in
theorem kX7_odds {l : Launch} {D : va_G} {cs : Nat → ClassId} {ad : Nat → Nat} {n : Nat} {ρ σ : Nat → Nat → Int32} {TT τ : Nat → Nat → Nat → Int32} {sz : Nat} {z m0 l0 w0 : Int32} (hO : okO n TT τ σ) : XMl l yX7_odds cX7_odds 7 rm_yX7_odds [.ref (ad 0), .int z, .int m0, .int l0, .int w0] D cs ad n ρ TT τ σ sz (fun (r : Int64) (u : (Nat → Nat → Int32) × Tb) => r = oddsP (xLx n τ) (TT 0) z m0 l0 w0) (fun u : (Nat → Nat → Int32) × Tb => xent ad cs n u.1 (va_up TT 1 u.2) τ σ) := by
  refine gw_stL (Ff := fun u : (Nat → Nat → Int32) × Tb => xent ad cs n u.1 (va_up TT 1 u.2) τ σ) (own := RX7) (by decide +kernel) rfl (Nat.le_of_ble_eq_true rfl) ?_
  intro p e s m ar below meth c A Q F hE hsz hW hret ls hl
  obtain ⟨hx, hb, hml, hown, hts⟩ := id F
  have hl : lv_has ls 7 [(0, .ref (ad 0)), (1, .int z), (2, .int m0), (3, .int l0), (4, .int w0)] := hl
  obtain ⟨hn1, hn6, hT, hX, hc, hnum⟩ := hO
  have hs6 := hT.1
  have hsN := hT.2.1
  have ht0 : (TT 0 6 3).toNatClampNeg < n := hT.2.2.1
  have hW : XW D cs ad n ρ (va_up TT 1 (TT 1)) τ σ A s s.heap s.heap [] := by rw [va_up_eta]; exact hW
  refine lv_iload_n hx hb dX7_odds_0 rfl (lv_at hl 1 rfl) ?_
  refine gw_callP (As := [.int z]) (rest := []) F hl.1 (kX7_isSeed) pd_yX7_isSeed ml_RX7_260 st_yX7_isSeed ini_RX7 cd_yX7_isSeed ⟨rfl, rfl⟩ ⟨Nat.le_of_ble_eq_true rfl, Nat.le_of_ble_eq_true rfl⟩ rfl rfl (Nat.le_of_ble_eq_true rfl) ⟨Nat.zero_le _, Nat.zero_le _⟩ dX7_odds_1 ?_
  refine lv_as (z := seedP z) rfl ?_
  refine lv_if_eq (tgt := 36) hx hb dX7_odds_4 (by decide) (fun c_1 => ?_) (fun c_1 => ?_)
  ·
    refine lv_ldc2 (v := (-4611686018427387904)) hx hb hown (hts _ kl_RX7_235) dX7_odds_36 ?_
    exact hret (-4611686018427387904) (ρ, (TT 1)) _ _ _ _ _ hW rfl (by unfold oddsP; rw [if_pos c_1]) dX7_odds_39
  ·
    obtain ⟨sd, hsd, rfl⟩ := seed_nat c_1; have hisd : iN (nI sd) = sd := iN_nI (by omega)
    refine lv_iload_n hx hb dX7_odds_7 rfl (lv_at hl 2 rfl) ?_
    refine lv_iconst (v := 1) hx hb dX7_odds_8 (by decide) ?_
    refine lv_icmp_lt (tgt := 36) hx hb dX7_odds_9 (by decide) (fun c_2 => ?_) (fun c_2 => ?_)
    ·
      refine lv_ldc2 (v := (-4611686018427387904)) hx hb hown (hts _ kl_RX7_235) dX7_odds_36 ?_
      exact hret (-4611686018427387904) (ρ, (TT 1)) _ _ _ _ _ hW rfl (by unfold oddsP; rw [if_neg c_1, if_pos c_2]) dX7_odds_39
    ·
      refine lv_iload_n hx hb dX7_odds_12 rfl (lv_at hl 2 rfl) ?_
      refine lv_bipush (v := 40) hx hb dX7_odds_13 (by decide) ?_
      refine lv_icmp_gt (tgt := 36) hx hb dX7_odds_15 (by decide) (fun c_3 => ?_) (fun c_3 => ?_)
      ·
        refine lv_ldc2 (v := (-4611686018427387904)) hx hb hown (hts _ kl_RX7_235) dX7_odds_36 ?_
        exact hret (-4611686018427387904) (ρ, (TT 1)) _ _ _ _ _ hW rfl (by unfold oddsP; rw [if_neg c_1, if_neg c_2, if_pos c_3]) dX7_odds_39
      ·
        have c15n := c_3; obtain ⟨mz, hm40, rfl⟩ : ∃ w, w ≤ 40 ∧ m0 = nI w := nI_of2 rfl (fun z => c_2 (Int32.lt_of_lt_of_le z (by decide))) (by rw [i32_le]; exact c_3); have him : iN (nI mz) = mz := iN_nI (by omega); have hm1 : 1 ≤ mz := mi_nlt (a := mz) (b := 1) c_2 (by omega) (by decide)
        refine lv_iload_n hx hb dX7_odds_18 rfl (lv_at hl 3 rfl) ?_
        refine lv_if_lt (tgt := 36) hx hb dX7_odds_19 (by decide) (fun c_4 => ?_) (fun c_4 => ?_)
        ·
          refine lv_ldc2 (v := (-4611686018427387904)) hx hb hown (hts _ kl_RX7_235) dX7_odds_36 ?_
          exact hret (-4611686018427387904) (ρ, (TT 1)) _ _ _ _ _ hW rfl (by unfold oddsP; rw [if_neg c_1, if_neg c_2, if_neg c15n, if_pos c_4]) dX7_odds_39
        ·
          refine lv_iload_n hx hb dX7_odds_22 rfl (lv_at hl 3 rfl) ?_
          refine lv_bipush (v := 72) hx hb dX7_odds_23 (by decide) ?_
          refine lv_icmp_gt (tgt := 36) hx hb dX7_odds_25 (by decide) (fun c_5 => ?_) (fun c_5 => ?_)
          ·
            refine lv_ldc2 (v := (-4611686018427387904)) hx hb hown (hts _ kl_RX7_235) dX7_odds_36 ?_
            exact hret (-4611686018427387904) (ρ, (TT 1)) _ _ _ _ _ hW rfl (by unfold oddsP; rw [if_neg c_1, if_neg c_2, if_neg c15n, if_neg c_4, if_pos c_5]) dX7_odds_39
          ·
            have c25n := c_5
            refine lv_iload hx hb dX7_odds_28 (lv_at hl 4 rfl) ?_
            refine gw_callP (As := [.int w0]) (rest := []) F hl.1 (kX7_isChoice) pd_yX7_isChoice ml_RX7_216 st_yX7_isChoice ini_RX7 cd_yX7_isChoice ⟨rfl, rfl⟩ ⟨Nat.le_of_ble_eq_true rfl, Nat.le_of_ble_eq_true rfl⟩ rfl rfl (Nat.le_of_ble_eq_true rfl) ⟨Nat.zero_le _, Nat.zero_le _⟩ dX7_odds_30 ?_
            refine lv_as (z := choP w0) rfl ?_
            refine lv_if_ne (tgt := 40) hx hb dX7_odds_33 (by decide) (fun c_6 => ?_) (fun c_6 => ?_)
            ·
              refine lv_iconst (v := 0) hx hb dX7_odds_40 (by decide) ?_
              refine lv_istore (lv' := [(5, .int 0), (0, .ref (ad 0)), (1, .int (nI sd)), (2, .int (nI mz)), (3, .int l0), (4, .int w0)]) hx hb dX7_odds_41 hl (by decide) rfl (fun ls hl => ?_)
              refine lv_iconst (v := 0) hx hb dX7_odds_43 (by decide) ?_
              refine lv_istore (lv' := [(6, .int 0), (5, .int 0), (0, .ref (ad 0)), (1, .int (nI sd)), (2, .int (nI mz)), (3, .int l0), (4, .int w0)]) hx hb dX7_odds_44 hl (by decide) rfl (fun ls hl => ?_)
              have L46 : ∀ (k : Nat) (i q : Nat) (ρ' : Nat → Nat → Int32) (X : Tb), (i ≤ mz) → (mz + 1 ≤ i + k) → (q ≤ i) → (q = oddK (xLx n τ) (TT 0) sd l0 i) → ∀ (H : Heap) (locs : List Loc) (ls : Array Slot), XW D cs ad n ρ' (va_up TT 1 X) τ σ A s s.heap H locs → lv_has ls 7 [(6, .int (nI i)), (5, .int (nI q)), (0, .ref (ad 0)), (1, .int (nI sd)), (2, .int (nI mz)), (3, .int l0), (4, .int w0)] → W p l e rm_yX7_odds s m ar below meth c H locs 0 0 Q (F0 m 46 ls []) := by
                intro k
                induction k with
                | zero => intro i q ρ' X h1 h2 hqi hq; exact absurd h2 (by omega)
                | succ k ih46 =>
                  intro i q ρ' X h1 h2 hqi hq H locs ls hW hl
                  refine lv_iload hx hb dX7_odds_46 (lv_at hl 0 rfl) ?_
                  refine lv_iload_n hx hb dX7_odds_48 rfl (lv_at hl 4 rfl) ?_
                  refine lv_icmp_ge (tgt := 73) hx hb dX7_odds_49 (by decide) (fun c_7 => ?_) (fun c_7 => ?_)
                  ·
                    obtain rfl : mz = i := by have := mi_le c_7 (by omega) (by omega); omega
                    refine lv_iload hx hb dX7_odds_73 (lv_at hl 1 rfl) ?_
                    refine lv_iload_n hx hb dX7_odds_75 rfl (lv_at hl 4 rfl) ?_
                    refine lv_iload hx hb dX7_odds_76 (lv_at hl 6 rfl) ?_
                    refine gw_callSl (As := [.int (nI q), .int (nI mz), .int w0]) (rest := []) F hl.1 hW (fun _ _ hw => va_Nw.warmM hw hE) XE_E (kX7_partOfFraction (a := q) (b := mz) (by omega) (by omega) (by omega)) pd_yX7_partOfFraction ml_RX7_240 st_yX7_partOfFraction ini_RX7 cd_yX7_partOfFraction ⟨rfl, rfl⟩ ⟨Nat.le_of_ble_eq_true rfl, Nat.le_of_ble_eq_true rfl⟩ rfl rfl (Nat.le_of_ble_eq_true rfl) ⟨Nat.zero_le _, Nat.zero_le _⟩ dX7_odds_78 (fun r u H locs hp hW _ _ => ?_)
                    subst hp
                    exact hret (fracP q mz w0) (ρ', X) _ _ _ _ _ hW rfl (by unfold oddsP; rw [if_neg c_1, if_neg c_2, if_neg c15n, if_neg c_4, if_neg c25n, if_neg c_6, hisd, him, hq]) dX7_odds_81
                  ·
                    have hlt : i < mz := mi_nle c_7 (by omega) (by omega)
                    refine lv_aload_n hx hb dX7_odds_52 rfl (lv_at hl 2 rfl) ?_
                    refine lv_iload_n hx hb dX7_odds_53 rfl (lv_at hl 3 rfl) ?_
                    refine lv_iload hx hb dX7_odds_54 (lv_at hl 0 rfl) ?_
                    refine lv_iadd hx hb dX7_odds_56 ?_
                    refine lv_as (z := nI (sd + i)) (nI_add _ _) ?_
                    refine gw_callVi (As := [.int (nI (sd + i))]) (rest := []) F hl.1 hW (fun _ _ hw => va_Nw.warmM hw hE) XE_E (by omega) xe_0 rfl (kX7_actsByLots (TT := va_up TT 1 X) (z0 := (sd + i)) ⟨hn1, hn6, hT, hX, hc, hnum⟩ (by omega)) pd_yX7_actsByLots ml_RX7_263 im_yX7_actsByLots se_yX7_actsByLots ini_RX7 cd_yX7_actsByLots ⟨rfl, rfl⟩ ⟨Nat.le_of_ble_eq_true rfl, Nat.le_of_ble_eq_true rfl⟩ rfl rfl (Nat.le_of_ble_eq_true rfl) ⟨Nat.zero_le _, Nat.zero_le _⟩ dX7_odds_57 (fun r u H locs hp hW _ _ => ?_)
                    obtain ⟨ρ_8, C_9⟩ := u
                    obtain ⟨hpr, hpE, hpO⟩ := hp
                    have hE_C_9 : EqT C_9 (lotK (xLx n τ) (TT 0) ((sd + i) + 1) 12).1.1 := hpE
                    have hO_C_9 : okT n C_9 := hpO
                    subst hpr
                    have hW : XW D cs ad n ρ_8 (va_up TT 1 C_9) τ σ A s s.heap H locs := by rw [bx_uu] at hW; exact hW
                    refine lv_as (z := (lotK (xLx n τ) (TT 0) ((sd + i) + 1) 12).1.2) rfl ?_
                    refine lv_iload_n hx hb dX7_odds_60 rfl (lv_at hl 5 rfl) ?_
                    refine lv_icmp_lt (tgt := 67) hx hb dX7_odds_61 (by decide) (fun c_10 => ?_) (fun c_10 => ?_)
                    ·
                      refine lv_iinc (v := nI (i + 1)) (lv' := [(6, .int (nI (i + 1))), (5, .int (nI q)), (0, .ref (ad 0)), (1, .int (nI sd)), (2, .int (nI mz)), (3, .int l0), (4, .int w0)]) hx hb dX7_odds_67 hl (k := 0) rfl (nI_1 i) (by decide) rfl (fun ls hl => ?_)
                      refine lv_goto (tgt := 46) hx hb dX7_odds_70 (by decide) ?_
                      exact ih46 (i + 1) q _ _ (by omega) (by omega) (by omega) (by show q = if _ < l0 then _ else _ + 1; rw [if_pos c_10]; exact hq) _ _ _ hW (lv_sub hl [0, 1, 2, 3, 4, 5, 6] rfl)
                    ·
                      refine lv_iinc (v := nI (q + 1)) (lv' := [(5, .int (nI (q + 1))), (6, .int (nI i)), (0, .ref (ad 0)), (1, .int (nI sd)), (2, .int (nI mz)), (3, .int l0), (4, .int w0)]) hx hb dX7_odds_64 hl (k := 1) rfl (nI_1 q) (by decide) rfl (fun ls hl => ?_)
                      refine lv_iinc (v := nI (i + 1)) (lv' := [(6, .int (nI (i + 1))), (5, .int (nI (q + 1))), (0, .ref (ad 0)), (1, .int (nI sd)), (2, .int (nI mz)), (3, .int l0), (4, .int w0)]) hx hb dX7_odds_67 hl (k := 1) rfl (nI_1 i) (by decide) rfl (fun ls hl => ?_)
                      refine lv_goto (tgt := 46) hx hb dX7_odds_70 (by decide) ?_
                      exact ih46 (i + 1) (q + 1) _ _ (by omega) (by omega) (by omega) (by show q + 1 = if _ < l0 then _ else _ + 1; rw [if_neg c_10, ← hq]) _ _ _ hW (lv_sub hl [0, 1, 2, 3, 4, 5, 6] rfl)
              exact L46 (mz + 1) 0 0 _ _ (Nat.zero_le _) (by omega) (Nat.le_refl _) (rfl) _ _ _ hW (lv_sub hl [0, 1, 2, 3, 4, 5, 6] rfl)
            ·
              refine lv_ldc2 (v := (-4611686018427387904)) hx hb hown (hts _ kl_RX7_235) dX7_odds_36 ?_
              exact hret (-4611686018427387904) (ρ, (TT 1)) _ _ _ _ _ hW rfl (by unfold oddsP; rw [if_neg c_1, if_neg c_2, if_neg c15n, if_neg c_4, if_neg c25n, if_pos c_6]) dX7_odds_39
abbrev rm_yX7_mean : Room := { frames := 1, cells := 0, slots := 0, locals := 24 }
set_option maxHeartbeats 800000 in
set_option maxRecDepth 100000 in
theorem kX7_mean {l : Launch} {D : va_G} {cs : Nat → ClassId} {ad : Nat → Nat} {n : Nat} {ρ σ : Nat → Nat → Int32} {TT τ : Nat → Nat → Nat → Int32} {sz : Nat} {w0 : Int32} (hO : okO n TT τ σ) : XMl l yX7_mean cX7_mean 2 rm_yX7_mean [.ref (ad 0), .int w0] D cs ad n ρ TT τ σ sz (fun (r : Int64) (u : Nat → Nat → Int32) => r = meanP (TT 0) w0) (fun u : Nat → Nat → Int32 => xent ad cs n u TT τ σ) := by
  refine gw_stL (Ff := fun u : Nat → Nat → Int32 => xent ad cs n u TT τ σ) (own := RX7) (by decide +kernel) rfl (Nat.le_of_ble_eq_true rfl) ?_
  intro p e s m ar below meth c A Q F hE hsz hW hret ls hl
  obtain ⟨hx, hb, hml, hown, hts⟩ := id F
  have hl : lv_has ls 2 [(0, .ref (ad 0)), (1, .int w0)] := hl
  obtain ⟨hn1, hn6, hT, hX, hc, hnum⟩ := hO
  have hs6 := hT.1
  have hsN := hT.2.1
  have ht0 : (TT 0 6 3).toNatClampNeg < n := hT.2.2.1
  refine lv_iload_n hx hb dX7_mean_0 rfl (lv_at hl 1 rfl) ?_
  refine gw_callP (As := [.int w0]) (rest := []) F hl.1 (kX7_isChoice) pd_yX7_isChoice ml_RX7_216 st_yX7_isChoice ini_RX7 cd_yX7_isChoice ⟨rfl, rfl⟩ ⟨Nat.le_of_ble_eq_true rfl, Nat.le_of_ble_eq_true rfl⟩ rfl rfl (Nat.le_of_ble_eq_true rfl) ⟨Nat.zero_le _, Nat.zero_le _⟩ dX7_mean_1 ?_
  refine lv_as (z := choP w0) rfl ?_
  refine lv_if_eq (tgt := 17) hx hb dX7_mean_4 (by decide) (fun c_1 => ?_) (fun c_1 => ?_)
  ·
    refine lv_ldc2 (v := (-4611686018427387904)) hx hb hown (hts _ kl_RX7_235) dX7_mean_17 ?_
    exact hret (-4611686018427387904) _ _ _ _ _ _ hW rfl (by unfold meanP; rw [if_pos c_1]) dX7_mean_20
  ·
    refine lv_aload_n hx hb dX7_mean_7 rfl (lv_at hl 0 rfl) ?_
    refine xr_O F hW 5 (by decide) rfl fl_RX7_50 dX7_mean_8 ?_
    refine xr_Ti (b := 0) F hW (by decide) 1 (by decide) fl_RX7_67 dX7_mean_11 ?_
    refine lv_if_ne (tgt := 21) hx hb dX7_mean_14 (by decide) (fun c_2 => ?_) (fun c_2 => ?_)
    ·
      refine lv_aload_n hx hb dX7_mean_21 rfl (lv_at hl 0 rfl) ?_
      refine xr_O F hW 5 (by decide) rfl fl_RX7_50 dX7_mean_22 ?_
      refine gw_callVi (As := []) (rest := []) F hl.1 hW (fun _ _ hw => va_Nw.warmM hw hE) XE_E (by omega) (xe_T (b := 0) (by decide)) rfl (kX4_boredTogether (b := 0) (by decide) hT hX) pd_yX4_boredTogether ml_RX7_237 im_yX4_boredTogether se_yX4_boredTogether ini_RX4 cd_yX4_boredTogether ⟨rfl, rfl⟩ ⟨Nat.le_of_ble_eq_true rfl, Nat.le_of_ble_eq_true rfl⟩ rfl rfl (Nat.le_of_ble_eq_true rfl) ⟨Nat.zero_le _, Nat.zero_le _⟩ dX7_mean_25 (fun r ρ_3 H locs hp hW _ _ => ?_)
      subst hp
      obtain ⟨bz, hbz, ebz⟩ := bored_upto hT (seatsN (TT 0)) (Nat.le_refl _)
      have ebz : boredS (TT 0) = nI bz := ebz
      have hs0 : 0 < seatsN (TT 0) := by rcases Nat.eq_zero_or_pos (seatsN (TT 0)) with hz | hz; exact absurd (by rw [hsN, hz]; rfl) c_2; exact hz
      refine lv_as (z := nI bz) ebz ?_
      refine lv_aload_n hx hb dX7_mean_28 rfl (lv_at hl 0 rfl) ?_
      refine xr_O F hW 5 (by decide) rfl fl_RX7_50 dX7_mean_29 ?_
      refine xr_Ti (b := 0) F hW (by decide) 1 (by decide) fl_RX7_67 dX7_mean_32 ?_
      refine lv_as (z := nI (seatsN (TT 0))) hsN ?_
      refine lv_iload_n hx hb dX7_mean_35 rfl (lv_at hl 1 rfl) ?_
      refine gw_callSl (As := [.int (nI bz), .int (nI (seatsN (TT 0))), .int w0]) (rest := []) F hl.1 hW (fun _ _ hw => va_Nw.warmM hw hE) XE_E (kX7_partOfFraction (a := bz) (b := (seatsN (TT 0))) (by omega) (by omega) (by omega)) pd_yX7_partOfFraction ml_RX7_240 st_yX7_partOfFraction ini_RX7 cd_yX7_partOfFraction ⟨rfl, rfl⟩ ⟨Nat.le_of_ble_eq_true rfl, Nat.le_of_ble_eq_true rfl⟩ rfl rfl (Nat.le_of_ble_eq_true rfl) ⟨Nat.zero_le _, Nat.zero_le _⟩ dX7_mean_36 (fun r u H locs hp hW _ _ => ?_)
      subst hp
      exact hret (fracP bz (seatsN (TT 0)) w0) _ _ _ _ _ _ hW rfl (by unfold meanP; rw [if_neg c_1, if_neg c_2, ebz, iN_nI (by omega)]) dX7_mean_39
    ·
      refine lv_ldc2 (v := (-4611686018427387904)) hx hb hown (hts _ kl_RX7_235) dX7_mean_17 ?_
      exact hret (-4611686018427387904) _ _ _ _ _ _ hW rfl (by unfold meanP; rw [if_neg c_1, if_pos c_2]) dX7_mean_20
