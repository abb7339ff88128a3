/-! ===== the reference: mean; dinners by lots ===== -/
theorem seed_in (z : Int32) : seedP z = inP z 0 99999 := by
  unfold seedP inP
  by_cases h0 : z < 0
  · rw [if_pos h0, if_pos h0]
  · rw [if_neg h0, if_neg h0]
    by_cases h1 : 100000 ≤ z
    · rw [if_pos h1, if_pos (by rw [← l100000]; exact h1)]
    · rw [if_neg h1, if_neg (by rw [← l100000]; exact h1)]
theorem lot_no {T : Tb} {p a : Nat} (hp : p < 2 ^ 31) (h : T 6 1 ≤ nI p) : lotT T p a = T := by
  unfold lotT oneP
  rw [if_neg (nI_pos hp), if_pos h, if_pos rfl]
theorem lot_yes {T : Tb} {p a : Nat} (hp : p < 2 ^ 31) (h : ¬ T 6 1 ≤ nI p) : lotT T p a = upT T p 2 (T p 2 ^^^ oneS (nI a)) := by
  unfold lotT oneP
  rw [if_neg (nI_pos hp), if_neg h, if_neg (by decide)]
theorem out_lot {T : Tb} {p a : Nat} (hp : p < 6) : OutT T (lotT T p a) := by
  unfold lotT
  split
  · exact OutT.rf
  · exact OutT.rf.up (by omega)
theorem cho_in {w : Int32} (h : ¬ inP w 0 1 = 0) : w = 0 ∨ w = 1 := one_two (in_y h).1 (in_y h).2
theorem lot_step {Lx : Lw} {T X : Tb} {z i w : Nat} {x : Int32} (hX : X = (lotK Lx T z i).1.1) (hx : x = (lotK Lx T z i).1.2) (hw : w = (lotK Lx T z i).2) :
    (passS Lx (lotT X (lotN w % 6) (lotN (lotN w) % 10))).1 = (lotK Lx T z (i + 1)).1.1 ∧ x + (passS Lx (lotT X (lotN w % 6) (lotN (lotN w) % 10))).2 = (lotK Lx T z (i + 1)).1.2 ∧ lotN (lotN w) = (lotK Lx T z (i + 1)).2 := by
  subst hX hx hw
  exact ⟨rfl, rfl, rfl⟩
abbrev rm_yX8_mean : Room := { frames := 1, cells := 0, slots := 0, locals := 30 }
set_option maxHeartbeats 800000 in
set_option maxRecDepth 100000 in
theorem kX8_mean {l : Launch} {D : va_G} {cA : ClassId} {ad : Nat → Nat} {ρ T σ : Nat → Nat → Int32} {sz : Nat} {n : Nat} {w : Int32} (hT : okT n T) : MMl l yX8_mean cX8_mean 4 rm_yX8_mean [.ref (ad 0), .int w] D cA ad ρ T σ sz (fun (r : Int64) (u : Unit) => r = meanP T w) (fun u : Unit => ment ad cA ρ T σ) := by
  refine gw_stL (Ff := fun u : Unit => ment ad cA ρ T σ) (own := RX8) (by decide +kernel) rfl (Nat.le_of_ble_eq_true rfl) ?_
  intro p e s m ar below meth c A Q F hE hsz hW hret ls hl
  obtain ⟨hx, hb, hml, hown, hts⟩ := id F
  have hl : lv_has ls 4 [(0, .ref (ad 0)), (1, .int w)] := hl
  have hs6 := hT.1
  have hsN := hT.2.1
  refine lv_iconst (v := 0) hx hb dX8_mean_0 (by decide) ?_
  refine lv_istore_n (lv' := [(2, .int 0), (0, .ref (ad 0)), (1, .int w)]) hx hb dX8_mean_1 rfl hl (by decide) rfl (fun ls hl => ?_)
  refine lv_iconst (v := 0) hx hb dX8_mean_2 (by decide) ?_
  refine lv_istore_n (lv' := [(3, .int 0), (2, .int 0), (0, .ref (ad 0)), (1, .int w)]) hx hb dX8_mean_3 rfl hl (by decide) rfl (fun ls hl => ?_)
  have L4 : ∀ (k : Nat) (i : Nat) (x : Int32), (i ≤ seatsN T) → (seatsN T + 1 ≤ i + k) → (x = boredK T i) → ∀ (H : Heap) (locs : List Loc) (ls : Array Slot), MW D cA ad ρ T σ A s s.heap H locs → lv_has ls 4 [(3, .int (nI i)), (2, .int x), (0, .ref (ad 0)), (1, .int w)] → W p l e rm_yX8_mean s m ar below meth c H locs 0 0 Q (F0 m 4 ls []) := by
    intro k
    induction k with
    | zero => intro i x h1 h2 hxx; exact absurd h2 (by omega)
    | succ k ih4 =>
      intro i x h1 h2 hxx H locs ls hW hl
      refine lv_iload_n hx hb dX8_mean_4 rfl (lv_at hl 0 rfl) ?_
      refine lv_aload_n hx hb dX8_mean_5 rfl (lv_at hl 2 rfl) ?_
      refine mr_f F hW 0 (by decide) rfl fl_RX8_69 dX8_mean_6 ?_
      refine lv_as (z := nI (seatsN T)) (hsN) ?_
      refine lv_icmp_ge (tgt := 31) hx hb dX8_mean_9 (by decide) (fun c_1 => ?_) (fun c_1 => ?_)
      ·
        obtain rfl : i = seatsN T := by have := mi_le (a := seatsN T) (b := i) c_1 (by omega) (by omega); omega
        refine lv_iload_n hx hb dX8_mean_31 rfl (lv_at hl 3 rfl) ?_
        refine lv_iconst (v := 0) hx hb dX8_mean_32 (by decide) ?_
        refine lv_iconst (v := 1) hx hb dX8_mean_33 (by decide) ?_
        refine gw_callP (As := [.int w, .int 0, .int 1]) (rest := []) F hl.1 (kX8_in) pd_yX8_in ml_RX8_72 st_yX8_in ini_RX8 cd_yX8_in ⟨rfl, rfl⟩ ⟨Nat.le_of_ble_eq_true rfl, Nat.le_of_ble_eq_true rfl⟩ rfl rfl (Nat.le_of_ble_eq_true rfl) ⟨Nat.zero_le _, Nat.zero_le _⟩ dX8_mean_34 ?_
        refine lv_as (z := inP w 0 1) rfl ?_
        refine lv_if_eq (tgt := 61) hx hb dX8_mean_37 (by decide) (fun c_2 => ?_) (fun c_2 => ?_)
        ·
          refine lv_ldc2 (v := (-4611686018427387904)) hx hb hown (hts _ kl_RX8_214) dX8_mean_61 ?_
          exact hret (-4611686018427387904) () _ _ _ _ _ hW rfl (by unfold meanP; rw [if_pos (cho_0 c_2)]) dX8_mean_64
        ·
          refine lv_aload_n hx hb dX8_mean_40 rfl (lv_at hl 2 rfl) ?_
          refine mr_f F hW 0 (by decide) rfl fl_RX8_69 dX8_mean_41 ?_
          refine lv_if_le (tgt := 61) hx hb dX8_mean_44 (by decide) (fun c_3 => ?_) (fun c_3 => ?_)
          ·
            refine lv_ldc2 (v := (-4611686018427387904)) hx hb hown (hts _ kl_RX8_214) dX8_mean_61 ?_
            exact hret (-4611686018427387904) () _ _ _ _ _ hW rfl (by unfold meanP; rw [if_neg (cho_1 c_2), if_pos (by have hz : seatsN T = 0 := (by rw [hsN] at c_3; have := mi_le (a := seatsN T) (b := 0) c_3 (by omega) (by decide); omega); rw [hsN, hz]; rfl)]) dX8_mean_64
          ·
            refine lv_iload_n hx hb dX8_mean_47 rfl (lv_at hl 1 rfl) ?_
            obtain ⟨bz, hbz, ebz⟩ := bored_upto hT (seatsN T) (Nat.le_refl _)
            have ebz2 : boredS T = nI bz := ebz
            have hs0 : 0 < seatsN T := by rcases Nat.eq_zero_or_pos (seatsN T) with hz | hz; exact absurd (by rw [hsN, hz]; decide) c_3; exact hz
            refine lv_as (z := nI bz) (hxx.trans ebz) ?_
            refine lv_i2l hx hb dX8_mean_48 rfl ?_
            refine lv_asl (z := lN bz) (nI_l (by omega)) ?_
            refine lv_aload_n hx hb dX8_mean_49 rfl (lv_at hl 2 rfl) ?_
            refine mr_f F hW 0 (by decide) rfl fl_RX8_69 dX8_mean_50 ?_
            refine lv_as (z := nI (seatsN T)) (hsN) ?_
            refine lv_i2l hx hb dX8_mean_53 rfl ?_
            refine lv_asl (z := lN (seatsN T)) (nI_l (by omega)) ?_
            refine lv_iload_n hx hb dX8_mean_54 rfl (lv_at hl 3 rfl) ?_
            refine gw_callSl (As := [.long (lN bz), .long (lN (seatsN T)), .int w]) (rest := []) F hl.1 hW (fun _ _ _ => trivial) gw_T_E (kX8_lowest (a := bz) (b := (seatsN T)) (by omega) (by omega) (by omega) (cho_in c_2)) pd_yX8_lowest ml_RX8_210 st_yX8_lowest ini_RX8 cd_yX8_lowest ⟨rfl, rfl⟩ ⟨Nat.le_of_ble_eq_true rfl, Nat.le_of_ble_eq_true rfl⟩ rfl rfl (Nat.le_of_ble_eq_true rfl) ⟨Nat.zero_le _, Nat.zero_le _⟩ dX8_mean_55 (fun r u H locs hp hW _ _ => ?_)
            subst hp
            refine lv_goto (tgt := 64) hx hb dX8_mean_58 (by decide) ?_
            exact hret (fracP bz (seatsN T) w) () _ _ _ _ _ hW rfl (by unfold meanP; rw [if_neg (cho_1 c_2), if_neg (fun z => by rw [hsN] at z; exact absurd (nI_10 (by omega) z) (by omega)), ebz2, iN_nI (by omega)]) dX8_mean_64
      ·
        have hlt : i < seatsN T := mi_nle (a := seatsN T) (b := i) c_1 (by omega) (by omega)
        refine lv_iload_n hx hb dX8_mean_12 rfl (lv_at hl 1 rfl) ?_
        refine lv_aload_n hx hb dX8_mean_13 rfl (lv_at hl 2 rfl) ?_
        refine mr_f F hW 3 (by decide) rfl fl_RX8_16 dX8_mean_14 ?_
        refine lv_iconst (v := 5) hx hb dX8_mean_17 (by decide) ?_
        refine lv_iload_n hx hb dX8_mean_18 rfl (lv_at hl 0 rfl) ?_
        refine lv_imul hx hb dX8_mean_19 ?_
        refine lv_iconst (v := 2) hx hb dX8_mean_20 (by decide) ?_
        refine lv_iadd hx hb dX8_mean_21 ?_
        refine mr_rows i 2 (by omega) (by decide) (mi_5k i 2) F hW dX8_mean_22 ?_
        refine lv_iadd hx hb dX8_mean_23 ?_
        refine lv_istore_n (lv' := [(2, .int (x + (T i 4))), (3, .int (nI i)), (0, .ref (ad 0)), (1, .int w)]) hx hb dX8_mean_24 rfl hl (by decide) rfl (fun ls hl => ?_)
        refine lv_iinc (v := nI (i + 1)) (lv' := [(3, .int (nI (i + 1))), (2, .int (x + (T i 4))), (0, .ref (ad 0)), (1, .int w)]) hx hb dX8_mean_25 hl (k := 1) rfl (nI_1 i) (by decide) rfl (fun ls hl => ?_)
        refine lv_goto (tgt := 4) hx hb dX8_mean_28 (by decide) ?_
        exact ih4 (i + 1) _ (by omega) (by omega) (by rw [hxx]; rfl) _ _ _ hW (lv_sub hl [0, 1, 2, 3] rfl)
  exact L4 (seatsN T + 1) 0 _ (Nat.zero_le _) (by omega) (rfl) _ _ _ hW (lv_sub hl [0, 1, 2, 3] rfl)
abbrev rm_yX8_dinners : Room := { frames := 7, cells := 0, slots := 0, locals := 163 }
set_option maxHeartbeats 800000 in
set_option maxRecDepth 100000 in
theorem kX8_dinners {l : Launch} {D : va_G} {cA : ClassId} {ad : Nat → Nat} {ρ T σ : Nat → Nat → Int32} {sz : Nat} {n : Nat} {Lx : Lw} {z0 : Nat} (hT : okT n T) (hM : okML n σ Lx) (hz0 : z0 < 2 ^ 30) : MMi l yX8_dinners cX8_dinners 7 FieldType.int rm_yX8_dinners [.ref (ad 0), .int (nI z0)] D cA ad ρ T σ sz (fun (r : Int32) (u : Nat → Nat → Int32) => r = (lotK Lx T (z0 + 1) 12).1.2 ∧ u 0 30 = stuckBS Lx (lotK Lx T (z0 + 1) 12).1.1) (fun u : Nat → Nat → Int32 => ment ad cA u T σ) := by
  refine gw_stI (Ff := fun u : Nat → Nat → Int32 => ment ad cA u T σ) (own := RX8) (by decide +kernel) rfl (Nat.le_of_ble_eq_true rfl) ?_
  intro p e s m ar below meth c A Q F hE hsz hW hret ls hl
  obtain ⟨hx, hb, hml, hown, hts⟩ := id F
  have hl : lv_has ls 7 [(0, .ref (ad 0)), (1, .int (nI z0))] := hl
  refine lv_iload_n hx hb dX8_dinners_0 rfl (lv_at hl 1 rfl) ?_
  refine lv_i2l hx hb dX8_dinners_1 rfl ?_
  refine lv_lconst (v := 1) hx hb dX8_dinners_2 (by decide) ?_
  refine lv_ladd hx hb dX8_dinners_3 ?_
  refine lv_asl (z := lN (z0 + 1)) (by rw [nI_l (by omega), lN_1]) ?_
  refine lv_lstore_n (lv' := [(2, .long (lN (z0 + 1))), (0, .ref (ad 0)), (1, .int (nI z0))]) hx hb dX8_dinners_4 rfl hl (by decide) rfl (fun ls hl => ?_)
  refine lv_iconst (v := 0) hx hb dX8_dinners_5 (by decide) ?_
  refine lv_istore (lv' := [(4, .int 0), (2, .long (lN (z0 + 1))), (0, .ref (ad 0)), (1, .int (nI z0))]) hx hb dX8_dinners_6 hl (by decide) rfl (fun ls hl => ?_)
  refine lv_aload_n hx hb dX8_dinners_8 rfl (lv_at hl 2 rfl) ?_
  refine gw_callVv (As := []) (rest := []) F hl.1 hW (fun _ _ _ => trivial) gw_T_E (by decide) (rfl : ment ad cA _ _ _ 0 = _) rfl (kX8_keeps) pd_yX8_keeps ml_RX8_195 im_yX8_keeps se_yX8_keeps ini_RX8 cd_yX8_keeps ⟨rfl, rfl⟩ ⟨Nat.le_of_ble_eq_true rfl, Nat.le_of_ble_eq_true rfl⟩ rfl rfl (Nat.le_of_ble_eq_true rfl) ⟨Nat.zero_le _, Nat.zero_le _⟩ dX8_dinners_9 (fun ρ_1 H locs hp hW _ _ => ?_)
  obtain ⟨h0_2, hK_3⟩ := hp
  refine lv_iconst (v := 0) hx hb dX8_dinners_12 (by decide) ?_
  refine lv_istore (lv' := [(5, .int 0), (4, .int 0), (2, .long (lN (z0 + 1))), (0, .ref (ad 0)), (1, .int (nI z0))]) hx hb dX8_dinners_13 hl (by decide) rfl (fun ls hl => ?_)
  have L15 : ∀ (k : Nat) (i w : Nat) (x : Int32) (ρ' : Nat → Nat → Int32) (T' : Tb), (i ≤ 12) → (13 ≤ i + k) → (KeptOf (ρ' 17) T) → (okT n T') → (OutT T T') → (T' = (lotK Lx T (z0 + 1) i).1.1) → (x = (lotK Lx T (z0 + 1) i).1.2) → (w = (lotK Lx T (z0 + 1) i).2) → (w < 2147483647) → ∀ (H : Heap) (locs : List Loc) (ls : Array Slot), MW D cA ad ρ' T' σ A s s.heap H locs → lv_has ls 7 [(5, .int (nI i)), (4, .int x), (2, .long (lN w)), (0, .ref (ad 0)), (1, .int (nI z0))] → W p l e rm_yX8_dinners s m ar below meth c H locs 0 0 Q (F0 m 15 ls []) := by
    intro k
    induction k with
    | zero => intro i w x ρ' T' h1 h2 hKk hT' hOT hTT hxx hww hwl; exact absurd h2 (by omega)
    | succ k ih15 =>
      intro i w x ρ' T' h1 h2 hKk hT' hOT hTT hxx hww hwl H locs ls hW hl
      refine lv_iload hx hb dX8_dinners_15 (lv_at hl 0 rfl) ?_
      refine lv_bipush (v := 12) hx hb dX8_dinners_17 (by decide) ?_
      refine lv_icmp_ge (tgt := 94) hx hb dX8_dinners_19 (by decide) (fun c_4 => ?_) (fun c_4 => ?_)
      ·
        obtain rfl : i = 12 := by have := mi_le (a := 12) (b := i) c_4 (by decide) (by omega); omega
        refine lv_aload_n hx hb dX8_dinners_94 rfl (lv_at hl 3 rfl) ?_
        refine lv_aload_n hx hb dX8_dinners_95 rfl (lv_at hl 3 rfl) ?_
        refine gw_callVi (As := []) (rest := [.ref (ad 0)]) F hl.1 hW (fun _ _ _ => trivial) gw_T_E (by decide) (rfl : ment ad cA _ _ _ 0 = _) rfl (kX8_stuckSet (n := n) (Lx := Lx) hT' hM) pd_yX8_stuckSet ml_RX8_79 im_yX8_stuckSet se_yX8_stuckSet ini_RX8 cd_yX8_stuckSet ⟨rfl, rfl⟩ ⟨Nat.le_of_ble_eq_true rfl, Nat.le_of_ble_eq_true rfl⟩ rfl rfl (Nat.le_of_ble_eq_true rfl) ⟨Nat.zero_le _, Nat.zero_le _⟩ dX8_dinners_96 (fun r ρ_6 H locs hp hW _ _ => ?_)
        obtain ⟨rfl, hk_5⟩ := hp
        refine lv_as (z := stuckBS Lx T') rfl ?_
        refine mw_ρ F hW fl_RX8_230 dX8_dinners_99 (fun H locs hW => ?_)
        have hKz : KeptOf ((upR ρ_6 0 30 (stuckBS Lx T')) 17) T := by rw [show (upR ρ_6 0 30 (stuckBS Lx T')) 17 = _ from va_up_ne _ _ (by decide)]; exact kept_kp hKk (Kp.trans Kp.rf hk_5)
        refine lv_aload_n hx hb dX8_dinners_102 rfl (lv_at hl 3 rfl) ?_
        refine gw_callVv (As := []) (rest := []) F hl.1 hW (fun _ _ _ => trivial) gw_T_E (by decide) (rfl : ment ad cA _ _ _ 0 = _) rfl (kX8_lays) pd_yX8_lays ml_RX8_201 im_yX8_lays se_yX8_lays ini_RX8 cd_yX8_lays ⟨rfl, rfl⟩ ⟨Nat.le_of_ble_eq_true rfl, Nat.le_of_ble_eq_true rfl⟩ rfl rfl (Nat.le_of_ble_eq_true rfl) ⟨Nat.zero_le _, Nat.zero_le _⟩ dX8_dinners_103 (fun T_7 H locs hp hW _ _ => ?_)
        have hp : T = T_7 := (hp.trans (lay_back (kept_kp hKz Kp.rf) hOT)).symm
        subst hp
        refine lv_iload hx hb dX8_dinners_106 (lv_at hl 1 rfl) ?_
        exact hret x (upR ρ_6 0 30 (stuckBS Lx T')) _ _ _ _ _ hW rfl rfl (⟨hxx, by rw [← hTT, upR_self, pk_us]⟩) dX8_dinners_108
      ·
        have hlt : i < 12 := mi_nle (a := 12) (b := i) c_4 (by decide) (by omega)
        refine lv_lload_n hx hb dX8_dinners_22 rfl (lv_at hl 2 rfl) ?_
        refine lv_ldc2 (v := 48271) hx hb hown (hts _ kl_RX8_222) dX8_dinners_23 ?_
        refine lv_lmul hx hb dX8_dinners_26 ?_
        refine lv_ldc2 (v := 2147483647) hx hb hown (hts _ kl_RX8_224) dX8_dinners_27 ?_
        refine lv_lrem hx hb dX8_dinners_30 (by decide) ?_
        refine lv_asl (z := lN (lotN w)) (lot_L hwl) ?_
        refine lv_lstore_n (lv' := [(2, .long (lN (lotN w))), (5, .int (nI i)), (4, .int x), (0, .ref (ad 0)), (1, .int (nI z0))]) hx hb dX8_dinners_31 rfl hl (by decide) rfl (fun ls hl => ?_)
        refine lv_lload_n hx hb dX8_dinners_32 rfl (lv_at hl 0 rfl) ?_
        refine lv_ldc2 (v := 6) hx hb hown (hts _ kl_RX8_226) dX8_dinners_33 ?_
        refine lv_lrem hx hb dX8_dinners_36 (by decide) ?_
        refine lv_l2i hx hb dX8_dinners_37 rfl ?_
        refine lv_as (z := nI (lotN w % 6)) (lot_6 (lot_lt _)) ?_
        refine lv_istore (lv' := [(6, .int (nI (lotN w % 6))), (2, .long (lN (lotN w))), (5, .int (nI i)), (4, .int x), (0, .ref (ad 0)), (1, .int (nI z0))]) hx hb dX8_dinners_38 hl (by decide) rfl (fun ls hl => ?_)
        refine lv_lload_n hx hb dX8_dinners_40 rfl (lv_at hl 1 rfl) ?_
        refine lv_ldc2 (v := 48271) hx hb hown (hts _ kl_RX8_222) dX8_dinners_41 ?_
        refine lv_lmul hx hb dX8_dinners_44 ?_
        refine lv_ldc2 (v := 2147483647) hx hb hown (hts _ kl_RX8_224) dX8_dinners_45 ?_
        refine lv_lrem hx hb dX8_dinners_48 (by decide) ?_
        refine lv_asl (z := lN (lotN (lotN w))) (lot_L (lot_lt _)) ?_
        refine lv_lstore_n (lv' := [(2, .long (lN (lotN (lotN w)))), (6, .int (nI (lotN w % 6))), (5, .int (nI i)), (4, .int x), (0, .ref (ad 0)), (1, .int (nI z0))]) hx hb dX8_dinners_49 rfl hl (by decide) rfl (fun ls hl => ?_)
        have h6 : lotN w % 6 < 6 := Nat.mod_lt _ (by decide)
        refine lv_iload hx hb dX8_dinners_50 (lv_at hl 1 rfl) ?_
        refine lv_aload_n hx hb dX8_dinners_52 rfl (lv_at hl 4 rfl) ?_
        refine mr_f F hW 0 (by decide) rfl fl_RX8_69 dX8_dinners_53 ?_
        refine lv_icmp_ge (tgt := 79) hx hb dX8_dinners_56 (by decide) (fun c_8 => ?_) (fun c_8 => ?_)
        ·
          have hW : MW D cA ad ρ' (lotT T' (lotN w % 6) (lotN (lotN w) % 10)) σ A s s.heap H locs := by rw [lot_no (by omega) c_8]; exact hW
          have hls := lot_step hTT hxx hww
          have h10 : lotN (lotN w) % 10 < 10 := Nat.mod_lt _ (by decide)
          refine lv_iload hx hb dX8_dinners_79 (lv_at hl 3 rfl) ?_
          refine lv_aload_n hx hb dX8_dinners_81 rfl (lv_at hl 4 rfl) ?_
          refine gw_callVi (As := []) (rest := [.int x]) F hl.1 hW (fun _ _ _ => trivial) gw_T_E (by decide) (rfl : ment ad cA _ _ _ 0 = _) rfl (kX8_minuteOf (n := n) (Lx := Lx) (ok_lot hT' h6 h10) hM) pd_yX8_minuteOf ml_RX8_188 im_yX8_minuteOf se_yX8_minuteOf ini_RX8 cd_yX8_minuteOf ⟨rfl, rfl⟩ ⟨Nat.le_of_ble_eq_true rfl, Nat.le_of_ble_eq_true rfl⟩ rfl rfl (Nat.le_of_ble_eq_true rfl) ⟨Nat.zero_le _, Nat.zero_le _⟩ dX8_dinners_82 (fun r u H locs hp hW _ _ => ?_)
          obtain ⟨ρ_9, T_10⟩ := u
          obtain ⟨rfl, hk_11, hTe⟩ := hp
          have hTe : T_10 = (passS Lx (lotT T' (lotN w % 6) (lotN (lotN w) % 10))).1 := hTe
          subst hTe
          refine lv_as (z := (passS Lx (lotT T' (lotN w % 6) (lotN (lotN w) % 10))).2) rfl ?_
          refine lv_iadd hx hb dX8_dinners_85 ?_
          refine lv_topi (fun v_12 ev_12 => ?_)
          refine lv_istore (lv' := [(4, .int v_12), (2, .long (lN (lotN (lotN w)))), (6, .int (nI (lotN w % 6))), (5, .int (nI i)), (0, .ref (ad 0)), (1, .int (nI z0))]) hx hb dX8_dinners_86 hl (by decide) rfl (fun ls hl => ?_)
          refine lv_iinc (v := nI (i + 1)) (lv' := [(5, .int (nI (i + 1))), (4, .int v_12), (2, .long (lN (lotN (lotN w)))), (6, .int (nI (lotN w % 6))), (0, .ref (ad 0)), (1, .int (nI z0))]) hx hb dX8_dinners_88 hl (k := 3) rfl (nI_1 i) (by decide) rfl (fun ls hl => ?_)
          refine lv_goto (tgt := 15) hx hb dX8_dinners_91 (by decide) ?_
          exact ih15 (i + 1) (lotN (lotN w)) _ ρ_9 _ (by omega) (by omega) (kept_kp hKk (Kp.trans Kp.rf hk_11)) ((ok_pass (Lx := Lx) (ok_lot hT' h6 h10)).1) (((hOT.trans (out_lot h6)).trans (out_pass (Lx := Lx) (ok_lot hT' h6 h10)))) (hls.1) (by subst ev_12; exact hls.2.1) (hls.2.2) (lot_lt _) _ _ _ hW (lv_sub hl [0, 1, 2, 4, 5] rfl)
        ·
          refine lv_aload_n hx hb dX8_dinners_59 rfl (lv_at hl 4 rfl) ?_
          refine mr_f F hW 3 (by decide) rfl fl_RX8_16 dX8_dinners_60 ?_
          refine lv_iconst (v := 5) hx hb dX8_dinners_63 (by decide) ?_
          refine lv_iload hx hb dX8_dinners_64 (lv_at hl 1 rfl) ?_
          refine lv_imul hx hb dX8_dinners_66 ?_
          refine lv_dup2_11 hx hb dX8_dinners_67 rfl rfl ?_
          refine mr_rows (lotN w % 6) 0 (by omega) (by decide) (mi_50 (lotN w % 6)) F hW dX8_dinners_68 ?_
          refine lv_iconst (v := 1) hx hb dX8_dinners_69 (by decide) ?_
          refine lv_lload_n hx hb dX8_dinners_70 rfl (lv_at hl 0 rfl) ?_
          refine lv_ldc2 (v := 10) hx hb hown (hts _ kl_RX8_228) dX8_dinners_71 ?_
          refine lv_lrem hx hb dX8_dinners_74 (by decide) ?_
          refine lv_l2i hx hb dX8_dinners_75 rfl ?_
          refine lv_as (z := nI (lotN (lotN w) % 10)) (lot_10 (lot_lt _)) ?_
          refine lv_ishl hx hb dX8_dinners_76 ?_
          refine lv_ixor hx hb dX8_dinners_77 ?_
          refine lv_as (z := T' (lotN w % 6) 2 ^^^ oneS (nI (lotN (lotN w) % 10))) rfl ?_
          refine mw_rows (lotN w % 6) 0 (by omega) (by decide) (mi_50 (lotN w % 6)) F hW dX8_dinners_78 (fun H locs hW => ?_)
          have hW : MW D cA ad ρ' (lotT T' (lotN w % 6) (lotN (lotN w) % 10)) σ A s s.heap H locs := by rw [lot_yes (by omega) c_8]; exact hW
          have hls := lot_step hTT hxx hww
          have h10 : lotN (lotN w) % 10 < 10 := Nat.mod_lt _ (by decide)
          refine lv_iload hx hb dX8_dinners_79 (lv_at hl 3 rfl) ?_
          refine lv_aload_n hx hb dX8_dinners_81 rfl (lv_at hl 4 rfl) ?_
          refine gw_callVi (As := []) (rest := [.int x]) F hl.1 hW (fun _ _ _ => trivial) gw_T_E (by decide) (rfl : ment ad cA _ _ _ 0 = _) rfl (kX8_minuteOf (n := n) (Lx := Lx) (ok_lot hT' h6 h10) hM) pd_yX8_minuteOf ml_RX8_188 im_yX8_minuteOf se_yX8_minuteOf ini_RX8 cd_yX8_minuteOf ⟨rfl, rfl⟩ ⟨Nat.le_of_ble_eq_true rfl, Nat.le_of_ble_eq_true rfl⟩ rfl rfl (Nat.le_of_ble_eq_true rfl) ⟨Nat.zero_le _, Nat.zero_le _⟩ dX8_dinners_82 (fun r u H locs hp hW _ _ => ?_)
          obtain ⟨ρ_13, T_14⟩ := u
          obtain ⟨rfl, hk_15, hTe⟩ := hp
          have hTe : T_14 = (passS Lx (lotT T' (lotN w % 6) (lotN (lotN w) % 10))).1 := hTe
          subst hTe
          refine lv_as (z := (passS Lx (lotT T' (lotN w % 6) (lotN (lotN w) % 10))).2) rfl ?_
          refine lv_iadd hx hb dX8_dinners_85 ?_
          refine lv_topi (fun v_16 ev_16 => ?_)
          refine lv_istore (lv' := [(4, .int v_16), (2, .long (lN (lotN (lotN w)))), (6, .int (nI (lotN w % 6))), (5, .int (nI i)), (0, .ref (ad 0)), (1, .int (nI z0))]) hx hb dX8_dinners_86 hl (by decide) rfl (fun ls hl => ?_)
          refine lv_iinc (v := nI (i + 1)) (lv' := [(5, .int (nI (i + 1))), (4, .int v_16), (2, .long (lN (lotN (lotN w)))), (6, .int (nI (lotN w % 6))), (0, .ref (ad 0)), (1, .int (nI z0))]) hx hb dX8_dinners_88 hl (k := 3) rfl (nI_1 i) (by decide) rfl (fun ls hl => ?_)
          refine lv_goto (tgt := 15) hx hb dX8_dinners_91 (by decide) ?_
          exact ih15 (i + 1) (lotN (lotN w)) _ ρ_13 _ (by omega) (by omega) (kept_kp hKk (Kp.trans Kp.rf hk_15)) ((ok_pass (Lx := Lx) (ok_lot hT' h6 h10)).1) (((hOT.trans (out_lot h6)).trans (out_pass (Lx := Lx) (ok_lot hT' h6 h10)))) (hls.1) (by subst ev_16; exact hls.2.1) (hls.2.2) (lot_lt _) _ _ _ hW (lv_sub hl [0, 1, 2, 4, 5] rfl)
  exact L15 13 0 (z0 + 1) 0 _ _ (by omega) (by omega) (kept_kp hK_3 Kp.rf) (hT) (OutT.rf) (rfl) (rfl) (rfl) (by omega) _ _ _ hW (lv_sub hl [0, 1, 2, 3, 4] rfl)
abbrev rm_yX8_drawn : Room := { frames := 8, cells := 0, slots := 0, locals := 189 }
set_option maxHeartbeats 800000 in
set_option maxRecDepth 100000 in
theorem kX8_drawn {l : Launch} {D : va_G} {cA : ClassId} {ad : Nat → Nat} {ρ T σ : Nat → Nat → Int32} {sz : Nat} {n : Nat} {Lx : Lw} {z w0 : Int32} (hT : okT n T) (hM : okML n σ Lx) : MMi l yX8_drawn cX8_drawn 4 FieldType.int rm_yX8_drawn [.ref (ad 0), .int z, .int w0] D cA ad ρ T σ sz (fun (r : Int32) (u : Nat → Nat → Int32) => r = drawnP Lx T z w0) (fun u : Nat → Nat → Int32 => ment ad cA u T σ) := by
  refine gw_stI (Ff := fun u : Nat → Nat → Int32 => ment ad cA u T σ) (own := RX8) (by decide +kernel) rfl (Nat.le_of_ble_eq_true rfl) ?_
  intro p e s m ar below meth c A Q F hE hsz hW hret ls hl
  obtain ⟨hx, hb, hml, hown, hts⟩ := id F
  have hl : lv_has ls 4 [(0, .ref (ad 0)), (1, .int z), (2, .int w0)] := hl
  refine lv_iload_n hx hb dX8_drawn_0 rfl (lv_at hl 1 rfl) ?_
  refine lv_iconst (v := 0) hx hb dX8_drawn_1 (by decide) ?_
  refine lv_ldc (v := 99999) hx hb hown (hts _ kc_RX8_233) dX8_drawn_2 ?_
  refine gw_callP (As := [.int z, .int 0, .int 99999]) (rest := []) F hl.1 (kX8_in) pd_yX8_in ml_RX8_72 st_yX8_in ini_RX8 cd_yX8_in ⟨rfl, rfl⟩ ⟨Nat.le_of_ble_eq_true rfl, Nat.le_of_ble_eq_true rfl⟩ rfl rfl (Nat.le_of_ble_eq_true rfl) ⟨Nat.zero_le _, Nat.zero_le _⟩ dX8_drawn_4 ?_
  refine lv_as (z := inP z 0 99999) rfl ?_
  refine lv_if_eq (tgt := 19) hx hb dX8_drawn_7 (by decide) (fun c_1 => ?_) (fun c_1 => ?_)
  ·
    refine lv_bipush (v := (-2)) hx hb dX8_drawn_19 (by decide) ?_
    exact hret (-2) ρ _ _ _ _ _ hW rfl rfl (by unfold drawnP; rw [if_pos (by rw [seed_in]; exact c_1)]) dX8_drawn_21
  ·
    have hsd0 : ¬ seedP z = 0 := (by rw [seed_in]; exact c_1); obtain ⟨sd, hsd, rfl⟩ := seed_nat hsd0; have hisd : iN (nI sd) = sd := iN_nI (by omega)
    refine lv_iload_n hx hb dX8_drawn_10 rfl (lv_at hl 2 rfl) ?_
    refine lv_iconst (v := 0) hx hb dX8_drawn_11 (by decide) ?_
    refine lv_iconst (v := 1) hx hb dX8_drawn_12 (by decide) ?_
    refine gw_callP (As := [.int w0, .int 0, .int 1]) (rest := []) F hl.1 (kX8_in) pd_yX8_in ml_RX8_72 st_yX8_in ini_RX8 cd_yX8_in ⟨rfl, rfl⟩ ⟨Nat.le_of_ble_eq_true rfl, Nat.le_of_ble_eq_true rfl⟩ rfl rfl (Nat.le_of_ble_eq_true rfl) ⟨Nat.zero_le _, Nat.zero_le _⟩ dX8_drawn_13 ?_
    refine lv_as (z := inP w0 0 1) rfl ?_
    refine lv_if_ne (tgt := 22) hx hb dX8_drawn_16 (by decide) (fun c_2 => ?_) (fun c_2 => ?_)
    ·
      refine lv_aload_n hx hb dX8_drawn_22 rfl (lv_at hl 0 rfl) ?_
      refine lv_iload_n hx hb dX8_drawn_23 rfl (lv_at hl 1 rfl) ?_
      refine gw_callVi (As := [.int (nI sd)]) (rest := []) F hl.1 hW (fun _ _ _ => trivial) gw_T_E (by decide) (rfl : ment ad cA _ _ _ 0 = _) rfl (kX8_dinners (n := n) (Lx := Lx) (z0 := sd) hT hM (by omega)) pd_yX8_dinners ml_RX8_234 im_yX8_dinners se_yX8_dinners ini_RX8 cd_yX8_dinners ⟨rfl, rfl⟩ ⟨Nat.le_of_ble_eq_true rfl, Nat.le_of_ble_eq_true rfl⟩ rfl rfl (Nat.le_of_ble_eq_true rfl) ⟨Nat.zero_le _, Nat.zero_le _⟩ dX8_drawn_24 (fun r ρ_3 H locs hp hW _ _ => ?_)
      obtain ⟨rfl, h3_4⟩ := hp
      refine lv_as (z := (lotK Lx T (sd + 1) 12).1.2) rfl ?_
      refine lv_topi (fun v_5 ev_5 => ?_)
      refine lv_istore_n (lv' := [(3, .int v_5), (0, .ref (ad 0)), (1, .int (nI sd)), (2, .int w0)]) hx hb dX8_drawn_27 rfl hl (by decide) rfl (fun ls hl => ?_)
      refine lv_iload_n hx hb dX8_drawn_28 rfl (lv_at hl 3 rfl) ?_
      refine lv_if_ne (tgt := 36) hx hb dX8_drawn_29 (by decide) (fun c_6 => ?_) (fun c_6 => ?_)
      ·
        refine lv_aload_n hx hb dX8_drawn_36 rfl (lv_at hl 1 rfl) ?_
        refine mr_f F hW 30 (by decide) rfl fl_RX8_230 dX8_drawn_37 ?_
        exact hret (ρ_3 0 30) ρ_3 _ _ _ _ _ hW rfl rfl (by subst ev_5; unfold drawnP; rw [if_neg hsd0, if_neg (cho_1 c_2), hisd, if_neg c_6]; exact h3_4) dX8_drawn_40
      ·
        refine lv_iload_n hx hb dX8_drawn_32 rfl (lv_at hl 0 rfl) ?_
        refine lv_goto (tgt := 40) hx hb dX8_drawn_33 (by decide) ?_
        exact hret v_5 ρ_3 _ _ _ _ _ hW rfl rfl (by subst ev_5; unfold drawnP; rw [if_neg hsd0, if_neg (cho_1 c_2), hisd, if_pos c_6]) dX8_drawn_40
    ·
      refine lv_bipush (v := (-2)) hx hb dX8_drawn_19 (by decide) ?_
      exact hret (-2) ρ _ _ _ _ _ hW rfl rfl (by unfold drawnP; rw [if_neg hsd0, if_pos (cho_0 c_2)]) dX8_drawn_21
theorem in_ny {v a b : Int32} (h : ¬ v < a ∧ ¬ b < v) : ¬ inP v a b = 0 := by rw [in_z]; exact not_or.mpr h
abbrev rm_yX8_odds : Room := { frames := 8, cells := 0, slots := 0, locals := 189 }
set_option maxHeartbeats 800000 in
set_option maxRecDepth 100000 in
theorem kX8_odds {l : Launch} {D : va_G} {cA : ClassId} {ad : Nat → Nat} {ρ T σ : Nat → Nat → Int32} {sz : Nat} {n : Nat} {Lx : Lw} {z m0 l0 w0 : Int32} (hT : okT n T) (hM : okML n σ Lx) : MMl l yX8_odds cX8_odds 8 rm_yX8_odds [.ref (ad 0), .int z, .int m0, .int l0, .int w0] D cA ad ρ T σ sz (fun (r : Int64) (u : Nat → Nat → Int32) => r = oddsP Lx T z m0 l0 w0) (fun u : Nat → Nat → Int32 => ment ad cA u T σ) := by
  refine gw_stL (Ff := fun u : Nat → Nat → Int32 => ment ad cA u T σ) (own := RX8) (by decide +kernel) rfl (Nat.le_of_ble_eq_true rfl) ?_
  intro p e s m ar below meth c A Q F hE hsz hW hret ls hl
  obtain ⟨hx, hb, hml, hown, hts⟩ := id F
  have hl : lv_has ls 8 [(0, .ref (ad 0)), (1, .int z), (2, .int m0), (3, .int l0), (4, .int w0)] := hl
  refine lv_iload_n hx hb dX8_odds_0 rfl (lv_at hl 1 rfl) ?_
  refine lv_iconst (v := 0) hx hb dX8_odds_1 (by decide) ?_
  refine lv_ldc (v := 99999) hx hb hown (hts _ kc_RX8_233) dX8_odds_2 ?_
  refine gw_callP (As := [.int z, .int 0, .int 99999]) (rest := []) F hl.1 (kX8_in) pd_yX8_in ml_RX8_72 st_yX8_in ini_RX8 cd_yX8_in ⟨rfl, rfl⟩ ⟨Nat.le_of_ble_eq_true rfl, Nat.le_of_ble_eq_true rfl⟩ rfl rfl (Nat.le_of_ble_eq_true rfl) ⟨Nat.zero_le _, Nat.zero_le _⟩ dX8_odds_4 ?_
  refine lv_as (z := inP z 0 99999) rfl ?_
  refine lv_if_eq (tgt := 40) hx hb dX8_odds_7 (by decide) (fun c_1 => ?_) (fun c_1 => ?_)
  ·
    refine lv_ldc2 (v := (-4611686018427387904)) hx hb hown (hts _ kl_RX8_214) dX8_odds_40 ?_
    exact hret (-4611686018427387904) ρ _ _ _ _ _ hW rfl (by unfold oddsP; simp only [in_ite]; rw [if_pos (by rw [seed_in]; exact c_1)]) dX8_odds_43
  ·
    have hsd0 : ¬ seedP z = 0 := (by rw [seed_in]; exact c_1); obtain ⟨sd, hsd, rfl⟩ := seed_nat hsd0; have hisd : iN (nI sd) = sd := iN_nI (by omega)
    refine lv_iload_n hx hb dX8_odds_10 rfl (lv_at hl 2 rfl) ?_
    refine lv_iconst (v := 1) hx hb dX8_odds_11 (by decide) ?_
    refine lv_bipush (v := 40) hx hb dX8_odds_12 (by decide) ?_
    refine gw_callP (As := [.int m0, .int 1, .int 40]) (rest := []) F hl.1 (kX8_in) pd_yX8_in ml_RX8_72 st_yX8_in ini_RX8 cd_yX8_in ⟨rfl, rfl⟩ ⟨Nat.le_of_ble_eq_true rfl, Nat.le_of_ble_eq_true rfl⟩ rfl rfl (Nat.le_of_ble_eq_true rfl) ⟨Nat.zero_le _, Nat.zero_le _⟩ dX8_odds_14 ?_
    refine lv_as (z := inP m0 1 40) rfl ?_
    refine lv_if_eq (tgt := 40) hx hb dX8_odds_17 (by decide) (fun c_2 => ?_) (fun c_2 => ?_)
    ·
      refine lv_ldc2 (v := (-4611686018427387904)) hx hb hown (hts _ kl_RX8_214) dX8_odds_40 ?_
      exact hret (-4611686018427387904) ρ _ _ _ _ _ hW rfl (by unfold oddsP; simp only [in_ite]; rw [if_neg hsd0, if_pos c_2]) dX8_odds_43
    ·
      have c17n : ¬ m0 < 1 ∧ ¬ 40 < m0 := in_y c_2; obtain ⟨mz, hm40, rfl⟩ : ∃ w, w ≤ 40 ∧ m0 = nI w := nI_of2 rfl (fun z => c17n.1 (Int32.lt_of_lt_of_le z (by decide))) (by rw [i32_le]; exact c17n.2); have him : iN (nI mz) = mz := iN_nI (by omega); have hm1 : 1 ≤ mz := mi_nlt (a := mz) (b := 1) c17n.1 (by omega) (by decide)
      refine lv_iload_n hx hb dX8_odds_20 rfl (lv_at hl 3 rfl) ?_
      refine lv_iconst (v := 0) hx hb dX8_odds_21 (by decide) ?_
      refine lv_bipush (v := 72) hx hb dX8_odds_22 (by decide) ?_
      refine gw_callP (As := [.int l0, .int 0, .int 72]) (rest := []) F hl.1 (kX8_in) pd_yX8_in ml_RX8_72 st_yX8_in ini_RX8 cd_yX8_in ⟨rfl, rfl⟩ ⟨Nat.le_of_ble_eq_true rfl, Nat.le_of_ble_eq_true rfl⟩ rfl rfl (Nat.le_of_ble_eq_true rfl) ⟨Nat.zero_le _, Nat.zero_le _⟩ dX8_odds_24 ?_
      refine lv_as (z := inP l0 0 72) rfl ?_
      refine lv_if_eq (tgt := 40) hx hb dX8_odds_27 (by decide) (fun c_3 => ?_) (fun c_3 => ?_)
      ·
        refine lv_ldc2 (v := (-4611686018427387904)) hx hb hown (hts _ kl_RX8_214) dX8_odds_40 ?_
        exact hret (-4611686018427387904) ρ _ _ _ _ _ hW rfl (by unfold oddsP; simp only [in_ite]; rw [if_neg hsd0, if_neg (in_ny c17n), if_pos c_3]) dX8_odds_43
      ·
        refine lv_iload hx hb dX8_odds_30 (lv_at hl 4 rfl) ?_
        refine lv_iconst (v := 0) hx hb dX8_odds_32 (by decide) ?_
        refine lv_iconst (v := 1) hx hb dX8_odds_33 (by decide) ?_
        refine gw_callP (As := [.int w0, .int 0, .int 1]) (rest := []) F hl.1 (kX8_in) pd_yX8_in ml_RX8_72 st_yX8_in ini_RX8 cd_yX8_in ⟨rfl, rfl⟩ ⟨Nat.le_of_ble_eq_true rfl, Nat.le_of_ble_eq_true rfl⟩ rfl rfl (Nat.le_of_ble_eq_true rfl) ⟨Nat.zero_le _, Nat.zero_le _⟩ dX8_odds_34 ?_
        refine lv_as (z := inP w0 0 1) rfl ?_
        refine lv_if_ne (tgt := 44) hx hb dX8_odds_37 (by decide) (fun c_4 => ?_) (fun c_4 => ?_)
        ·
          refine lv_lconst (v := 0) hx hb dX8_odds_44 (by decide) ?_
          refine lv_lstore (lv' := [(5, .long 0), (0, .ref (ad 0)), (1, .int (nI sd)), (2, .int (nI mz)), (3, .int l0), (4, .int w0)]) hx hb dX8_odds_45 hl (by decide) rfl (fun ls hl => ?_)
          refine lv_iconst (v := 0) hx hb dX8_odds_47 (by decide) ?_
          refine lv_istore (lv' := [(7, .int 0), (5, .long 0), (0, .ref (ad 0)), (1, .int (nI sd)), (2, .int (nI mz)), (3, .int l0), (4, .int w0)]) hx hb dX8_odds_48 hl (by decide) rfl (fun ls hl => ?_)
          have L50 : ∀ (k : Nat) (i qq : Nat) (ρ' : Nat → Nat → Int32), (i ≤ mz) → (mz + 1 ≤ i + k) → (qq ≤ i) → (qq = oddK Lx T sd l0 i) → ∀ (H : Heap) (locs : List Loc) (ls : Array Slot), MW D cA ad ρ' T σ A s s.heap H locs → lv_has ls 8 [(7, .int (nI i)), (5, .long (lN qq)), (0, .ref (ad 0)), (1, .int (nI sd)), (2, .int (nI mz)), (3, .int l0), (4, .int w0)] → W p l e rm_yX8_odds s m ar below meth c H locs 0 0 Q (F0 m 50 ls []) := by
            intro k
            induction k with
            | zero => intro i qq ρ' h1 h2 hqi hqq; exact absurd h2 (by omega)
            | succ k ih50 =>
              intro i qq ρ' h1 h2 hqi hqq H locs ls hW hl
              refine lv_iload hx hb dX8_odds_50 (lv_at hl 0 rfl) ?_
              refine lv_iload_n hx hb dX8_odds_52 rfl (lv_at hl 4 rfl) ?_
              refine lv_icmp_ge (tgt := 84) hx hb dX8_odds_53 (by decide) (fun c_5 => ?_) (fun c_5 => ?_)
              ·
                obtain rfl : mz = i := by have := mi_le c_5 (by omega) (by omega); omega
                refine lv_lload hx hb dX8_odds_84 (lv_at hl 1 rfl) ?_
                refine lv_iload_n hx hb dX8_odds_86 rfl (lv_at hl 4 rfl) ?_
                refine lv_i2l hx hb dX8_odds_87 rfl ?_
                refine lv_asl (z := lN mz) (nI_l (by omega)) ?_
                refine lv_iload hx hb dX8_odds_88 (lv_at hl 6 rfl) ?_
                refine gw_callSl (As := [.long (lN qq), .long (lN mz), .int w0]) (rest := []) F hl.1 hW (fun _ _ _ => trivial) gw_T_E (kX8_lowest (a := qq) (b := mz) (by omega) (by omega) (by omega) (cho_in c_4)) pd_yX8_lowest ml_RX8_210 st_yX8_lowest ini_RX8 cd_yX8_lowest ⟨rfl, rfl⟩ ⟨Nat.le_of_ble_eq_true rfl, Nat.le_of_ble_eq_true rfl⟩ rfl rfl (Nat.le_of_ble_eq_true rfl) ⟨Nat.zero_le _, Nat.zero_le _⟩ dX8_odds_90 (fun r u H locs hp hW _ _ => ?_)
                subst hp
                exact hret (fracP qq mz w0) ρ' _ _ _ _ _ hW rfl (by unfold oddsP; simp only [in_ite]; rw [if_neg hsd0, if_neg (in_ny c17n), if_neg c_3, if_neg (cho_1 c_4), hisd, him, ← hqq]) dX8_odds_93
              ·
                have hlt : i < mz := mi_nle c_5 (by omega) (by omega)
                refine lv_lload hx hb dX8_odds_56 (lv_at hl 1 rfl) ?_
                refine lv_aload_n hx hb dX8_odds_58 rfl (lv_at hl 2 rfl) ?_
                refine lv_iload_n hx hb dX8_odds_59 rfl (lv_at hl 3 rfl) ?_
                refine lv_iload hx hb dX8_odds_60 (lv_at hl 0 rfl) ?_
                refine lv_iadd hx hb dX8_odds_62 ?_
                refine lv_as (z := nI (sd + i)) (nI_add _ _) ?_
                refine gw_callVi (As := [.int (nI (sd + i))]) (rest := [.long (lN qq)]) F hl.1 hW (fun _ _ _ => trivial) gw_T_E (by decide) (rfl : ment ad cA _ _ _ 0 = _) rfl (kX8_dinners (n := n) (Lx := Lx) (z0 := (sd + i)) hT hM (by omega)) pd_yX8_dinners ml_RX8_234 im_yX8_dinners se_yX8_dinners ini_RX8 cd_yX8_dinners ⟨rfl, rfl⟩ ⟨Nat.le_of_ble_eq_true rfl, Nat.le_of_ble_eq_true rfl⟩ rfl rfl (Nat.le_of_ble_eq_true rfl) ⟨Nat.zero_le _, Nat.zero_le _⟩ dX8_odds_63 (fun r ρ_6 H locs hp hW _ _ => ?_)
                obtain ⟨rfl, h3_7⟩ := hp
                refine lv_as (z := (lotK Lx T ((sd + i) + 1) 12).1.2) rfl ?_
                refine lv_iload_n hx hb dX8_odds_66 rfl (lv_at hl 5 rfl) ?_
                refine lv_icmp_lt (tgt := 74) hx hb dX8_odds_67 (by decide) (fun c_8 => ?_) (fun c_8 => ?_)
                ·
                  refine lv_lconst (v := 0) hx hb dX8_odds_74 (by decide) ?_
                  refine lv_ladd hx hb dX8_odds_75 ?_
                  refine lv_asl (z := lN qq) (Int64.add_zero _) ?_
                  refine lv_lstore (lv' := [(5, .long (lN qq)), (7, .int (nI i)), (0, .ref (ad 0)), (1, .int (nI sd)), (2, .int (nI mz)), (3, .int l0), (4, .int w0)]) hx hb dX8_odds_76 hl (by decide) rfl (fun ls hl => ?_)
                  refine lv_iinc (v := nI (i + 1)) (lv' := [(7, .int (nI (i + 1))), (5, .long (lN qq)), (0, .ref (ad 0)), (1, .int (nI sd)), (2, .int (nI mz)), (3, .int l0), (4, .int w0)]) hx hb dX8_odds_78 hl (k := 1) rfl (nI_1 i) (by decide) rfl (fun ls hl => ?_)
                  refine lv_goto (tgt := 50) hx hb dX8_odds_81 (by decide) ?_
                  exact ih50 (i + 1) qq ρ_6 (by omega) (by omega) (by omega) (by show qq = if _ < l0 then _ else _ + 1; rw [if_pos c_8]; exact hqq) _ _ _ hW (lv_sub hl [0, 1, 2, 3, 4, 5, 6] rfl)
                ·
                  refine lv_lconst (v := 1) hx hb dX8_odds_70 (by decide) ?_
                  refine lv_goto (tgt := 75) hx hb dX8_odds_71 (by decide) ?_
                  refine lv_ladd hx hb dX8_odds_75 ?_
                  refine lv_asl (z := lN (qq + 1)) (lN_1 _) ?_
                  refine lv_lstore (lv' := [(5, .long (lN (qq + 1))), (7, .int (nI i)), (0, .ref (ad 0)), (1, .int (nI sd)), (2, .int (nI mz)), (3, .int l0), (4, .int w0)]) hx hb dX8_odds_76 hl (by decide) rfl (fun ls hl => ?_)
                  refine lv_iinc (v := nI (i + 1)) (lv' := [(7, .int (nI (i + 1))), (5, .long (lN (qq + 1))), (0, .ref (ad 0)), (1, .int (nI sd)), (2, .int (nI mz)), (3, .int l0), (4, .int w0)]) hx hb dX8_odds_78 hl (k := 1) rfl (nI_1 i) (by decide) rfl (fun ls hl => ?_)
                  refine lv_goto (tgt := 50) hx hb dX8_odds_81 (by decide) ?_
                  exact ih50 (i + 1) (qq + 1) ρ_6 (by omega) (by omega) (by omega) (by show qq + 1 = if _ < l0 then _ else _ + 1; rw [if_neg c_8, ← hqq]) _ _ _ hW (lv_sub hl [0, 1, 2, 3, 4, 5, 6] rfl)
          exact L50 (mz + 1) 0 0 _ (by omega) (by omega) (by omega) (rfl) _ _ _ hW (lv_sub hl [0, 1, 2, 3, 4, 5, 6] rfl)
        ·
          refine lv_ldc2 (v := (-4611686018427387904)) hx hb hown (hts _ kl_RX8_214) dX8_odds_40 ?_
          exact hret (-4611686018427387904) ρ _ _ _ _ _ hW rfl (by unfold oddsP; simp only [in_ite]; rw [if_neg hsd0, if_neg (in_ny c17n), if_neg c_3, if_pos (cho_0 c_4)]) dX8_odds_43
