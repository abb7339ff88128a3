/-! ===== the reference: forgive, run, when, dinner ===== -/
def FR (P : Int32 × Int32) (bb ff : Int32) : Prop := bb = P.1 ∧ ff = (if P.1 = -1 then -1 else P.2)
theorem fo_A {Lx : Lw} {T : Tb} {q i : Nat} (h : ¬ nI i &&& T q 2 = nI i) : forgK Lx T q (i + 1) = forgK Lx T q i := if_neg h
theorem fo_B {Lx : Lw} {T : Tb} {q i : Nat} (h2 : ¬ onesS (nI i) < (forgK Lx T q i).2) : forgK Lx T q (i + 1) = forgK Lx T q i := by
  rw [forgK]
  by_cases h : nI i &&& T q 2 = nI i
  · rw [if_pos h, if_neg h2]
  · rw [if_neg h]
theorem fo_C {Lx : Lw} {T : Tb} {q i : Nat} (h3 : ¬ stuckS Lx (upT T q 2 (T q 2 ^^^ nI i)) q = 0) : forgK Lx T q (i + 1) = forgK Lx T q i := by
  rw [forgK]
  by_cases h : nI i &&& T q 2 = nI i
  · rw [if_pos h]
    by_cases h2 : onesS (nI i) < (forgK Lx T q i).2
    · rw [if_pos h2, if_neg h3]
    · rw [if_neg h2]
  · rw [if_neg h]
theorem fo_D {Lx : Lw} {T : Tb} {q i : Nat} (h : nI i &&& T q 2 = nI i) (h2 : onesS (nI i) < (forgK Lx T q i).2) (h3 : stuckS Lx (upT T q 2 (T q 2 ^^^ nI i)) q = 0) : forgK Lx T q (i + 1) = (nI i, onesS (nI i)) := by
  rw [forgK, if_pos h, if_pos h2, if_pos h3]
theorem fr_new {i : Nat} {v : Int32} (hi : i < 2 ^ 31) : FR (nI i, v) (nI i) v := ⟨rfl, (if_neg (nI_m1 hi)).symm⟩
theorem in_sub {i : Nat} {x : Int32} (hi : i < 1024) (h : nI i &&& x = nI i) (hx : upto 1024 x) : upto 1024 (x ^^^ nI i) := by
  obtain ⟨j, hj, rfl⟩ := hx
  rw [nx_xor]
  exact ⟨_, Nat.xor_lt_two_pow (n := 10) hj hi, rfl⟩
abbrev rm_yX8_forgive : Room := { frames := 6, cells := 0, slots := 0, locals := 138 }
set_option maxHeartbeats 800000 in
set_option maxRecDepth 100000 in
theorem kX8_forgive {l : Launch} {D : va_G} {cA : ClassId} {ad : Nat → Nat} {ρ T σ : Nat → Nat → Int32} {sz : Nat} {n : Nat} {Lx : Lw} {pp w0 : Int32} (hT : okT n T) (hM : okML n σ Lx) : MMi l yX8_forgive cX8_forgive 8 FieldType.int rm_yX8_forgive [.ref (ad 0), .int pp, .int w0] D cA ad ρ T σ sz (fun (r : Int32) (u : Nat → Nat → Int32) => r = forgiveP Lx T pp w0 ∧ Kp ρ u) (fun u : Nat → Nat → Int32 => ment ad cA u T σ) := by
  refine gw_stI (Ff := fun u : Nat → Nat → Int32 => ment ad cA u T σ) (own := RX8) (by decide +kernel) rfl (Nat.le_of_ble_eq_true rfl) ?_
  intro p e s m ar below meth c A Q F hE hsz hW hret ls hl
  obtain ⟨hx, hb, hml, hown, hts⟩ := id F
  have hl : lv_has ls 8 [(0, .ref (ad 0)), (1, .int pp), (2, .int w0)] := hl
  have hs6 := hT.1
  have hsN := hT.2.1
  refine lv_aload_n hx hb dX8_forgive_0 rfl (lv_at hl 0 rfl) ?_
  refine lv_iload_n hx hb dX8_forgive_1 rfl (lv_at hl 1 rfl) ?_
  refine gw_callVi (As := [.int pp]) (rest := []) F hl.1 hW (fun _ _ _ => trivial) gw_T_E (by decide) (rfl : ment ad cA _ _ _ 0 = _) rfl (kX8_isOne (n := n) hT) pd_yX8_isOne ml_RX8_161 im_yX8_isOne se_yX8_isOne ini_RX8 cd_yX8_isOne ⟨rfl, rfl⟩ ⟨Nat.le_of_ble_eq_true rfl, Nat.le_of_ble_eq_true rfl⟩ rfl rfl (Nat.le_of_ble_eq_true rfl) ⟨Nat.zero_le _, Nat.zero_le _⟩ dX8_forgive_2 (fun r u H locs hp hW _ _ => ?_)
  subst hp
  refine lv_as (z := oneP T pp) rfl ?_
  refine lv_if_ne (tgt := 11) hx hb dX8_forgive_5 (by decide) (fun c_1 => ?_) (fun c_1 => ?_)
  ·
    obtain ⟨q, hq, rfl⟩ := one_nat hT c_1; have hq6 : q < 6 := seats_le hT hq; have hiq : iN (nI q) = q := iN_nI (by omega); have hGq := hT.2.2.2.2 q hq; have hone : ¬ oneP T (nI q) = 0 := c_1
    refine lv_iload_n hx hb dX8_forgive_11 rfl (lv_at hl 2 rfl) ?_
    refine lv_iconst (v := 0) hx hb dX8_forgive_12 (by decide) ?_
    refine lv_iconst (v := 1) hx hb dX8_forgive_13 (by decide) ?_
    refine gw_callP (As := [.int w0, .int 0, .int 1]) (rest := []) F hl.1 (kX8_in) pd_yX8_in ml_RX8_72 st_yX8_in ini_RX8 cd_yX8_in ⟨rfl, rfl⟩ ⟨Nat.le_of_ble_eq_true rfl, Nat.le_of_ble_eq_true rfl⟩ rfl rfl (Nat.le_of_ble_eq_true rfl) ⟨Nat.zero_le _, Nat.zero_le _⟩ dX8_forgive_14 ?_
    refine lv_as (z := inP w0 0 1) rfl ?_
    refine lv_if_ne (tgt := 23) hx hb dX8_forgive_17 (by decide) (fun c_2 => ?_) (fun c_2 => ?_)
    ·
      refine lv_aload_n hx hb dX8_forgive_23 rfl (lv_at hl 0 rfl) ?_
      refine mr_f F hW 3 (by decide) rfl fl_RX8_16 dX8_forgive_24 ?_
      refine lv_iconst (v := 5) hx hb dX8_forgive_27 (by decide) ?_
      refine lv_iload_n hx hb dX8_forgive_28 rfl (lv_at hl 1 rfl) ?_
      refine lv_imul hx hb dX8_forgive_29 ?_
      refine mr_rows q 0 (by omega) (by decide) (mi_50 q) F hW dX8_forgive_30 ?_
      refine lv_istore_n (lv' := [(3, .int (T q 2)), (0, .ref (ad 0)), (1, .int (nI q)), (2, .int w0)]) hx hb dX8_forgive_31 rfl hl (by decide) rfl (fun ls hl => ?_)
      refine lv_iconst (v := (-1)) hx hb dX8_forgive_32 (by decide) ?_
      refine lv_istore (lv' := [(4, .int (-1)), (3, .int (T q 2)), (0, .ref (ad 0)), (1, .int (nI q)), (2, .int w0)]) hx hb dX8_forgive_33 hl (by decide) rfl (fun ls hl => ?_)
      refine lv_iconst (v := (-1)) hx hb dX8_forgive_35 (by decide) ?_
      refine lv_istore (lv' := [(5, .int (-1)), (4, .int (-1)), (3, .int (T q 2)), (0, .ref (ad 0)), (1, .int (nI q)), (2, .int w0)]) hx hb dX8_forgive_36 hl (by decide) rfl (fun ls hl => ?_)
      refine lv_iconst (v := 0) hx hb dX8_forgive_38 (by decide) ?_
      refine lv_istore (lv' := [(6, .int 0), (5, .int (-1)), (4, .int (-1)), (3, .int (T q 2)), (0, .ref (ad 0)), (1, .int (nI q)), (2, .int w0)]) hx hb dX8_forgive_39 hl (by decide) rfl (fun ls hl => ?_)
      have hW : MW D cA ad ρ (upT T q 2 (T q 2)) σ A s s.heap H locs := by rw [upT_eta]; exact hW
      have L41 : ∀ (k : Nat) (i : Nat) (x : Int32) (ρ' : Nat → Nat → Int32) (bb ff : Int32), (i ≤ 1024) → (1025 ≤ i + k) → (Kp ρ ρ') → (FR (forgK Lx T q i) bb ff) → ∀ (H : Heap) (locs : List Loc) (ls : Array Slot), MW D cA ad ρ' (upT T q 2 x) σ A s s.heap H locs → lv_has ls 8 [(6, .int (nI i)), (4, .int bb), (5, .int ff), (3, .int (T q 2)), (0, .ref (ad 0)), (1, .int (nI q)), (2, .int w0)] → W p l e rm_yX8_forgive s m ar below meth c H locs 0 0 Q (F0 m 41 ls []) := by
        intro k
        induction k with
        | zero => intro i x ρ' bb ff h1 h2 hkp hFR; exact absurd h2 (by omega)
        | succ k ih41 =>
          intro i x ρ' bb ff h1 h2 hkp hFR H locs ls hW hl
          have hff : ¬ bb = -1 → ff = (forgK Lx T q i).2 := fun z => by rw [hFR.2]; exact if_neg (fun e => z (hFR.1.trans e))
          refine lv_iload hx hb dX8_forgive_41 (lv_at hl 0 rfl) ?_
          refine lv_sipush (v := 1023) hx hb dX8_forgive_43 (by decide) ?_
          refine lv_icmp_gt (tgt := 140) hx hb dX8_forgive_46 (by decide) (fun c_3 => ?_) (fun c_3 => ?_)
          ·
            obtain rfl : i = 1024 := by have := mi_lt (a := 1023) (b := i) c_3 (by decide) (by omega); omega
            refine lv_aload_n hx hb dX8_forgive_140 rfl (lv_at hl 4 rfl) ?_
            refine mr_f F hW 3 (by decide) rfl fl_RX8_16 dX8_forgive_141 ?_
            refine lv_iconst (v := 5) hx hb dX8_forgive_144 (by decide) ?_
            refine lv_iload_n hx hb dX8_forgive_145 rfl (lv_at hl 5 rfl) ?_
            refine lv_imul hx hb dX8_forgive_146 ?_
            refine lv_iload_n hx hb dX8_forgive_147 rfl (lv_at hl 3 rfl) ?_
            refine mw_rows q 0 (by omega) (by decide) (mi_50 q) F hW dX8_forgive_148 (fun H locs hW => ?_)
            have hW : MW D cA ad ρ' T σ A s s.heap H locs := by rw [upT_upT, upT_eta] at hW; exact hW
            refine lv_iload_n hx hb dX8_forgive_149 rfl (lv_at hl 6 rfl) ?_
            refine lv_if_ne (tgt := 158) hx hb dX8_forgive_150 (by decide) (fun c_4 => ?_) (fun c_4 => ?_)
            ·
              refine lv_iload hx hb dX8_forgive_158 (lv_at hl 2 rfl) ?_
              exact hret ff ρ' _ _ _ _ _ hW rfl rfl (by unfold forgiveP; rw [if_neg hone, if_neg (cho_1 c_2), hiq, if_neg c_4]; exact ⟨hFR.2, hkp⟩) dX8_forgive_160
            ·
              refine lv_iload hx hb dX8_forgive_153 (lv_at hl 1 rfl) ?_
              refine lv_goto (tgt := 160) hx hb dX8_forgive_155 (by decide) ?_
              exact hret bb ρ' _ _ _ _ _ hW rfl rfl (by unfold forgiveP; rw [if_neg hone, if_neg (cho_1 c_2), hiq, if_pos c_4]; exact ⟨hFR.1, hkp⟩) dX8_forgive_160
          ·
            have hlt : i < 1024 := (by have := mi_nlt (a := 1023) (b := i) c_3 (by decide) (by omega); omega)
            refine lv_iload hx hb dX8_forgive_49 (lv_at hl 0 rfl) ?_
            refine lv_iload_n hx hb dX8_forgive_51 rfl (lv_at hl 3 rfl) ?_
            refine lv_iconst (v := (-1)) hx hb dX8_forgive_52 (by decide) ?_
            refine lv_ixor hx hb dX8_forgive_53 ?_
            refine lv_iand hx hb dX8_forgive_54 ?_
            refine lv_if_ne (tgt := 134) hx hb dX8_forgive_55 (by decide) (fun c_5 => ?_) (fun c_5 => ?_)
            ·
              refine lv_iinc (v := nI (i + 1)) (lv' := [(6, .int (nI (i + 1))), (4, .int bb), (5, .int ff), (3, .int (T q 2)), (0, .ref (ad 0)), (1, .int (nI q)), (2, .int w0)]) hx hb dX8_forgive_134 hl (k := 0) rfl (nI_1 i) (by decide) rfl (fun ls hl => ?_)
              refine lv_goto (tgt := 41) hx hb dX8_forgive_137 (by decide) ?_
              exact ih41 (i + 1) x ρ' _ _ (by omega) (by omega) (hkp) (by rw [fo_A (fun z => c_5 ((i32_in _ _).mpr z))]; exact hFR) _ _ _ hW (lv_sub hl [0, 1, 2, 3, 4, 5, 6] rfl)
            ·
              refine lv_iload hx hb dX8_forgive_58 (lv_at hl 1 rfl) ?_
              refine lv_iconst (v := (-1)) hx hb dX8_forgive_60 (by decide) ?_
              refine lv_icmp_eq (tgt := 74) hx hb dX8_forgive_61 (by decide) (fun c_6 => ?_) (fun c_6 => ?_)
              ·
                have hsub := (i32_in (nI i) (T q 2)).mp c_5
                have hones : onesS (nI i) < (forgK Lx T q i).2 := by rw [forg_none Lx T q i (by omega) (hFR.1.symm.trans c_6)]; exact ones_le i hlt
                refine lv_aload_n hx hb dX8_forgive_74 rfl (lv_at hl 4 rfl) ?_
                refine mr_f F hW 3 (by decide) rfl fl_RX8_16 dX8_forgive_75 ?_
                refine lv_iconst (v := 5) hx hb dX8_forgive_78 (by decide) ?_
                refine lv_iload_n hx hb dX8_forgive_79 rfl (lv_at hl 5 rfl) ?_
                refine lv_imul hx hb dX8_forgive_80 ?_
                refine lv_iload_n hx hb dX8_forgive_81 rfl (lv_at hl 3 rfl) ?_
                refine lv_iload hx hb dX8_forgive_82 (lv_at hl 0 rfl) ?_
                refine lv_iconst (v := (-1)) hx hb dX8_forgive_84 (by decide) ?_
                refine lv_ixor hx hb dX8_forgive_85 ?_
                refine lv_iand hx hb dX8_forgive_86 ?_
                refine lv_as (z := T q 2 ^^^ nI i) (i32_sub hsub) ?_
                refine mw_rows q 0 (by omega) (by decide) (mi_50 q) F hW dX8_forgive_87 (fun H locs hW => ?_)
                have hW : MW D cA ad ρ' (upT T q 2 (T q 2 ^^^ nI i)) σ A s s.heap H locs := by rw [upT_upT] at hW; exact hW
                refine lv_aload_n hx hb dX8_forgive_88 rfl (lv_at hl 4 rfl) ?_
                refine lv_iload_n hx hb dX8_forgive_89 rfl (lv_at hl 5 rfl) ?_
                refine gw_callVi (As := [.int (nI q)]) (rest := []) F hl.1 hW (fun _ _ _ => trivial) gw_T_E (by decide) (rfl : ment ad cA _ _ _ 0 = _) rfl (kX8_isStuck (n := n) (q := q) (Lx := Lx) (ok_upT hT hq6 (fun _ => okG_2 hGq (in_sub hlt hsub hGq.2.2.1))) hM (by rw [seats_upT (by omega)]; exact hq)) pd_yX8_isStuck ml_RX8_173 im_yX8_isStuck se_yX8_isStuck ini_RX8 cd_yX8_isStuck ⟨rfl, rfl⟩ ⟨Nat.le_of_ble_eq_true rfl, Nat.le_of_ble_eq_true rfl⟩ rfl rfl (Nat.le_of_ble_eq_true rfl) ⟨Nat.zero_le _, Nat.zero_le _⟩ dX8_forgive_90 (fun r ρ_8 H locs hp hW _ _ => ?_)
                obtain ⟨rfl, hk_7⟩ := hp
                refine lv_as (z := stuckS Lx (upT T q 2 (T q 2 ^^^ nI i)) q) rfl ?_
                refine lv_if_ne (tgt := 100) hx hb dX8_forgive_93 (by decide) (fun c_9 => ?_) (fun c_9 => ?_)
                ·
                  refine lv_iconst (v := 0) hx hb dX8_forgive_100 (by decide) ?_
                  refine lv_istore (lv' := [(7, .int 0), (6, .int (nI i)), (4, .int bb), (5, .int ff), (3, .int (T q 2)), (0, .ref (ad 0)), (1, .int (nI q)), (2, .int w0)]) hx hb dX8_forgive_101 hl (by decide) rfl (fun ls hl => ?_)
                  refine lv_iload hx hb dX8_forgive_103 (lv_at hl 0 rfl) ?_
                  refine lv_if_eq (tgt := 113) hx hb dX8_forgive_105 (by decide) (fun c_10 => ?_) (fun c_10 => ?_)
                  ·
                    refine lv_iload hx hb dX8_forgive_113 (lv_at hl 2 rfl) ?_
                    refine lv_istore (lv' := [(4, .int bb), (7, .int 0), (6, .int (nI i)), (5, .int ff), (3, .int (T q 2)), (0, .ref (ad 0)), (1, .int (nI q)), (2, .int w0)]) hx hb dX8_forgive_115 hl (by decide) rfl (fun ls hl => ?_)
                    refine lv_iload hx hb dX8_forgive_117 (lv_at hl 1 rfl) ?_
                    refine lv_if_eq (tgt := 130) hx hb dX8_forgive_119 (by decide) (fun c_11 => ?_) (fun c_11 => ?_)
                    ·
                      refine lv_iload hx hb dX8_forgive_130 (lv_at hl 3 rfl) ?_
                      refine lv_istore (lv' := [(5, .int ff), (4, .int bb), (7, .int 0), (6, .int (nI i)), (3, .int (T q 2)), (0, .ref (ad 0)), (1, .int (nI q)), (2, .int w0)]) hx hb dX8_forgive_132 hl (by decide) rfl (fun ls hl => ?_)
                      refine lv_iinc (v := nI (i + 1)) (lv' := [(6, .int (nI (i + 1))), (5, .int ff), (4, .int bb), (7, .int 0), (3, .int (T q 2)), (0, .ref (ad 0)), (1, .int (nI q)), (2, .int w0)]) hx hb dX8_forgive_134 hl (k := 3) rfl (nI_1 i) (by decide) rfl (fun ls hl => ?_)
                      refine lv_goto (tgt := 41) hx hb dX8_forgive_137 (by decide) ?_
                      exact ih41 (i + 1) (T q 2 ^^^ nI i) ρ_8 _ _ (by omega) (by omega) ((Kp.trans hkp hk_7)) (by rw [fo_C c_9]; exact hFR) _ _ _ hW (lv_sub hl [0, 2, 1, 4, 5, 6, 7] rfl)
                    ·
                      exact absurd c_11 (by decide)
                  ·
                    exact absurd c_10 (by decide)
                ·
                  refine lv_iconst (v := 1) hx hb dX8_forgive_96 (by decide) ?_
                  refine lv_goto (tgt := 101) hx hb dX8_forgive_97 (by decide) ?_
                  refine lv_istore (lv' := [(7, .int 1), (6, .int (nI i)), (4, .int bb), (5, .int ff), (3, .int (T q 2)), (0, .ref (ad 0)), (1, .int (nI q)), (2, .int w0)]) hx hb dX8_forgive_101 hl (by decide) rfl (fun ls hl => ?_)
                  refine lv_iload hx hb dX8_forgive_103 (lv_at hl 0 rfl) ?_
                  refine lv_if_eq (tgt := 113) hx hb dX8_forgive_105 (by decide) (fun c_12 => ?_) (fun c_12 => ?_)
                  ·
                    exact absurd c_12 (by decide)
                  ·
                    refine lv_iload hx hb dX8_forgive_108 (lv_at hl 1 rfl) ?_
                    refine lv_goto (tgt := 115) hx hb dX8_forgive_110 (by decide) ?_
                    refine lv_istore (lv' := [(4, .int (nI i)), (7, .int 1), (6, .int (nI i)), (5, .int ff), (3, .int (T q 2)), (0, .ref (ad 0)), (1, .int (nI q)), (2, .int w0)]) hx hb dX8_forgive_115 hl (by decide) rfl (fun ls hl => ?_)
                    refine lv_iload hx hb dX8_forgive_117 (lv_at hl 1 rfl) ?_
                    refine lv_if_eq (tgt := 130) hx hb dX8_forgive_119 (by decide) (fun c_13 => ?_) (fun c_13 => ?_)
                    ·
                      exact absurd c_13 (by decide)
                    ·
                      refine lv_iload hx hb dX8_forgive_122 (lv_at hl 2 rfl) ?_
                      refine gw_callP (As := [.int (nI i)]) (rest := []) F hl.1 (kX8_onesOf) pd_yX8_onesOf ml_RX8_82 st_yX8_onesOf ini_RX8 cd_yX8_onesOf ⟨rfl, rfl⟩ ⟨Nat.le_of_ble_eq_true rfl, Nat.le_of_ble_eq_true rfl⟩ rfl rfl (Nat.le_of_ble_eq_true rfl) ⟨Nat.zero_le _, Nat.zero_le _⟩ dX8_forgive_124 ?_
                      refine lv_as (z := onesS (nI i)) rfl ?_
                      refine lv_goto (tgt := 132) hx hb dX8_forgive_127 (by decide) ?_
                      refine lv_topi (fun v_14 ev_14 => ?_)
                      refine lv_istore (lv' := [(5, .int v_14), (4, .int (nI i)), (7, .int 1), (6, .int (nI i)), (3, .int (T q 2)), (0, .ref (ad 0)), (1, .int (nI q)), (2, .int w0)]) hx hb dX8_forgive_132 hl (by decide) rfl (fun ls hl => ?_)
                      refine lv_iinc (v := nI (i + 1)) (lv' := [(6, .int (nI (i + 1))), (5, .int v_14), (4, .int (nI i)), (7, .int 1), (3, .int (T q 2)), (0, .ref (ad 0)), (1, .int (nI q)), (2, .int w0)]) hx hb dX8_forgive_134 hl (k := 3) rfl (nI_1 i) (by decide) rfl (fun ls hl => ?_)
                      refine lv_goto (tgt := 41) hx hb dX8_forgive_137 (by decide) ?_
                      exact ih41 (i + 1) (T q 2 ^^^ nI i) ρ_8 _ _ (by omega) (by omega) ((Kp.trans hkp hk_7)) (by subst ev_14; rw [fo_D hsub hones c_9]; exact fr_new (i := i) (by omega)) _ _ _ hW (lv_sub hl [0, 2, 1, 4, 5, 6, 7] rfl)
              ·
                refine lv_iload hx hb dX8_forgive_64 (lv_at hl 0 rfl) ?_
                refine gw_callP (As := [.int (nI i)]) (rest := []) F hl.1 (kX8_onesOf) pd_yX8_onesOf ml_RX8_82 st_yX8_onesOf ini_RX8 cd_yX8_onesOf ⟨rfl, rfl⟩ ⟨Nat.le_of_ble_eq_true rfl, Nat.le_of_ble_eq_true rfl⟩ rfl rfl (Nat.le_of_ble_eq_true rfl) ⟨Nat.zero_le _, Nat.zero_le _⟩ dX8_forgive_66 ?_
                refine lv_as (z := onesS (nI i)) rfl ?_
                refine lv_iload hx hb dX8_forgive_69 (lv_at hl 2 rfl) ?_
                refine lv_icmp_ge (tgt := 134) hx hb dX8_forgive_71 (by decide) (fun c_15 => ?_) (fun c_15 => ?_)
                ·
                  refine lv_iinc (v := nI (i + 1)) (lv' := [(6, .int (nI (i + 1))), (4, .int bb), (5, .int ff), (3, .int (T q 2)), (0, .ref (ad 0)), (1, .int (nI q)), (2, .int w0)]) hx hb dX8_forgive_134 hl (k := 0) rfl (nI_1 i) (by decide) rfl (fun ls hl => ?_)
                  refine lv_goto (tgt := 41) hx hb dX8_forgive_137 (by decide) ?_
                  exact ih41 (i + 1) x ρ' _ _ (by omega) (by omega) (hkp) (by rw [fo_B (by rw [← hff c_6]; exact Int32.not_lt.mpr c_15)]; exact hFR) _ _ _ hW (lv_sub hl [0, 1, 2, 3, 4, 5, 6] rfl)
                ·
                  have hsub := (i32_in (nI i) (T q 2)).mp c_5
                  have hones : onesS (nI i) < (forgK Lx T q i).2 := by rw [← hff c_6]; exact Int32.not_le.mp c_15
                  refine lv_aload_n hx hb dX8_forgive_74 rfl (lv_at hl 4 rfl) ?_
                  refine mr_f F hW 3 (by decide) rfl fl_RX8_16 dX8_forgive_75 ?_
                  refine lv_iconst (v := 5) hx hb dX8_forgive_78 (by decide) ?_
                  refine lv_iload_n hx hb dX8_forgive_79 rfl (lv_at hl 5 rfl) ?_
                  refine lv_imul hx hb dX8_forgive_80 ?_
                  refine lv_iload_n hx hb dX8_forgive_81 rfl (lv_at hl 3 rfl) ?_
                  refine lv_iload hx hb dX8_forgive_82 (lv_at hl 0 rfl) ?_
                  refine lv_iconst (v := (-1)) hx hb dX8_forgive_84 (by decide) ?_
                  refine lv_ixor hx hb dX8_forgive_85 ?_
                  refine lv_iand hx hb dX8_forgive_86 ?_
                  refine lv_as (z := T q 2 ^^^ nI i) (i32_sub hsub) ?_
                  refine mw_rows q 0 (by omega) (by decide) (mi_50 q) F hW dX8_forgive_87 (fun H locs hW => ?_)
                  have hW : MW D cA ad ρ' (upT T q 2 (T q 2 ^^^ nI i)) σ A s s.heap H locs := by rw [upT_upT] at hW; exact hW
                  refine lv_aload_n hx hb dX8_forgive_88 rfl (lv_at hl 4 rfl) ?_
                  refine lv_iload_n hx hb dX8_forgive_89 rfl (lv_at hl 5 rfl) ?_
                  refine gw_callVi (As := [.int (nI q)]) (rest := []) F hl.1 hW (fun _ _ _ => trivial) gw_T_E (by decide) (rfl : ment ad cA _ _ _ 0 = _) rfl (kX8_isStuck (n := n) (q := q) (Lx := Lx) (ok_upT hT hq6 (fun _ => okG_2 hGq (in_sub hlt hsub hGq.2.2.1))) hM (by rw [seats_upT (by omega)]; exact hq)) pd_yX8_isStuck ml_RX8_173 im_yX8_isStuck se_yX8_isStuck ini_RX8 cd_yX8_isStuck ⟨rfl, rfl⟩ ⟨Nat.le_of_ble_eq_true rfl, Nat.le_of_ble_eq_true rfl⟩ rfl rfl (Nat.le_of_ble_eq_true rfl) ⟨Nat.zero_le _, Nat.zero_le _⟩ dX8_forgive_90 (fun r ρ_17 H locs hp hW _ _ => ?_)
                  obtain ⟨rfl, hk_16⟩ := hp
                  refine lv_as (z := stuckS Lx (upT T q 2 (T q 2 ^^^ nI i)) q) rfl ?_
                  refine lv_if_ne (tgt := 100) hx hb dX8_forgive_93 (by decide) (fun c_18 => ?_) (fun c_18 => ?_)
                  ·
                    refine lv_iconst (v := 0) hx hb dX8_forgive_100 (by decide) ?_
                    refine lv_istore (lv' := [(7, .int 0), (6, .int (nI i)), (4, .int bb), (5, .int ff), (3, .int (T q 2)), (0, .ref (ad 0)), (1, .int (nI q)), (2, .int w0)]) hx hb dX8_forgive_101 hl (by decide) rfl (fun ls hl => ?_)
                    refine lv_iload hx hb dX8_forgive_103 (lv_at hl 0 rfl) ?_
                    refine lv_if_eq (tgt := 113) hx hb dX8_forgive_105 (by decide) (fun c_19 => ?_) (fun c_19 => ?_)
                    ·
                      refine lv_iload hx hb dX8_forgive_113 (lv_at hl 2 rfl) ?_
                      refine lv_istore (lv' := [(4, .int bb), (7, .int 0), (6, .int (nI i)), (5, .int ff), (3, .int (T q 2)), (0, .ref (ad 0)), (1, .int (nI q)), (2, .int w0)]) hx hb dX8_forgive_115 hl (by decide) rfl (fun ls hl => ?_)
                      refine lv_iload hx hb dX8_forgive_117 (lv_at hl 1 rfl) ?_
                      refine lv_if_eq (tgt := 130) hx hb dX8_forgive_119 (by decide) (fun c_20 => ?_) (fun c_20 => ?_)
                      ·
                        refine lv_iload hx hb dX8_forgive_130 (lv_at hl 3 rfl) ?_
                        refine lv_istore (lv' := [(5, .int ff), (4, .int bb), (7, .int 0), (6, .int (nI i)), (3, .int (T q 2)), (0, .ref (ad 0)), (1, .int (nI q)), (2, .int w0)]) hx hb dX8_forgive_132 hl (by decide) rfl (fun ls hl => ?_)
                        refine lv_iinc (v := nI (i + 1)) (lv' := [(6, .int (nI (i + 1))), (5, .int ff), (4, .int bb), (7, .int 0), (3, .int (T q 2)), (0, .ref (ad 0)), (1, .int (nI q)), (2, .int w0)]) hx hb dX8_forgive_134 hl (k := 3) rfl (nI_1 i) (by decide) rfl (fun ls hl => ?_)
                        refine lv_goto (tgt := 41) hx hb dX8_forgive_137 (by decide) ?_
                        exact ih41 (i + 1) (T q 2 ^^^ nI i) ρ_17 _ _ (by omega) (by omega) ((Kp.trans hkp hk_16)) (by rw [fo_C c_18]; exact hFR) _ _ _ hW (lv_sub hl [0, 2, 1, 4, 5, 6, 7] rfl)
                      ·
                        exact absurd c_20 (by decide)
                    ·
                      exact absurd c_19 (by decide)
                  ·
                    refine lv_iconst (v := 1) hx hb dX8_forgive_96 (by decide) ?_
                    refine lv_goto (tgt := 101) hx hb dX8_forgive_97 (by decide) ?_
                    refine lv_istore (lv' := [(7, .int 1), (6, .int (nI i)), (4, .int bb), (5, .int ff), (3, .int (T q 2)), (0, .ref (ad 0)), (1, .int (nI q)), (2, .int w0)]) hx hb dX8_forgive_101 hl (by decide) rfl (fun ls hl => ?_)
                    refine lv_iload hx hb dX8_forgive_103 (lv_at hl 0 rfl) ?_
                    refine lv_if_eq (tgt := 113) hx hb dX8_forgive_105 (by decide) (fun c_21 => ?_) (fun c_21 => ?_)
                    ·
                      exact absurd c_21 (by decide)
                    ·
                      refine lv_iload hx hb dX8_forgive_108 (lv_at hl 1 rfl) ?_
                      refine lv_goto (tgt := 115) hx hb dX8_forgive_110 (by decide) ?_
                      refine lv_istore (lv' := [(4, .int (nI i)), (7, .int 1), (6, .int (nI i)), (5, .int ff), (3, .int (T q 2)), (0, .ref (ad 0)), (1, .int (nI q)), (2, .int w0)]) hx hb dX8_forgive_115 hl (by decide) rfl (fun ls hl => ?_)
                      refine lv_iload hx hb dX8_forgive_117 (lv_at hl 1 rfl) ?_
                      refine lv_if_eq (tgt := 130) hx hb dX8_forgive_119 (by decide) (fun c_22 => ?_) (fun c_22 => ?_)
                      ·
                        exact absurd c_22 (by decide)
                      ·
                        refine lv_iload hx hb dX8_forgive_122 (lv_at hl 2 rfl) ?_
                        refine gw_callP (As := [.int (nI i)]) (rest := []) F hl.1 (kX8_onesOf) pd_yX8_onesOf ml_RX8_82 st_yX8_onesOf ini_RX8 cd_yX8_onesOf ⟨rfl, rfl⟩ ⟨Nat.le_of_ble_eq_true rfl, Nat.le_of_ble_eq_true rfl⟩ rfl rfl (Nat.le_of_ble_eq_true rfl) ⟨Nat.zero_le _, Nat.zero_le _⟩ dX8_forgive_124 ?_
                        refine lv_as (z := onesS (nI i)) rfl ?_
                        refine lv_goto (tgt := 132) hx hb dX8_forgive_127 (by decide) ?_
                        refine lv_topi (fun v_23 ev_23 => ?_)
                        refine lv_istore (lv' := [(5, .int v_23), (4, .int (nI i)), (7, .int 1), (6, .int (nI i)), (3, .int (T q 2)), (0, .ref (ad 0)), (1, .int (nI q)), (2, .int w0)]) hx hb dX8_forgive_132 hl (by decide) rfl (fun ls hl => ?_)
                        refine lv_iinc (v := nI (i + 1)) (lv' := [(6, .int (nI (i + 1))), (5, .int v_23), (4, .int (nI i)), (7, .int 1), (3, .int (T q 2)), (0, .ref (ad 0)), (1, .int (nI q)), (2, .int w0)]) hx hb dX8_forgive_134 hl (k := 3) rfl (nI_1 i) (by decide) rfl (fun ls hl => ?_)
                        refine lv_goto (tgt := 41) hx hb dX8_forgive_137 (by decide) ?_
                        exact ih41 (i + 1) (T q 2 ^^^ nI i) ρ_17 _ _ (by omega) (by omega) ((Kp.trans hkp hk_16)) (by subst ev_23; rw [fo_D hsub hones c_18]; exact fr_new (i := i) (by omega)) _ _ _ hW (lv_sub hl [0, 2, 1, 4, 5, 6, 7] rfl)
      exact L41 1025 0 (T q 2) _ (-1) (-1) (by omega) (by omega) (Kp.rf) (⟨rfl, rfl⟩) _ _ _ hW (lv_sub hl [0, 2, 1, 3, 4, 5, 6] rfl)
    ·
      refine lv_bipush (v := (-7)) hx hb dX8_forgive_20 (by decide) ?_
      exact hret (-7) ρ _ _ _ _ _ hW rfl rfl (by unfold forgiveP; rw [if_neg c_1, if_pos (cho_0 c_2)]; exact ⟨rfl, Kp.rf⟩) dX8_forgive_22
  ·
    refine lv_bipush (v := (-5)) hx hb dX8_forgive_8 (by decide) ?_
    exact hret (-5) ρ _ _ _ _ _ hW rfl rfl (by unfold forgiveP; rw [if_pos c_1]; exact ⟨rfl, Kp.rf⟩) dX8_forgive_10
theorem runS_n {Lx : Lw} {T : Tb} {v w : Int32} (h : runP v = 0) : runS Lx T v w = -2 := if_pos h
theorem runS_y1 {Lx : Lw} {T : Tb} {v w : Int32} (h : ¬ runP v = 0) (h2 : ¬ allW w = 0) : runS Lx T v w = runA Lx T (iN v) w := by unfold runS; rw [if_neg h, if_neg h2]
theorem runS_y2 {Lx : Lw} {T : Tb} {v w : Int32} (h : ¬ runP v = 0) (h2 : allW w = 0) (h3 : ¬ oneW T w = 0) : runS Lx T v w = runA Lx T (iN v) w := by unfold runS; rw [if_neg h, if_pos h2, if_neg h3]
theorem runS_n2 {Lx : Lw} {T : Tb} {v w : Int32} (h : ¬ runP v = 0) (h2 : allW w = 0) (h3 : oneW T w = 0) : runS Lx T v w = -2 := by unfold runS; rw [if_neg h, if_pos h2, if_pos h3]
theorem oneW_lt {T : Tb} {w : Int32} (h : ¬ inP w 0 2 = 0) : oneW T w = 0 := by
  obtain ⟨j, hj, rfl⟩ := in_nat (k := 2) (by decide) h
  unfold oneW; rw [if_pos (show nI j < 10 from nI_lt (b := 10) (by omega) (by decide))]
theorem oneW_no {T : Tb} {w : Int32} (h : inP w 10 39 = 0) : oneW T w = 0 := by
  unfold oneW
  rw [in_z] at h
  rcases h with h | h
  · rw [if_pos h]
  · by_cases h1 : w < 10
    · rw [if_pos h1]
    · rw [if_neg h1, if_pos (by rw [l40]; exact h)]
theorem oneW_in {T : Tb} {w : Int32} (h : ¬ inP w 10 39 = 0) : oneW T w = oneP T (remS w 10) := by
  obtain ⟨h0, h1⟩ := in_y h
  unfold oneW; rw [if_neg h0, if_neg (by rw [l40]; exact h1)]
abbrev rm_yX8_run : Room := { frames := 8, cells := 0, slots := 0, locals := 186 }
set_option maxHeartbeats 800000 in
set_option maxRecDepth 100000 in
theorem kX8_run {l : Launch} {D : va_G} {cA : ClassId} {ad : Nat → Nat} {ρ T σ : Nat → Nat → Int32} {sz : Nat} {n : Nat} {Lx : Lw} {v v2 : Int32} (hT : okT n T) (hM : okML n σ Lx) : MMi l yX8_run cX8_run 5 FieldType.int rm_yX8_run [.ref (ad 0), .int v, .int v2] D cA ad ρ T σ sz (fun (r : Int32) (u : Nat → Nat → Int32) => r = runS Lx T v v2) (fun u : Nat → Nat → Int32 => ment ad cA u T σ) := by
  refine gw_stI (Ff := fun u : Nat → Nat → Int32 => ment ad cA u T σ) (own := RX8) (by decide +kernel) rfl (Nat.le_of_ble_eq_true rfl) ?_
  intro p e s m ar below meth c A Q F hE hsz hW hret ls hl
  obtain ⟨hx, hb, hml, hown, hts⟩ := id F
  have hl : lv_has ls 5 [(0, .ref (ad 0)), (1, .int v), (2, .int v2)] := hl
  have hs6 := hT.1
  have hsN := hT.2.1
  refine lv_iload_n hx hb dX8_run_0 rfl (lv_at hl 2 rfl) ?_
  refine lv_bipush (v := 10) hx hb dX8_run_1 (by decide) ?_
  refine lv_irem hx hb dX8_run_3 (by decide) ?_
  refine lv_as (z := remS v2 10) rfl ?_
  refine lv_istore_n (lv' := [(3, .int (remS v2 10)), (0, .ref (ad 0)), (1, .int v), (2, .int v2)]) hx hb dX8_run_4 rfl hl (by decide) rfl (fun ls hl => ?_)
  refine lv_iload_n hx hb dX8_run_5 rfl (lv_at hl 2 rfl) ?_
  refine lv_iconst (v := 0) hx hb dX8_run_6 (by decide) ?_
  refine lv_bipush (v := 40) hx hb dX8_run_7 (by decide) ?_
  refine gw_callP (As := [.int v, .int 0, .int 40]) (rest := []) F hl.1 (kX8_in) pd_yX8_in ml_RX8_72 st_yX8_in ini_RX8 cd_yX8_in ⟨rfl, rfl⟩ ⟨Nat.le_of_ble_eq_true rfl, Nat.le_of_ble_eq_true rfl⟩ rfl rfl (Nat.le_of_ble_eq_true rfl) ⟨Nat.zero_le _, Nat.zero_le _⟩ dX8_run_9 ?_
  refine lv_as (z := inP v 0 40) rfl ?_
  refine lv_if_eq (tgt := 43) hx hb dX8_run_12 (by decide) (fun c_1 => ?_) (fun c_1 => ?_)
  ·
    refine lv_bipush (v := (-2)) hx hb dX8_run_43 (by decide) ?_
    exact hret (-2) ρ _ _ _ _ _ hW rfl rfl (by rw [runS_n (show runP v = 0 from c_1)]) dX8_run_45
  ·
    obtain ⟨w, hw40, rfl⟩ := run_nat (v := v) c_1; have hiw : iN (nI w) = w := iN_nI (by omega)
    refine lv_iload_n hx hb dX8_run_15 rfl (lv_at hl 3 rfl) ?_
    refine lv_iconst (v := 0) hx hb dX8_run_16 (by decide) ?_
    refine lv_iconst (v := 2) hx hb dX8_run_17 (by decide) ?_
    refine gw_callP (As := [.int v2, .int 0, .int 2]) (rest := []) F hl.1 (kX8_in) pd_yX8_in ml_RX8_72 st_yX8_in ini_RX8 cd_yX8_in ⟨rfl, rfl⟩ ⟨Nat.le_of_ble_eq_true rfl, Nat.le_of_ble_eq_true rfl⟩ rfl rfl (Nat.le_of_ble_eq_true rfl) ⟨Nat.zero_le _, Nat.zero_le _⟩ dX8_run_18 ?_
    refine lv_as (z := inP v2 0 2) rfl ?_
    refine lv_if_ne (tgt := 46) hx hb dX8_run_21 (by decide) (fun c_2 => ?_) (fun c_2 => ?_)
    ·
      refine lv_aload_n hx hb dX8_run_46 rfl (lv_at hl 1 rfl) ?_
      refine gw_callVv (As := []) (rest := []) F hl.1 hW (fun _ _ _ => trivial) gw_T_E (by decide) (rfl : ment ad cA _ _ _ 0 = _) rfl (kX8_keeps) pd_yX8_keeps ml_RX8_195 im_yX8_keeps se_yX8_keeps ini_RX8 cd_yX8_keeps ⟨rfl, rfl⟩ ⟨Nat.le_of_ble_eq_true rfl, Nat.le_of_ble_eq_true rfl⟩ rfl rfl (Nat.le_of_ble_eq_true rfl) ⟨Nat.zero_le _, Nat.zero_le _⟩ dX8_run_47 (fun ρ_3 H locs hp hW _ _ => ?_)
      obtain ⟨h0_4, hK_5⟩ := hp
      refine lv_aload_n hx hb dX8_run_50 rfl (lv_at hl 1 rfl) ?_
      refine lv_iload_n hx hb dX8_run_51 rfl (lv_at hl 2 rfl) ?_
      refine gw_callVi (As := [.int (nI w)]) (rest := []) F hl.1 hW (fun _ _ _ => trivial) gw_T_E (by decide) (rfl : ment ad cA _ _ _ 0 = _) rfl (kX8_passes (n := n) (w := w) (Lx := Lx) hT hM (by omega)) pd_yX8_passes ml_RX8_198 im_yX8_passes se_yX8_passes ini_RX8 cd_yX8_passes ⟨rfl, rfl⟩ ⟨Nat.le_of_ble_eq_true rfl, Nat.le_of_ble_eq_true rfl⟩ rfl rfl (Nat.le_of_ble_eq_true rfl) ⟨Nat.zero_le _, Nat.zero_le _⟩ dX8_run_52 (fun r u H locs hp hW _ _ => ?_)
      obtain ⟨ρ_6, T_7⟩ := u
      obtain ⟨rfl, hk_8, hTe⟩ := hp
      have hTe : T_7 = (passN Lx T w).1 := hTe
      subst hTe
      refine lv_as (z := (passN Lx T w).2) rfl ?_
      refine lv_topi (fun v_9 ev_9 => ?_)
      refine lv_istore (lv' := [(4, .int v_9), (3, .int (remS v2 10)), (0, .ref (ad 0)), (1, .int (nI w)), (2, .int v2)]) hx hb dX8_run_55 hl (by decide) rfl (fun ls hl => ?_)
      refine lv_iload_n hx hb dX8_run_57 rfl (lv_at hl 4 rfl) ?_
      by_cases c_10 : v2 = 0
      ·
        refine lv_tableIn (off := 26) (tgt := 84) hx hb dX8_run_58 (by rw [c_10]; decide) (by rw [c_10]; decide) (by rw [c_10]; rfl) (by decide) ?_
        refine lv_aload_n hx hb dX8_run_84 rfl (lv_at hl 2 rfl) ?_
        refine gw_callVi (As := []) (rest := []) F hl.1 hW (fun _ _ _ => trivial) gw_T_E (by decide) (rfl : ment ad cA _ _ _ 0 = _) rfl (kX8_stuckSet (n := n) (Lx := Lx) (ok_passN (Lx := Lx) hT w).1 hM) pd_yX8_stuckSet ml_RX8_79 im_yX8_stuckSet se_yX8_stuckSet ini_RX8 cd_yX8_stuckSet ⟨rfl, rfl⟩ ⟨Nat.le_of_ble_eq_true rfl, Nat.le_of_ble_eq_true rfl⟩ rfl rfl (Nat.le_of_ble_eq_true rfl) ⟨Nat.zero_le _, Nat.zero_le _⟩ dX8_run_85 (fun r ρ_12 H locs hp hW _ _ => ?_)
        obtain ⟨rfl, hk_11⟩ := hp
        refine lv_as (z := stuckBS Lx ((passN Lx T w).1)) rfl ?_
        refine lv_topi (fun v_13 ev_13 => ?_)
        refine lv_istore (lv' := [(4, .int v_13), (3, .int (remS v2 10)), (0, .ref (ad 0)), (1, .int (nI w)), (2, .int v2)]) hx hb dX8_run_88 hl (by decide) rfl (fun ls hl => ?_)
        refine lv_goto (tgt := 137) hx hb dX8_run_90 (by decide) ?_
        refine lv_aload_n hx hb dX8_run_137 rfl (lv_at hl 2 rfl) ?_
        refine gw_callVv (As := []) (rest := []) F hl.1 hW (fun _ _ _ => trivial) gw_T_E (by decide) (rfl : ment ad cA _ _ _ 0 = _) rfl (kX8_lays) pd_yX8_lays ml_RX8_201 im_yX8_lays se_yX8_lays ini_RX8 cd_yX8_lays ⟨rfl, rfl⟩ ⟨Nat.le_of_ble_eq_true rfl, Nat.le_of_ble_eq_true rfl⟩ rfl rfl (Nat.le_of_ble_eq_true rfl) ⟨Nat.zero_le _, Nat.zero_le _⟩ dX8_run_138 (fun T_14 H locs hp hW _ _ => ?_)
        have hp : T = T_14 := (hp.trans (lay_back (kept_kp hK_5 (Kp.trans (Kp.trans Kp.rf hk_8) hk_11)) (OutT.rf.trans (out_passN (Lx := Lx) hT w)))).symm
        subst hp
        refine lv_iload hx hb dX8_run_141 (lv_at hl 0 rfl) ?_
        exact hret v_13 ρ_12 _ _ _ _ _ hW rfl rfl (by subst ev_13 ev_9; rw [runS_y1 (show ¬ runP (nI w) = 0 from c_1) (show ¬ allW v2 = 0 from c_2), hiw]; unfold runA; rw [if_pos (oneW_lt c_2), if_pos c_10]) dX8_run_143
      ·
        by_cases c_15 : v2 = 1
        ·
          refine lv_tableIn (off := 35) (tgt := 93) hx hb dX8_run_58 (by rw [c_15]; decide) (by rw [c_15]; decide) (by rw [c_15]; rfl) (by decide) ?_
          refine lv_goto (tgt := 137) hx hb dX8_run_93 (by decide) ?_
          refine lv_aload_n hx hb dX8_run_137 rfl (lv_at hl 2 rfl) ?_
          refine gw_callVv (As := []) (rest := []) F hl.1 hW (fun _ _ _ => trivial) gw_T_E (by decide) (rfl : ment ad cA _ _ _ 0 = _) rfl (kX8_lays) pd_yX8_lays ml_RX8_201 im_yX8_lays se_yX8_lays ini_RX8 cd_yX8_lays ⟨rfl, rfl⟩ ⟨Nat.le_of_ble_eq_true rfl, Nat.le_of_ble_eq_true rfl⟩ rfl rfl (Nat.le_of_ble_eq_true rfl) ⟨Nat.zero_le _, Nat.zero_le _⟩ dX8_run_138 (fun T_16 H locs hp hW _ _ => ?_)
          have hp : T = T_16 := (hp.trans (lay_back (kept_kp hK_5 (Kp.trans Kp.rf hk_8)) (OutT.rf.trans (out_passN (Lx := Lx) hT w)))).symm
          subst hp
          refine lv_iload hx hb dX8_run_141 (lv_at hl 0 rfl) ?_
          exact hret v_9 ρ_6 _ _ _ _ _ hW rfl rfl (by subst ev_9; rw [runS_y1 (show ¬ runP (nI w) = 0 from c_1) (show ¬ allW v2 = 0 from c_2), hiw]; unfold runA; rw [if_pos (oneW_lt c_2), if_neg c_10, if_pos c_15]) dX8_run_143
        ·
          by_cases c_17 : v2 = 2
          ·
            refine lv_tableIn (off := 38) (tgt := 96) hx hb dX8_run_58 (by rw [c_17]; decide) (by rw [c_17]; decide) (by rw [c_17]; rfl) (by decide) ?_
            refine lv_aload_n hx hb dX8_run_96 rfl (lv_at hl 2 rfl) ?_
            refine gw_callVi (As := []) (rest := []) F hl.1 hW (fun _ _ _ => trivial) gw_T_E (by decide) (rfl : ment ad cA _ _ _ 0 = _) rfl (kX8_ateAll (n := n) (ok_passN (Lx := Lx) hT w).1) pd_yX8_ateAll ml_RX8_182 im_yX8_ateAll se_yX8_ateAll ini_RX8 cd_yX8_ateAll ⟨rfl, rfl⟩ ⟨Nat.le_of_ble_eq_true rfl, Nat.le_of_ble_eq_true rfl⟩ rfl rfl (Nat.le_of_ble_eq_true rfl) ⟨Nat.zero_le _, Nat.zero_le _⟩ dX8_run_97 (fun r u H locs hp hW _ _ => ?_)
            subst hp
            refine lv_as (z := ateS ((passN Lx T w).1)) rfl ?_
            refine lv_topi (fun v_18 ev_18 => ?_)
            refine lv_istore (lv' := [(4, .int v_18), (3, .int (remS v2 10)), (0, .ref (ad 0)), (1, .int (nI w)), (2, .int v2)]) hx hb dX8_run_100 hl (by decide) rfl (fun ls hl => ?_)
            refine lv_goto (tgt := 137) hx hb dX8_run_102 (by decide) ?_
            refine lv_aload_n hx hb dX8_run_137 rfl (lv_at hl 2 rfl) ?_
            refine gw_callVv (As := []) (rest := []) F hl.1 hW (fun _ _ _ => trivial) gw_T_E (by decide) (rfl : ment ad cA _ _ _ 0 = _) rfl (kX8_lays) pd_yX8_lays ml_RX8_201 im_yX8_lays se_yX8_lays ini_RX8 cd_yX8_lays ⟨rfl, rfl⟩ ⟨Nat.le_of_ble_eq_true rfl, Nat.le_of_ble_eq_true rfl⟩ rfl rfl (Nat.le_of_ble_eq_true rfl) ⟨Nat.zero_le _, Nat.zero_le _⟩ dX8_run_138 (fun T_19 H locs hp hW _ _ => ?_)
            have hp : T = T_19 := (hp.trans (lay_back (kept_kp hK_5 (Kp.trans Kp.rf hk_8)) (OutT.rf.trans (out_passN (Lx := Lx) hT w)))).symm
            subst hp
            refine lv_iload hx hb dX8_run_141 (lv_at hl 0 rfl) ?_
            exact hret v_18 ρ_6 _ _ _ _ _ hW rfl rfl (by subst ev_18 ev_9; rw [runS_y1 (show ¬ runP (nI w) = 0 from c_1) (show ¬ allW v2 = 0 from c_2), hiw]; unfold runA; rw [if_pos (oneW_lt c_2), if_neg c_10, if_neg c_15]) dX8_run_143
          ·
            refine lv_tableOut (tgt := 105) hx hb dX8_run_58 (tb_out3_0 c_10 c_15 c_17) (by decide) ?_
            obtain ⟨j3, hj3, e3⟩ := in_nat (k := 2) (by decide) c_2
            exact absurd (show v2 = 0 ∨ v2 = 1 ∨ v2 = 2 by rw [e3]; rcases (show j3 = 0 ∨ j3 = 1 ∨ j3 = 2 by omega) with rfl | rfl | rfl <;> simp [nI]) (by simp [c_10, c_15, c_17])
    ·
      refine lv_iload_n hx hb dX8_run_24 rfl (lv_at hl 3 rfl) ?_
      refine lv_bipush (v := 10) hx hb dX8_run_25 (by decide) ?_
      refine lv_bipush (v := 39) hx hb dX8_run_27 (by decide) ?_
      refine gw_callP (As := [.int v2, .int 10, .int 39]) (rest := []) F hl.1 (kX8_in) pd_yX8_in ml_RX8_72 st_yX8_in ini_RX8 cd_yX8_in ⟨rfl, rfl⟩ ⟨Nat.le_of_ble_eq_true rfl, Nat.le_of_ble_eq_true rfl⟩ rfl rfl (Nat.le_of_ble_eq_true rfl) ⟨Nat.zero_le _, Nat.zero_le _⟩ dX8_run_29 ?_
      refine lv_as (z := inP v2 10 39) rfl ?_
      refine lv_if_eq (tgt := 43) hx hb dX8_run_32 (by decide) (fun c_20 => ?_) (fun c_20 => ?_)
      ·
        refine lv_bipush (v := (-2)) hx hb dX8_run_43 (by decide) ?_
        exact hret (-2) ρ _ _ _ _ _ hW rfl rfl (by rw [runS_n2 (show ¬ runP (nI w) = 0 from c_1) (show allW v2 = 0 from c_2) (oneW_no c_20)]) dX8_run_45
      ·
        refine lv_aload_n hx hb dX8_run_35 rfl (lv_at hl 1 rfl) ?_
        refine lv_iload_n hx hb dX8_run_36 rfl (lv_at hl 0 rfl) ?_
        refine gw_callVi (As := [.int (remS v2 10)]) (rest := []) F hl.1 hW (fun _ _ _ => trivial) gw_T_E (by decide) (rfl : ment ad cA _ _ _ 0 = _) rfl (kX8_isOne (n := n) hT) pd_yX8_isOne ml_RX8_161 im_yX8_isOne se_yX8_isOne ini_RX8 cd_yX8_isOne ⟨rfl, rfl⟩ ⟨Nat.le_of_ble_eq_true rfl, Nat.le_of_ble_eq_true rfl⟩ rfl rfl (Nat.le_of_ble_eq_true rfl) ⟨Nat.zero_le _, Nat.zero_le _⟩ dX8_run_37 (fun r u H locs hp hW _ _ => ?_)
        subst hp
        refine lv_as (z := oneP T (remS v2 10)) rfl ?_
        refine lv_if_ne (tgt := 46) hx hb dX8_run_40 (by decide) (fun c_21 => ?_) (fun c_21 => ?_)
        ·
          obtain ⟨q, hq, hqe⟩ := one_nat hT c_21; have hq6 : q < 6 := seats_le hT hq; have hiq : iN (remS v2 10) = q := (congrArg iN hqe).trans (iN_nI (by omega)); rw [hqe] at hl
          refine lv_aload_n hx hb dX8_run_46 rfl (lv_at hl 1 rfl) ?_
          refine gw_callVv (As := []) (rest := []) F hl.1 hW (fun _ _ _ => trivial) gw_T_E (by decide) (rfl : ment ad cA _ _ _ 0 = _) rfl (kX8_keeps) pd_yX8_keeps ml_RX8_195 im_yX8_keeps se_yX8_keeps ini_RX8 cd_yX8_keeps ⟨rfl, rfl⟩ ⟨Nat.le_of_ble_eq_true rfl, Nat.le_of_ble_eq_true rfl⟩ rfl rfl (Nat.le_of_ble_eq_true rfl) ⟨Nat.zero_le _, Nat.zero_le _⟩ dX8_run_47 (fun ρ_22 H locs hp hW _ _ => ?_)
          obtain ⟨h0_23, hK_24⟩ := hp
          refine lv_aload_n hx hb dX8_run_50 rfl (lv_at hl 1 rfl) ?_
          refine lv_iload_n hx hb dX8_run_51 rfl (lv_at hl 2 rfl) ?_
          refine gw_callVi (As := [.int (nI w)]) (rest := []) F hl.1 hW (fun _ _ _ => trivial) gw_T_E (by decide) (rfl : ment ad cA _ _ _ 0 = _) rfl (kX8_passes (n := n) (w := w) (Lx := Lx) hT hM (by omega)) pd_yX8_passes ml_RX8_198 im_yX8_passes se_yX8_passes ini_RX8 cd_yX8_passes ⟨rfl, rfl⟩ ⟨Nat.le_of_ble_eq_true rfl, Nat.le_of_ble_eq_true rfl⟩ rfl rfl (Nat.le_of_ble_eq_true rfl) ⟨Nat.zero_le _, Nat.zero_le _⟩ dX8_run_52 (fun r u H locs hp hW _ _ => ?_)
          obtain ⟨ρ_25, T_26⟩ := u
          obtain ⟨rfl, hk_27, hTe⟩ := hp
          have hTe : T_26 = (passN Lx T w).1 := hTe
          subst hTe
          refine lv_as (z := (passN Lx T w).2) rfl ?_
          refine lv_topi (fun v_28 ev_28 => ?_)
          refine lv_istore (lv' := [(4, .int v_28), (3, .int (nI q)), (0, .ref (ad 0)), (1, .int (nI w)), (2, .int v2)]) hx hb dX8_run_55 hl (by decide) rfl (fun ls hl => ?_)
          refine lv_iload_n hx hb dX8_run_57 rfl (lv_at hl 4 rfl) ?_
          by_cases c_29 : v2 = 0
          ·
            refine lv_tableIn (off := 26) (tgt := 84) hx hb dX8_run_58 (by rw [c_29]; decide) (by rw [c_29]; decide) (by rw [c_29]; rfl) (by decide) ?_
            exact absurd (show ¬ v2 < 10 from (in_y c_20).1) (by rw [c_29]; decide)
          ·
            by_cases c_30 : v2 = 1
            ·
              refine lv_tableIn (off := 35) (tgt := 93) hx hb dX8_run_58 (by rw [c_30]; decide) (by rw [c_30]; decide) (by rw [c_30]; rfl) (by decide) ?_
              exact absurd (show ¬ v2 < 10 from (in_y c_20).1) (by rw [c_30]; decide)
            ·
              by_cases c_31 : v2 = 2
              ·
                refine lv_tableIn (off := 38) (tgt := 96) hx hb dX8_run_58 (by rw [c_31]; decide) (by rw [c_31]; decide) (by rw [c_31]; rfl) (by decide) ?_
                exact absurd (show ¬ v2 < 10 from (in_y c_20).1) (by rw [c_31]; decide)
              ·
                refine lv_tableOut (tgt := 105) hx hb dX8_run_58 (tb_out3_0 c_29 c_30 c_31) (by decide) ?_
                refine lv_aload_n hx hb dX8_run_105 rfl (lv_at hl 2 rfl) ?_
                refine mr_f F hW 3 (by decide) rfl fl_RX8_16 dX8_run_106 ?_
                refine lv_iconst (v := 5) hx hb dX8_run_109 (by decide) ?_
                refine lv_iload_n hx hb dX8_run_110 rfl (lv_at hl 1 rfl) ?_
                refine lv_imul hx hb dX8_run_111 ?_
                refine lv_iload_n hx hb dX8_run_112 rfl (lv_at hl 4 rfl) ?_
                refine lv_bipush (v := 20) hx hb dX8_run_113 (by decide) ?_
                refine lv_icmp_ge (tgt := 122) hx hb dX8_run_115 (by decide) (fun c_32 => ?_) (fun c_32 => ?_)
                ·
                  refine lv_iload_n hx hb dX8_run_122 rfl (lv_at hl 4 rfl) ?_
                  refine lv_bipush (v := 30) hx hb dX8_run_123 (by decide) ?_
                  refine lv_icmp_ge (tgt := 132) hx hb dX8_run_125 (by decide) (fun c_33 => ?_) (fun c_33 => ?_)
                  ·
                    refine lv_iconst (v := 2) hx hb dX8_run_132 (by decide) ?_
                    refine lv_iadd hx hb dX8_run_133 ?_
                    refine mr_rows q 2 (by omega) (by decide) (mi_5k q 2) F hW dX8_run_134 ?_
                    refine lv_topi (fun v_34 ev_34 => ?_)
                    refine lv_istore (lv' := [(4, .int v_34), (3, .int (nI q)), (0, .ref (ad 0)), (1, .int (nI w)), (2, .int v2)]) hx hb dX8_run_135 hl (by decide) rfl (fun ls hl => ?_)
                    refine lv_aload_n hx hb dX8_run_137 rfl (lv_at hl 2 rfl) ?_
                    refine gw_callVv (As := []) (rest := []) F hl.1 hW (fun _ _ _ => trivial) gw_T_E (by decide) (rfl : ment ad cA _ _ _ 0 = _) rfl (kX8_lays) pd_yX8_lays ml_RX8_201 im_yX8_lays se_yX8_lays ini_RX8 cd_yX8_lays ⟨rfl, rfl⟩ ⟨Nat.le_of_ble_eq_true rfl, Nat.le_of_ble_eq_true rfl⟩ rfl rfl (Nat.le_of_ble_eq_true rfl) ⟨Nat.zero_le _, Nat.zero_le _⟩ dX8_run_138 (fun T_35 H locs hp hW _ _ => ?_)
                    have hp : T = T_35 := (hp.trans (lay_back (kept_kp hK_24 (Kp.trans Kp.rf hk_27)) (OutT.rf.trans (out_passN (Lx := Lx) hT w)))).symm
                    subst hp
                    refine lv_iload hx hb dX8_run_141 (lv_at hl 0 rfl) ?_
                    exact hret v_34 ρ_25 _ _ _ _ _ hW rfl rfl (by subst ev_34 ev_28; rw [runS_y2 (show ¬ runP (nI w) = 0 from c_1) (show allW v2 = 0 from c_2) (by rw [oneW_in c_20]; exact c_21), hiw]; unfold runA; rw [if_neg (by rw [oneW_in c_20]; exact c_21), hiq, if_neg (Int32.not_lt.mpr c_32), if_neg (Int32.not_lt.mpr c_33)]) dX8_run_143
                  ·
                    refine lv_iconst (v := 3) hx hb dX8_run_128 (by decide) ?_
                    refine lv_goto (tgt := 133) hx hb dX8_run_129 (by decide) ?_
                    refine lv_iadd hx hb dX8_run_133 ?_
                    refine mr_rows q 3 (by omega) (by decide) (mi_5k q 3) F hW dX8_run_134 ?_
                    refine lv_topi (fun v_36 ev_36 => ?_)
                    refine lv_istore (lv' := [(4, .int v_36), (3, .int (nI q)), (0, .ref (ad 0)), (1, .int (nI w)), (2, .int v2)]) hx hb dX8_run_135 hl (by decide) rfl (fun ls hl => ?_)
                    refine lv_aload_n hx hb dX8_run_137 rfl (lv_at hl 2 rfl) ?_
                    refine gw_callVv (As := []) (rest := []) F hl.1 hW (fun _ _ _ => trivial) gw_T_E (by decide) (rfl : ment ad cA _ _ _ 0 = _) rfl (kX8_lays) pd_yX8_lays ml_RX8_201 im_yX8_lays se_yX8_lays ini_RX8 cd_yX8_lays ⟨rfl, rfl⟩ ⟨Nat.le_of_ble_eq_true rfl, Nat.le_of_ble_eq_true rfl⟩ rfl rfl (Nat.le_of_ble_eq_true rfl) ⟨Nat.zero_le _, Nat.zero_le _⟩ dX8_run_138 (fun T_37 H locs hp hW _ _ => ?_)
                    have hp : T = T_37 := (hp.trans (lay_back (kept_kp hK_24 (Kp.trans Kp.rf hk_27)) (OutT.rf.trans (out_passN (Lx := Lx) hT w)))).symm
                    subst hp
                    refine lv_iload hx hb dX8_run_141 (lv_at hl 0 rfl) ?_
                    exact hret v_36 ρ_25 _ _ _ _ _ hW rfl rfl (by subst ev_36 ev_28; rw [runS_y2 (show ¬ runP (nI w) = 0 from c_1) (show allW v2 = 0 from c_2) (by rw [oneW_in c_20]; exact c_21), hiw]; unfold runA; rw [if_neg (by rw [oneW_in c_20]; exact c_21), hiq, if_neg (Int32.not_lt.mpr c_32), if_pos (Int32.not_le.mp c_33)]) dX8_run_143
                ·
                  refine lv_iconst (v := 0) hx hb dX8_run_118 (by decide) ?_
                  refine lv_goto (tgt := 133) hx hb dX8_run_119 (by decide) ?_
                  refine lv_iadd hx hb dX8_run_133 ?_
                  refine mr_rows q 0 (by omega) (by decide) (mi_5k q 0) F hW dX8_run_134 ?_
                  refine lv_topi (fun v_38 ev_38 => ?_)
                  refine lv_istore (lv' := [(4, .int v_38), (3, .int (nI q)), (0, .ref (ad 0)), (1, .int (nI w)), (2, .int v2)]) hx hb dX8_run_135 hl (by decide) rfl (fun ls hl => ?_)
                  refine lv_aload_n hx hb dX8_run_137 rfl (lv_at hl 2 rfl) ?_
                  refine gw_callVv (As := []) (rest := []) F hl.1 hW (fun _ _ _ => trivial) gw_T_E (by decide) (rfl : ment ad cA _ _ _ 0 = _) rfl (kX8_lays) pd_yX8_lays ml_RX8_201 im_yX8_lays se_yX8_lays ini_RX8 cd_yX8_lays ⟨rfl, rfl⟩ ⟨Nat.le_of_ble_eq_true rfl, Nat.le_of_ble_eq_true rfl⟩ rfl rfl (Nat.le_of_ble_eq_true rfl) ⟨Nat.zero_le _, Nat.zero_le _⟩ dX8_run_138 (fun T_39 H locs hp hW _ _ => ?_)
                  have hp : T = T_39 := (hp.trans (lay_back (kept_kp hK_24 (Kp.trans Kp.rf hk_27)) (OutT.rf.trans (out_passN (Lx := Lx) hT w)))).symm
                  subst hp
                  refine lv_iload hx hb dX8_run_141 (lv_at hl 0 rfl) ?_
                  exact hret v_38 ρ_25 _ _ _ _ _ hW rfl rfl (by subst ev_38 ev_28; rw [runS_y2 (show ¬ runP (nI w) = 0 from c_1) (show allW v2 = 0 from c_2) (by rw [oneW_in c_20]; exact c_21), hiw]; unfold runA; rw [if_neg (by rw [oneW_in c_20]; exact c_21), hiq, if_pos (Int32.not_le.mp c_32)]) dX8_run_143
        ·
          refine lv_bipush (v := (-2)) hx hb dX8_run_43 (by decide) ?_
          exact hret (-2) ρ _ _ _ _ _ hW rfl rfl (by rw [runS_n2 (show ¬ runP (nI w) = 0 from c_1) (show allW v2 = 0 from c_2) (by rw [oneW_in c_20]; exact c_21)]) dX8_run_45
theorem oneS_def (g : Int32) : (1 : Int32) <<< (g &&& 31) = oneS g := rfl
theorem isW_7 {st g : Int32} : isW st g (nI 7) = if st = 0 then 1 else 0 := by
  unfold isW; rw [if_neg (by decide), if_neg (by decide)]
theorem isW_6 {st g : Int32} : isW st g (nI 6) = if st = oneS g - 1 then 1 else 0 := by
  unfold isW; rw [if_neg (by decide), if_pos (by decide)]
theorem isW_q {st g : Int32} {j : Nat} (h : j < 6) : isW st g (nI j) = if bitS st (nI j) = 1 then 1 else 0 := by
  unfold isW; rw [if_pos (show nI j < 6 from nI_lt (b := 6) h (by decide))]; rfl
theorem when_no {w : Int32} {Lx : Lw} {T : Tb} (h : inP w 0 7 = 0) : whenP Lx T w = -5 := by
  unfold whenP; rw [in_z] at h
  rcases h with h | h
  · rw [if_pos h]
  · by_cases h0 : w < 0
    · rw [if_pos h0]
    · rw [if_neg h0, if_pos h]
theorem when_one {w : Int32} {Lx : Lw} {T : Tb} (h : ¬ inP w 0 7 = 0) (h6 : w < 6) (h1 : oneP T w = 0) : whenP Lx T w = -5 := by
  obtain ⟨a, b⟩ := in_y h
  unfold whenP; rw [if_neg a, if_neg b, if_pos h6, if_pos h1]
theorem when_go {w : Int32} {Lx : Lw} {T : Tb} (h : ¬ inP w 0 7 = 0) (h6 : w < 6 → ¬ oneP T w = 0) : whenP Lx T w = whenF Lx T w 61 0 := by
  obtain ⟨a, b⟩ := in_y h
  unfold whenP; rw [if_neg a, if_neg b]
  by_cases c : w < 6
  · rw [if_pos c, if_neg (h6 c)]
  · rw [if_neg c]
abbrev rm_yX8_when : Room := { frames := 7, cells := 0, slots := 0, locals := 163 }
set_option maxHeartbeats 800000 in
set_option maxRecDepth 100000 in
theorem kX8_when {l : Launch} {D : va_G} {cA : ClassId} {ad : Nat → Nat} {ρ T σ : Nat → Nat → Int32} {sz : Nat} {n : Nat} {Lx : Lw} {w1 : Int32} (hT : okT n T) (hM : okML n σ Lx) : MMi l yX8_when cX8_when 6 FieldType.int rm_yX8_when [.ref (ad 0), .int w1] D cA ad ρ T σ sz (fun (r : Int32) (u : Nat → Nat → Int32) => r = whenP Lx T w1) (fun u : Nat → Nat → Int32 => ment ad cA u T σ) := by
  refine gw_stI (Ff := fun u : Nat → Nat → Int32 => ment ad cA u T σ) (own := RX8) (by decide +kernel) rfl (Nat.le_of_ble_eq_true rfl) ?_
  intro p e s m ar below meth c A Q F hE hsz hW hret ls hl
  obtain ⟨hx, hb, hml, hown, hts⟩ := id F
  have hl : lv_has ls 6 [(0, .ref (ad 0)), (1, .int w1)] := hl
  have hs6 := hT.1
  have hsN := hT.2.1
  refine lv_iload_n hx hb dX8_when_0 rfl (lv_at hl 1 rfl) ?_
  refine lv_iconst (v := 0) hx hb dX8_when_1 (by decide) ?_
  refine lv_bipush (v := 7) hx hb dX8_when_2 (by decide) ?_
  refine gw_callP (As := [.int w1, .int 0, .int 7]) (rest := []) F hl.1 (kX8_in) pd_yX8_in ml_RX8_72 st_yX8_in ini_RX8 cd_yX8_in ⟨rfl, rfl⟩ ⟨Nat.le_of_ble_eq_true rfl, Nat.le_of_ble_eq_true rfl⟩ rfl rfl (Nat.le_of_ble_eq_true rfl) ⟨Nat.zero_le _, Nat.zero_le _⟩ dX8_when_4 ?_
  refine lv_as (z := inP w1 0 7) rfl ?_
  refine lv_if_eq (tgt := 24) hx hb dX8_when_7 (by decide) (fun c_1 => ?_) (fun c_1 => ?_)
  ·
    refine lv_bipush (v := (-5)) hx hb dX8_when_24 (by decide) ?_
    exact hret (-5) ρ _ _ _ _ _ hW rfl rfl (by rw [when_no c_1]) dX8_when_26
  ·
    obtain ⟨wj, hwj, rfl⟩ := in_nat (k := 7) (by decide) c_1
    refine lv_iload_n hx hb dX8_when_10 rfl (lv_at hl 1 rfl) ?_
    refine lv_bipush (v := 6) hx hb dX8_when_11 (by decide) ?_
    refine lv_icmp_ge (tgt := 27) hx hb dX8_when_13 (by decide) (fun c_2 => ?_) (fun c_2 => ?_)
    ·
      have hgo : whenP Lx T (nI wj) = whenF Lx T (nI wj) 61 0 := when_go c_1 (fun z => absurd z (Int32.not_lt.mpr c_2))
      refine lv_iconst (v := (-1)) hx hb dX8_when_27 (by decide) ?_
      refine lv_istore_n (lv' := [(2, .int (-1)), (0, .ref (ad 0)), (1, .int (nI wj))]) hx hb dX8_when_28 rfl hl (by decide) rfl (fun ls hl => ?_)
      refine lv_aload_n hx hb dX8_when_29 rfl (lv_at hl 1 rfl) ?_
      refine gw_callVv (As := []) (rest := []) F hl.1 hW (fun _ _ _ => trivial) gw_T_E (by decide) (rfl : ment ad cA _ _ _ 0 = _) rfl (kX8_keeps) pd_yX8_keeps ml_RX8_195 im_yX8_keeps se_yX8_keeps ini_RX8 cd_yX8_keeps ⟨rfl, rfl⟩ ⟨Nat.le_of_ble_eq_true rfl, Nat.le_of_ble_eq_true rfl⟩ rfl rfl (Nat.le_of_ble_eq_true rfl) ⟨Nat.zero_le _, Nat.zero_le _⟩ dX8_when_30 (fun ρ_3 H locs hp hW _ _ => ?_)
      obtain ⟨h0_4, hK_5⟩ := hp
      refine lv_iconst (v := 0) hx hb dX8_when_33 (by decide) ?_
      refine lv_istore_n (lv' := [(3, .int 0), (2, .int (-1)), (0, .ref (ad 0)), (1, .int (nI wj))]) hx hb dX8_when_34 rfl hl (by decide) rfl (fun ls hl => ?_)
      generalize hR0 : whenF Lx T (nI wj) 61 0 = RES
      have L35 : ∀ (k : Nat) (i f : Nat) (ρ' : Nat → Nat → Int32) (T' : Tb) (bb : Int32), (i + f = 61) → (62 ≤ i + k) → (KeptOf (ρ' 17) T) → (T' = (passN Lx T i).1) → ((bb = -1 ∧ whenF Lx T (nI wj) f i = RES) ∨ (¬ bb = -1 ∧ bb = RES)) → ∀ (H : Heap) (locs : List Loc) (ls : Array Slot), MW D cA ad ρ' T' σ A s s.heap H locs → lv_has ls 6 [(3, .int (nI i)), (2, .int bb), (0, .ref (ad 0)), (1, .int (nI wj))] → W p l e rm_yX8_when s m ar below meth c H locs 0 0 Q (F0 m 35 ls []) := by
        intro k
        induction k with
        | zero => intro i f ρ' T' bb h1 h2 hKk hTT hbb; exact absurd h2 (by omega)
        | succ k ih35 =>
          intro i f ρ' T' bb h1 h2 hKk hTT hbb H locs ls hW hl
          have hT' : okT n T' := by rw [hTT]; exact (ok_passN hT i).1
          have hOT : OutT T T' := by rw [hTT]; exact out_passN hT i
          have hg6 : T' 6 1 = T 6 1 := hOT.get (by omega) (by omega)
          refine lv_iload_n hx hb dX8_when_35 rfl (lv_at hl 0 rfl) ?_
          refine lv_bipush (v := 60) hx hb dX8_when_36 (by decide) ?_
          refine lv_icmp_gt (tgt := 137) hx hb dX8_when_38 (by decide) (fun c_6 => ?_) (fun c_6 => ?_)
          ·
            have hbR : bb = RES := (by have := mi_lt (a := 60) (b := i) c_6 (by decide) (by omega); obtain rfl : f = 0 := (by omega); exact hbb.elim (fun z => z.1.trans z.2) (fun z => z.2))
            refine lv_aload_n hx hb dX8_when_137 rfl (lv_at hl 2 rfl) ?_
            refine gw_callVv (As := []) (rest := []) F hl.1 hW (fun _ _ _ => trivial) gw_T_E (by decide) (rfl : ment ad cA _ _ _ 0 = _) rfl (kX8_lays) pd_yX8_lays ml_RX8_201 im_yX8_lays se_yX8_lays ini_RX8 cd_yX8_lays ⟨rfl, rfl⟩ ⟨Nat.le_of_ble_eq_true rfl, Nat.le_of_ble_eq_true rfl⟩ rfl rfl (Nat.le_of_ble_eq_true rfl) ⟨Nat.zero_le _, Nat.zero_le _⟩ dX8_when_138 (fun T_7 H locs hp hW _ _ => ?_)
            have hp : T = T_7 := (hp.trans (lay_back (kept_kp hKk Kp.rf) hOT)).symm
            subst hp
            refine lv_iload_n hx hb dX8_when_141 rfl (lv_at hl 1 rfl) ?_
            exact hret bb ρ' _ _ _ _ _ hW rfl rfl (by rw [hgo, hR0, hbR]) dX8_when_142
          ·
            have hlt : i ≤ 60 := mi_nlt (a := 60) (b := i) c_6 (by decide) (by omega); obtain ⟨f', rfl⟩ : ∃ z, f = z + 1 := ⟨f - 1, by omega⟩
            refine lv_iload_n hx hb dX8_when_41 rfl (lv_at hl 1 rfl) ?_
            refine lv_iconst (v := (-1)) hx hb dX8_when_42 (by decide) ?_
            refine lv_icmp_ne (tgt := 137) hx hb dX8_when_43 (by decide) (fun c_8 => ?_) (fun c_8 => ?_)
            ·
              have hbR : bb = RES := hbb.elim (fun z => absurd z.1 c_8) (fun z => z.2)
              refine lv_aload_n hx hb dX8_when_137 rfl (lv_at hl 2 rfl) ?_
              refine gw_callVv (As := []) (rest := []) F hl.1 hW (fun _ _ _ => trivial) gw_T_E (by decide) (rfl : ment ad cA _ _ _ 0 = _) rfl (kX8_lays) pd_yX8_lays ml_RX8_201 im_yX8_lays se_yX8_lays ini_RX8 cd_yX8_lays ⟨rfl, rfl⟩ ⟨Nat.le_of_ble_eq_true rfl, Nat.le_of_ble_eq_true rfl⟩ rfl rfl (Nat.le_of_ble_eq_true rfl) ⟨Nat.zero_le _, Nat.zero_le _⟩ dX8_when_138 (fun T_9 H locs hp hW _ _ => ?_)
              have hp : T = T_9 := (hp.trans (lay_back (kept_kp hKk Kp.rf) hOT)).symm
              subst hp
              refine lv_iload_n hx hb dX8_when_141 rfl (lv_at hl 1 rfl) ?_
              exact hret bb ρ' _ _ _ _ _ hW rfl rfl (by rw [hgo, hR0, hbR]) dX8_when_142
            ·
              have hB : whenF Lx T (nI wj) (f' + 1) i = RES := hbb.elim (fun z => z.2) (fun z => absurd c_8 z.1)
              refine lv_aload_n hx hb dX8_when_46 rfl (lv_at hl 2 rfl) ?_
              refine gw_callVi (As := []) (rest := []) F hl.1 hW (fun _ _ _ => trivial) gw_T_E (by decide) (rfl : ment ad cA _ _ _ 0 = _) rfl (kX8_stuckSet (n := n) (Lx := Lx) hT' hM) pd_yX8_stuckSet ml_RX8_79 im_yX8_stuckSet se_yX8_stuckSet ini_RX8 cd_yX8_stuckSet ⟨rfl, rfl⟩ ⟨Nat.le_of_ble_eq_true rfl, Nat.le_of_ble_eq_true rfl⟩ rfl rfl (Nat.le_of_ble_eq_true rfl) ⟨Nat.zero_le _, Nat.zero_le _⟩ dX8_when_47 (fun r ρ_11 H locs hp hW _ _ => ?_)
              obtain ⟨rfl, hk_10⟩ := hp
              refine lv_as (z := stuckBS Lx T') rfl ?_
              refine lv_topi (fun v_12 ev_12 => ?_)
              refine lv_istore (lv' := [(4, .int v_12), (3, .int (nI i)), (2, .int bb), (0, .ref (ad 0)), (1, .int (nI wj))]) hx hb dX8_when_50 hl (by decide) rfl (fun ls hl => ?_)
              refine lv_iload_n hx hb dX8_when_52 rfl (lv_at hl 4 rfl) ?_
              refine lv_bipush (v := 7) hx hb dX8_when_53 (by decide) ?_
              refine lv_icmp_ne (tgt := 71) hx hb dX8_when_55 (by decide) (fun c_13 => ?_) (fun c_13 => ?_)
              ·
                have hw7 : ¬ wj = 7 := fun z => c_13 (by rw [z]; rfl)
                refine lv_iload_n hx hb dX8_when_71 rfl (lv_at hl 4 rfl) ?_
                refine lv_bipush (v := 6) hx hb dX8_when_72 (by decide) ?_
                refine lv_icmp_ne (tgt := 98) hx hb dX8_when_74 (by decide) (fun c_14 => ?_) (fun c_14 => ?_)
                ·
                  have hw6 : ¬ wj = 6 := fun z => c_14 (by rw [z]; rfl); have hwj6 : wj < 6 := (by omega)
                  refine lv_iload hx hb dX8_when_98 (lv_at hl 0 rfl) ?_
                  refine lv_iload_n hx hb dX8_when_100 rfl (lv_at hl 4 rfl) ?_
                  refine lv_ishr hx hb dX8_when_101 ?_
                  refine lv_iconst (v := 1) hx hb dX8_when_102 (by decide) ?_
                  refine lv_iand hx hb dX8_when_103 ?_
                  refine lv_iconst (v := 1) hx hb dX8_when_104 (by decide) ?_
                  refine lv_icmp_ne (tgt := 112) hx hb dX8_when_105 (by decide) (fun c_15 => ?_) (fun c_15 => ?_)
                  ·
                    refine lv_iconst (v := 0) hx hb dX8_when_112 (by decide) ?_
                    refine lv_istore (lv' := [(5, .int 0), (4, .int v_12), (3, .int (nI i)), (2, .int bb), (0, .ref (ad 0)), (1, .int (nI wj))]) hx hb dX8_when_113 hl (by decide) rfl (fun ls hl => ?_)
                    refine lv_iload hx hb dX8_when_115 (lv_at hl 0 rfl) ?_
                    refine lv_if_eq (tgt := 124) hx hb dX8_when_117 (by decide) (fun c_16 => ?_) (fun c_16 => ?_)
                    ·
                      refine lv_iconst (v := (-1)) hx hb dX8_when_124 (by decide) ?_
                      refine lv_istore_n (lv' := [(2, .int (-1)), (5, .int 0), (4, .int v_12), (3, .int (nI i)), (0, .ref (ad 0)), (1, .int (nI wj))]) hx hb dX8_when_125 rfl hl (by decide) rfl (fun ls hl => ?_)
                      refine lv_aload_n hx hb dX8_when_126 rfl (lv_at hl 4 rfl) ?_
                      refine gw_callVi (As := []) (rest := []) F hl.1 hW (fun _ _ _ => trivial) gw_T_E (by decide) (rfl : ment ad cA _ _ _ 0 = _) rfl (kX8_minuteOf (n := n) (Lx := Lx) hT' hM) pd_yX8_minuteOf ml_RX8_188 im_yX8_minuteOf se_yX8_minuteOf ini_RX8 cd_yX8_minuteOf ⟨rfl, rfl⟩ ⟨Nat.le_of_ble_eq_true rfl, Nat.le_of_ble_eq_true rfl⟩ rfl rfl (Nat.le_of_ble_eq_true rfl) ⟨Nat.zero_le _, Nat.zero_le _⟩ dX8_when_127 (fun r u H locs hp hW _ _ => ?_)
                      obtain ⟨ρ_17, T_18⟩ := u
                      obtain ⟨rfl, hk_19, hTe⟩ := hp
                      have hTe : T_18 = (passS Lx T').1 := hTe
                      subst hTe
                      refine lv_as (z := (passS Lx T').2) rfl ?_
                      refine lv_pop hx hb dX8_when_130 rfl ?_
                      refine lv_iinc (v := nI (i + 1)) (lv' := [(3, .int (nI (i + 1))), (2, .int (-1)), (5, .int 0), (4, .int v_12), (0, .ref (ad 0)), (1, .int (nI wj))]) hx hb dX8_when_131 hl (k := 3) rfl (nI_1 i) (by decide) rfl (fun ls hl => ?_)
                      refine lv_goto (tgt := 35) hx hb dX8_when_134 (by decide) ?_
                      exact ih35 (i + 1) f' ρ_17 ((passS Lx T').1) _ (by omega) (by omega) (kept_kp hKk (Kp.trans (Kp.trans Kp.rf hk_10) hk_19)) (by rw [hTT]; rfl) (Or.inl ⟨rfl, by rw [← hB]; exact (if_pos (show isW (stuckBS Lx (passN Lx T i).1) (T 6 1) (nI wj) = _ from ((isW_q hwj6 : isW (stuckBS Lx (passN Lx T i).1) (T 6 1) (nI wj) = _)).trans (if_neg (by rw [← hTT, ← ev_12]; exact c_15)))).symm⟩) _ _ _ hW (lv_sub hl [0, 1, 4, 5] rfl)
                    ·
                      exact absurd c_16 (by decide)
                  ·
                    refine lv_iconst (v := 1) hx hb dX8_when_108 (by decide) ?_
                    refine lv_goto (tgt := 113) hx hb dX8_when_109 (by decide) ?_
                    refine lv_istore (lv' := [(5, .int 1), (4, .int v_12), (3, .int (nI i)), (2, .int bb), (0, .ref (ad 0)), (1, .int (nI wj))]) hx hb dX8_when_113 hl (by decide) rfl (fun ls hl => ?_)
                    refine lv_iload hx hb dX8_when_115 (lv_at hl 0 rfl) ?_
                    refine lv_if_eq (tgt := 124) hx hb dX8_when_117 (by decide) (fun c_20 => ?_) (fun c_20 => ?_)
                    ·
                      exact absurd c_20 (by decide)
                    ·
                      refine lv_iload_n hx hb dX8_when_120 rfl (lv_at hl 2 rfl) ?_
                      refine lv_goto (tgt := 125) hx hb dX8_when_121 (by decide) ?_
                      refine lv_istore_n (lv' := [(2, .int (nI i)), (5, .int 1), (4, .int v_12), (3, .int (nI i)), (0, .ref (ad 0)), (1, .int (nI wj))]) hx hb dX8_when_125 rfl hl (by decide) rfl (fun ls hl => ?_)
                      refine lv_aload_n hx hb dX8_when_126 rfl (lv_at hl 4 rfl) ?_
                      refine gw_callVi (As := []) (rest := []) F hl.1 hW (fun _ _ _ => trivial) gw_T_E (by decide) (rfl : ment ad cA _ _ _ 0 = _) rfl (kX8_minuteOf (n := n) (Lx := Lx) hT' hM) pd_yX8_minuteOf ml_RX8_188 im_yX8_minuteOf se_yX8_minuteOf ini_RX8 cd_yX8_minuteOf ⟨rfl, rfl⟩ ⟨Nat.le_of_ble_eq_true rfl, Nat.le_of_ble_eq_true rfl⟩ rfl rfl (Nat.le_of_ble_eq_true rfl) ⟨Nat.zero_le _, Nat.zero_le _⟩ dX8_when_127 (fun r u H locs hp hW _ _ => ?_)
                      obtain ⟨ρ_21, T_22⟩ := u
                      obtain ⟨rfl, hk_23, hTe⟩ := hp
                      have hTe : T_22 = (passS Lx T').1 := hTe
                      subst hTe
                      refine lv_as (z := (passS Lx T').2) rfl ?_
                      refine lv_pop hx hb dX8_when_130 rfl ?_
                      refine lv_iinc (v := nI (i + 1)) (lv' := [(3, .int (nI (i + 1))), (2, .int (nI i)), (5, .int 1), (4, .int v_12), (0, .ref (ad 0)), (1, .int (nI wj))]) hx hb dX8_when_131 hl (k := 3) rfl (nI_1 i) (by decide) rfl (fun ls hl => ?_)
                      refine lv_goto (tgt := 35) hx hb dX8_when_134 (by decide) ?_
                      exact ih35 (i + 1) f' ρ_21 ((passS Lx T').1) _ (by omega) (by omega) (kept_kp hKk (Kp.trans (Kp.trans Kp.rf hk_10) hk_23)) (by rw [hTT]; rfl) (Or.inr ⟨nI_m1 (by omega), by rw [← hB]; exact (if_neg (by rw [show isW (stuckBS Lx (passN Lx T i).1) (T 6 1) (nI wj) = _ from ((isW_q hwj6 : isW (stuckBS Lx (passN Lx T i).1) (T 6 1) (nI wj) = _)).trans (if_pos (by rw [← hTT, ← ev_12]; exact c_15))]; decide)).symm⟩) _ _ _ hW (lv_sub hl [0, 1, 4, 5] rfl)
                ·
                  have hwe : wj = 6 := nI_i (by omega) (by decide) c_14
                  refine lv_iload hx hb dX8_when_77 (lv_at hl 0 rfl) ?_
                  refine lv_iconst (v := 1) hx hb dX8_when_79 (by decide) ?_
                  refine lv_aload_n hx hb dX8_when_80 rfl (lv_at hl 3 rfl) ?_
                  refine mr_f F hW 0 (by decide) rfl fl_RX8_69 dX8_when_81 ?_
                  refine lv_as (z := T 6 1) hg6 ?_
                  refine lv_ishl hx hb dX8_when_84 ?_
                  refine lv_iconst (v := 1) hx hb dX8_when_85 (by decide) ?_
                  refine lv_isub hx hb dX8_when_86 ?_
                  refine lv_icmp_ne (tgt := 94) hx hb dX8_when_87 (by decide) (fun c_24 => ?_) (fun c_24 => ?_)
                  ·
                    refine lv_iconst (v := 0) hx hb dX8_when_94 (by decide) ?_
                    refine lv_goto (tgt := 113) hx hb dX8_when_95 (by decide) ?_
                    refine lv_istore (lv' := [(5, .int 0), (4, .int v_12), (3, .int (nI i)), (2, .int bb), (0, .ref (ad 0)), (1, .int (nI wj))]) hx hb dX8_when_113 hl (by decide) rfl (fun ls hl => ?_)
                    refine lv_iload hx hb dX8_when_115 (lv_at hl 0 rfl) ?_
                    refine lv_if_eq (tgt := 124) hx hb dX8_when_117 (by decide) (fun c_25 => ?_) (fun c_25 => ?_)
                    ·
                      refine lv_iconst (v := (-1)) hx hb dX8_when_124 (by decide) ?_
                      refine lv_istore_n (lv' := [(2, .int (-1)), (5, .int 0), (4, .int v_12), (3, .int (nI i)), (0, .ref (ad 0)), (1, .int (nI wj))]) hx hb dX8_when_125 rfl hl (by decide) rfl (fun ls hl => ?_)
                      refine lv_aload_n hx hb dX8_when_126 rfl (lv_at hl 4 rfl) ?_
                      refine gw_callVi (As := []) (rest := []) F hl.1 hW (fun _ _ _ => trivial) gw_T_E (by decide) (rfl : ment ad cA _ _ _ 0 = _) rfl (kX8_minuteOf (n := n) (Lx := Lx) hT' hM) pd_yX8_minuteOf ml_RX8_188 im_yX8_minuteOf se_yX8_minuteOf ini_RX8 cd_yX8_minuteOf ⟨rfl, rfl⟩ ⟨Nat.le_of_ble_eq_true rfl, Nat.le_of_ble_eq_true rfl⟩ rfl rfl (Nat.le_of_ble_eq_true rfl) ⟨Nat.zero_le _, Nat.zero_le _⟩ dX8_when_127 (fun r u H locs hp hW _ _ => ?_)
                      obtain ⟨ρ_26, T_27⟩ := u
                      obtain ⟨rfl, hk_28, hTe⟩ := hp
                      have hTe : T_27 = (passS Lx T').1 := hTe
                      subst hTe
                      refine lv_as (z := (passS Lx T').2) rfl ?_
                      refine lv_pop hx hb dX8_when_130 rfl ?_
                      refine lv_iinc (v := nI (i + 1)) (lv' := [(3, .int (nI (i + 1))), (2, .int (-1)), (5, .int 0), (4, .int v_12), (0, .ref (ad 0)), (1, .int (nI wj))]) hx hb dX8_when_131 hl (k := 3) rfl (nI_1 i) (by decide) rfl (fun ls hl => ?_)
                      refine lv_goto (tgt := 35) hx hb dX8_when_134 (by decide) ?_
                      exact ih35 (i + 1) f' ρ_26 ((passS Lx T').1) _ (by omega) (by omega) (kept_kp hKk (Kp.trans (Kp.trans Kp.rf hk_10) hk_28)) (by rw [hTT]; rfl) (Or.inl ⟨rfl, by rw [← hB]; exact (if_pos (show isW (stuckBS Lx (passN Lx T i).1) (T 6 1) (nI wj) = _ from ((by rw [hwe]; exact isW_6 : isW (stuckBS Lx (passN Lx T i).1) (T 6 1) (nI wj) = _)).trans (if_neg (by rw [← hTT, ← ev_12]; exact c_24)))).symm⟩) _ _ _ hW (lv_sub hl [0, 1, 4, 5] rfl)
                    ·
                      exact absurd c_25 (by decide)
                  ·
                    refine lv_iconst (v := 1) hx hb dX8_when_90 (by decide) ?_
                    refine lv_goto (tgt := 113) hx hb dX8_when_91 (by decide) ?_
                    refine lv_istore (lv' := [(5, .int 1), (4, .int v_12), (3, .int (nI i)), (2, .int bb), (0, .ref (ad 0)), (1, .int (nI wj))]) hx hb dX8_when_113 hl (by decide) rfl (fun ls hl => ?_)
                    refine lv_iload hx hb dX8_when_115 (lv_at hl 0 rfl) ?_
                    refine lv_if_eq (tgt := 124) hx hb dX8_when_117 (by decide) (fun c_29 => ?_) (fun c_29 => ?_)
                    ·
                      exact absurd c_29 (by decide)
                    ·
                      refine lv_iload_n hx hb dX8_when_120 rfl (lv_at hl 2 rfl) ?_
                      refine lv_goto (tgt := 125) hx hb dX8_when_121 (by decide) ?_
                      refine lv_istore_n (lv' := [(2, .int (nI i)), (5, .int 1), (4, .int v_12), (3, .int (nI i)), (0, .ref (ad 0)), (1, .int (nI wj))]) hx hb dX8_when_125 rfl hl (by decide) rfl (fun ls hl => ?_)
                      refine lv_aload_n hx hb dX8_when_126 rfl (lv_at hl 4 rfl) ?_
                      refine gw_callVi (As := []) (rest := []) F hl.1 hW (fun _ _ _ => trivial) gw_T_E (by decide) (rfl : ment ad cA _ _ _ 0 = _) rfl (kX8_minuteOf (n := n) (Lx := Lx) hT' hM) pd_yX8_minuteOf ml_RX8_188 im_yX8_minuteOf se_yX8_minuteOf ini_RX8 cd_yX8_minuteOf ⟨rfl, rfl⟩ ⟨Nat.le_of_ble_eq_true rfl, Nat.le_of_ble_eq_true rfl⟩ rfl rfl (Nat.le_of_ble_eq_true rfl) ⟨Nat.zero_le _, Nat.zero_le _⟩ dX8_when_127 (fun r u H locs hp hW _ _ => ?_)
                      obtain ⟨ρ_30, T_31⟩ := u
                      obtain ⟨rfl, hk_32, hTe⟩ := hp
                      have hTe : T_31 = (passS Lx T').1 := hTe
                      subst hTe
                      refine lv_as (z := (passS Lx T').2) rfl ?_
                      refine lv_pop hx hb dX8_when_130 rfl ?_
                      refine lv_iinc (v := nI (i + 1)) (lv' := [(3, .int (nI (i + 1))), (2, .int (nI i)), (5, .int 1), (4, .int v_12), (0, .ref (ad 0)), (1, .int (nI wj))]) hx hb dX8_when_131 hl (k := 3) rfl (nI_1 i) (by decide) rfl (fun ls hl => ?_)
                      refine lv_goto (tgt := 35) hx hb dX8_when_134 (by decide) ?_
                      exact ih35 (i + 1) f' ρ_30 ((passS Lx T').1) _ (by omega) (by omega) (kept_kp hKk (Kp.trans (Kp.trans Kp.rf hk_10) hk_32)) (by rw [hTT]; rfl) (Or.inr ⟨nI_m1 (by omega), by rw [← hB]; exact (if_neg (by rw [show isW (stuckBS Lx (passN Lx T i).1) (T 6 1) (nI wj) = _ from ((by rw [hwe]; exact isW_6 : isW (stuckBS Lx (passN Lx T i).1) (T 6 1) (nI wj) = _)).trans (if_pos (by rw [← hTT, ← ev_12]; exact c_24))]; decide)).symm⟩) _ _ _ hW (lv_sub hl [0, 1, 4, 5] rfl)
              ·
                have hwe : wj = 7 := nI_i (by omega) (by decide) c_13
                refine lv_iload hx hb dX8_when_58 (lv_at hl 0 rfl) ?_
                refine lv_if_ne (tgt := 67) hx hb dX8_when_60 (by decide) (fun c_33 => ?_) (fun c_33 => ?_)
                ·
                  refine lv_iconst (v := 0) hx hb dX8_when_67 (by decide) ?_
                  refine lv_goto (tgt := 113) hx hb dX8_when_68 (by decide) ?_
                  refine lv_istore (lv' := [(5, .int 0), (4, .int v_12), (3, .int (nI i)), (2, .int bb), (0, .ref (ad 0)), (1, .int (nI wj))]) hx hb dX8_when_113 hl (by decide) rfl (fun ls hl => ?_)
                  refine lv_iload hx hb dX8_when_115 (lv_at hl 0 rfl) ?_
                  refine lv_if_eq (tgt := 124) hx hb dX8_when_117 (by decide) (fun c_34 => ?_) (fun c_34 => ?_)
                  ·
                    refine lv_iconst (v := (-1)) hx hb dX8_when_124 (by decide) ?_
                    refine lv_istore_n (lv' := [(2, .int (-1)), (5, .int 0), (4, .int v_12), (3, .int (nI i)), (0, .ref (ad 0)), (1, .int (nI wj))]) hx hb dX8_when_125 rfl hl (by decide) rfl (fun ls hl => ?_)
                    refine lv_aload_n hx hb dX8_when_126 rfl (lv_at hl 4 rfl) ?_
                    refine gw_callVi (As := []) (rest := []) F hl.1 hW (fun _ _ _ => trivial) gw_T_E (by decide) (rfl : ment ad cA _ _ _ 0 = _) rfl (kX8_minuteOf (n := n) (Lx := Lx) hT' hM) pd_yX8_minuteOf ml_RX8_188 im_yX8_minuteOf se_yX8_minuteOf ini_RX8 cd_yX8_minuteOf ⟨rfl, rfl⟩ ⟨Nat.le_of_ble_eq_true rfl, Nat.le_of_ble_eq_true rfl⟩ rfl rfl (Nat.le_of_ble_eq_true rfl) ⟨Nat.zero_le _, Nat.zero_le _⟩ dX8_when_127 (fun r u H locs hp hW _ _ => ?_)
                    obtain ⟨ρ_35, T_36⟩ := u
                    obtain ⟨rfl, hk_37, hTe⟩ := hp
                    have hTe : T_36 = (passS Lx T').1 := hTe
                    subst hTe
                    refine lv_as (z := (passS Lx T').2) rfl ?_
                    refine lv_pop hx hb dX8_when_130 rfl ?_
                    refine lv_iinc (v := nI (i + 1)) (lv' := [(3, .int (nI (i + 1))), (2, .int (-1)), (5, .int 0), (4, .int v_12), (0, .ref (ad 0)), (1, .int (nI wj))]) hx hb dX8_when_131 hl (k := 3) rfl (nI_1 i) (by decide) rfl (fun ls hl => ?_)
                    refine lv_goto (tgt := 35) hx hb dX8_when_134 (by decide) ?_
                    exact ih35 (i + 1) f' ρ_35 ((passS Lx T').1) _ (by omega) (by omega) (kept_kp hKk (Kp.trans (Kp.trans Kp.rf hk_10) hk_37)) (by rw [hTT]; rfl) (Or.inl ⟨rfl, by rw [← hB]; exact (if_pos (show isW (stuckBS Lx (passN Lx T i).1) (T 6 1) (nI wj) = _ from ((by rw [hwe]; exact isW_7 : isW (stuckBS Lx (passN Lx T i).1) (T 6 1) (nI wj) = _)).trans (if_neg (by rw [← hTT, ← ev_12]; exact c_33)))).symm⟩) _ _ _ hW (lv_sub hl [0, 1, 4, 5] rfl)
                  ·
                    exact absurd c_34 (by decide)
                ·
                  refine lv_iconst (v := 1) hx hb dX8_when_63 (by decide) ?_
                  refine lv_goto (tgt := 113) hx hb dX8_when_64 (by decide) ?_
                  refine lv_istore (lv' := [(5, .int 1), (4, .int v_12), (3, .int (nI i)), (2, .int bb), (0, .ref (ad 0)), (1, .int (nI wj))]) hx hb dX8_when_113 hl (by decide) rfl (fun ls hl => ?_)
                  refine lv_iload hx hb dX8_when_115 (lv_at hl 0 rfl) ?_
                  refine lv_if_eq (tgt := 124) hx hb dX8_when_117 (by decide) (fun c_38 => ?_) (fun c_38 => ?_)
                  ·
                    exact absurd c_38 (by decide)
                  ·
                    refine lv_iload_n hx hb dX8_when_120 rfl (lv_at hl 2 rfl) ?_
                    refine lv_goto (tgt := 125) hx hb dX8_when_121 (by decide) ?_
                    refine lv_istore_n (lv' := [(2, .int (nI i)), (5, .int 1), (4, .int v_12), (3, .int (nI i)), (0, .ref (ad 0)), (1, .int (nI wj))]) hx hb dX8_when_125 rfl hl (by decide) rfl (fun ls hl => ?_)
                    refine lv_aload_n hx hb dX8_when_126 rfl (lv_at hl 4 rfl) ?_
                    refine gw_callVi (As := []) (rest := []) F hl.1 hW (fun _ _ _ => trivial) gw_T_E (by decide) (rfl : ment ad cA _ _ _ 0 = _) rfl (kX8_minuteOf (n := n) (Lx := Lx) hT' hM) pd_yX8_minuteOf ml_RX8_188 im_yX8_minuteOf se_yX8_minuteOf ini_RX8 cd_yX8_minuteOf ⟨rfl, rfl⟩ ⟨Nat.le_of_ble_eq_true rfl, Nat.le_of_ble_eq_true rfl⟩ rfl rfl (Nat.le_of_ble_eq_true rfl) ⟨Nat.zero_le _, Nat.zero_le _⟩ dX8_when_127 (fun r u H locs hp hW _ _ => ?_)
                    obtain ⟨ρ_39, T_40⟩ := u
                    obtain ⟨rfl, hk_41, hTe⟩ := hp
                    have hTe : T_40 = (passS Lx T').1 := hTe
                    subst hTe
                    refine lv_as (z := (passS Lx T').2) rfl ?_
                    refine lv_pop hx hb dX8_when_130 rfl ?_
                    refine lv_iinc (v := nI (i + 1)) (lv' := [(3, .int (nI (i + 1))), (2, .int (nI i)), (5, .int 1), (4, .int v_12), (0, .ref (ad 0)), (1, .int (nI wj))]) hx hb dX8_when_131 hl (k := 3) rfl (nI_1 i) (by decide) rfl (fun ls hl => ?_)
                    refine lv_goto (tgt := 35) hx hb dX8_when_134 (by decide) ?_
                    exact ih35 (i + 1) f' ρ_39 ((passS Lx T').1) _ (by omega) (by omega) (kept_kp hKk (Kp.trans (Kp.trans Kp.rf hk_10) hk_41)) (by rw [hTT]; rfl) (Or.inr ⟨nI_m1 (by omega), by rw [← hB]; exact (if_neg (by rw [show isW (stuckBS Lx (passN Lx T i).1) (T 6 1) (nI wj) = _ from ((by rw [hwe]; exact isW_7 : isW (stuckBS Lx (passN Lx T i).1) (T 6 1) (nI wj) = _)).trans (if_pos (by rw [← hTT, ← ev_12]; exact c_33))]; decide)).symm⟩) _ _ _ hW (lv_sub hl [0, 1, 4, 5] rfl)
      exact L35 62 0 61 _ _ (-1) (by omega) (by omega) (kept_kp hK_5 Kp.rf) (rfl) (Or.inl ⟨rfl, hR0⟩) _ _ _ hW (lv_sub hl [0, 1, 2, 3] rfl)
    ·
      refine lv_aload_n hx hb dX8_when_16 rfl (lv_at hl 0 rfl) ?_
      refine lv_iload_n hx hb dX8_when_17 rfl (lv_at hl 1 rfl) ?_
      refine gw_callVi (As := [.int (nI wj)]) (rest := []) F hl.1 hW (fun _ _ _ => trivial) gw_T_E (by decide) (rfl : ment ad cA _ _ _ 0 = _) rfl (kX8_isOne (n := n) hT) pd_yX8_isOne ml_RX8_161 im_yX8_isOne se_yX8_isOne ini_RX8 cd_yX8_isOne ⟨rfl, rfl⟩ ⟨Nat.le_of_ble_eq_true rfl, Nat.le_of_ble_eq_true rfl⟩ rfl rfl (Nat.le_of_ble_eq_true rfl) ⟨Nat.zero_le _, Nat.zero_le _⟩ dX8_when_18 (fun r u H locs hp hW _ _ => ?_)
      subst hp
      refine lv_as (z := oneP T (nI wj)) rfl ?_
      refine lv_if_ne (tgt := 27) hx hb dX8_when_21 (by decide) (fun c_42 => ?_) (fun c_42 => ?_)
      ·
        have hgo : whenP Lx T (nI wj) = whenF Lx T (nI wj) 61 0 := when_go c_1 (fun _ => c_42)
        refine lv_iconst (v := (-1)) hx hb dX8_when_27 (by decide) ?_
        refine lv_istore_n (lv' := [(2, .int (-1)), (0, .ref (ad 0)), (1, .int (nI wj))]) hx hb dX8_when_28 rfl hl (by decide) rfl (fun ls hl => ?_)
        refine lv_aload_n hx hb dX8_when_29 rfl (lv_at hl 1 rfl) ?_
        refine gw_callVv (As := []) (rest := []) F hl.1 hW (fun _ _ _ => trivial) gw_T_E (by decide) (rfl : ment ad cA _ _ _ 0 = _) rfl (kX8_keeps) pd_yX8_keeps ml_RX8_195 im_yX8_keeps se_yX8_keeps ini_RX8 cd_yX8_keeps ⟨rfl, rfl⟩ ⟨Nat.le_of_ble_eq_true rfl, Nat.le_of_ble_eq_true rfl⟩ rfl rfl (Nat.le_of_ble_eq_true rfl) ⟨Nat.zero_le _, Nat.zero_le _⟩ dX8_when_30 (fun ρ_43 H locs hp hW _ _ => ?_)
        obtain ⟨h0_44, hK_45⟩ := hp
        refine lv_iconst (v := 0) hx hb dX8_when_33 (by decide) ?_
        refine lv_istore_n (lv' := [(3, .int 0), (2, .int (-1)), (0, .ref (ad 0)), (1, .int (nI wj))]) hx hb dX8_when_34 rfl hl (by decide) rfl (fun ls hl => ?_)
        generalize hR0 : whenF Lx T (nI wj) 61 0 = RES
        have L35 : ∀ (k : Nat) (i f : Nat) (ρ' : Nat → Nat → Int32) (T' : Tb) (bb : Int32), (i + f = 61) → (62 ≤ i + k) → (KeptOf (ρ' 17) T) → (T' = (passN Lx T i).1) → ((bb = -1 ∧ whenF Lx T (nI wj) f i = RES) ∨ (¬ bb = -1 ∧ bb = RES)) → ∀ (H : Heap) (locs : List Loc) (ls : Array Slot), MW D cA ad ρ' T' σ A s s.heap H locs → lv_has ls 6 [(3, .int (nI i)), (2, .int bb), (0, .ref (ad 0)), (1, .int (nI wj))] → W p l e rm_yX8_when s m ar below meth c H locs 0 0 Q (F0 m 35 ls []) := by
          intro k
          induction k with
          | zero => intro i f ρ' T' bb h1 h2 hKk hTT hbb; exact absurd h2 (by omega)
          | succ k ih35 =>
            intro i f ρ' T' bb h1 h2 hKk hTT hbb H locs ls hW hl
            have hT' : okT n T' := by rw [hTT]; exact (ok_passN hT i).1
            have hOT : OutT T T' := by rw [hTT]; exact out_passN hT i
            have hg6 : T' 6 1 = T 6 1 := hOT.get (by omega) (by omega)
            refine lv_iload_n hx hb dX8_when_35 rfl (lv_at hl 0 rfl) ?_
            refine lv_bipush (v := 60) hx hb dX8_when_36 (by decide) ?_
            refine lv_icmp_gt (tgt := 137) hx hb dX8_when_38 (by decide) (fun c_46 => ?_) (fun c_46 => ?_)
            ·
              have hbR : bb = RES := (by have := mi_lt (a := 60) (b := i) c_46 (by decide) (by omega); obtain rfl : f = 0 := (by omega); exact hbb.elim (fun z => z.1.trans z.2) (fun z => z.2))
              refine lv_aload_n hx hb dX8_when_137 rfl (lv_at hl 2 rfl) ?_
              refine gw_callVv (As := []) (rest := []) F hl.1 hW (fun _ _ _ => trivial) gw_T_E (by decide) (rfl : ment ad cA _ _ _ 0 = _) rfl (kX8_lays) pd_yX8_lays ml_RX8_201 im_yX8_lays se_yX8_lays ini_RX8 cd_yX8_lays ⟨rfl, rfl⟩ ⟨Nat.le_of_ble_eq_true rfl, Nat.le_of_ble_eq_true rfl⟩ rfl rfl (Nat.le_of_ble_eq_true rfl) ⟨Nat.zero_le _, Nat.zero_le _⟩ dX8_when_138 (fun T_47 H locs hp hW _ _ => ?_)
              have hp : T = T_47 := (hp.trans (lay_back (kept_kp hKk Kp.rf) hOT)).symm
              subst hp
              refine lv_iload_n hx hb dX8_when_141 rfl (lv_at hl 1 rfl) ?_
              exact hret bb ρ' _ _ _ _ _ hW rfl rfl (by rw [hgo, hR0, hbR]) dX8_when_142
            ·
              have hlt : i ≤ 60 := mi_nlt (a := 60) (b := i) c_46 (by decide) (by omega); obtain ⟨f', rfl⟩ : ∃ z, f = z + 1 := ⟨f - 1, by omega⟩
              refine lv_iload_n hx hb dX8_when_41 rfl (lv_at hl 1 rfl) ?_
              refine lv_iconst (v := (-1)) hx hb dX8_when_42 (by decide) ?_
              refine lv_icmp_ne (tgt := 137) hx hb dX8_when_43 (by decide) (fun c_48 => ?_) (fun c_48 => ?_)
              ·
                have hbR : bb = RES := hbb.elim (fun z => absurd z.1 c_48) (fun z => z.2)
                refine lv_aload_n hx hb dX8_when_137 rfl (lv_at hl 2 rfl) ?_
                refine gw_callVv (As := []) (rest := []) F hl.1 hW (fun _ _ _ => trivial) gw_T_E (by decide) (rfl : ment ad cA _ _ _ 0 = _) rfl (kX8_lays) pd_yX8_lays ml_RX8_201 im_yX8_lays se_yX8_lays ini_RX8 cd_yX8_lays ⟨rfl, rfl⟩ ⟨Nat.le_of_ble_eq_true rfl, Nat.le_of_ble_eq_true rfl⟩ rfl rfl (Nat.le_of_ble_eq_true rfl) ⟨Nat.zero_le _, Nat.zero_le _⟩ dX8_when_138 (fun T_49 H locs hp hW _ _ => ?_)
                have hp : T = T_49 := (hp.trans (lay_back (kept_kp hKk Kp.rf) hOT)).symm
                subst hp
                refine lv_iload_n hx hb dX8_when_141 rfl (lv_at hl 1 rfl) ?_
                exact hret bb ρ' _ _ _ _ _ hW rfl rfl (by rw [hgo, hR0, hbR]) dX8_when_142
              ·
                have hB : whenF Lx T (nI wj) (f' + 1) i = RES := hbb.elim (fun z => z.2) (fun z => absurd c_48 z.1)
                refine lv_aload_n hx hb dX8_when_46 rfl (lv_at hl 2 rfl) ?_
                refine gw_callVi (As := []) (rest := []) F hl.1 hW (fun _ _ _ => trivial) gw_T_E (by decide) (rfl : ment ad cA _ _ _ 0 = _) rfl (kX8_stuckSet (n := n) (Lx := Lx) hT' hM) pd_yX8_stuckSet ml_RX8_79 im_yX8_stuckSet se_yX8_stuckSet ini_RX8 cd_yX8_stuckSet ⟨rfl, rfl⟩ ⟨Nat.le_of_ble_eq_true rfl, Nat.le_of_ble_eq_true rfl⟩ rfl rfl (Nat.le_of_ble_eq_true rfl) ⟨Nat.zero_le _, Nat.zero_le _⟩ dX8_when_47 (fun r ρ_51 H locs hp hW _ _ => ?_)
                obtain ⟨rfl, hk_50⟩ := hp
                refine lv_as (z := stuckBS Lx T') rfl ?_
                refine lv_topi (fun v_52 ev_52 => ?_)
                refine lv_istore (lv' := [(4, .int v_52), (3, .int (nI i)), (2, .int bb), (0, .ref (ad 0)), (1, .int (nI wj))]) hx hb dX8_when_50 hl (by decide) rfl (fun ls hl => ?_)
                refine lv_iload_n hx hb dX8_when_52 rfl (lv_at hl 4 rfl) ?_
                refine lv_bipush (v := 7) hx hb dX8_when_53 (by decide) ?_
                refine lv_icmp_ne (tgt := 71) hx hb dX8_when_55 (by decide) (fun c_53 => ?_) (fun c_53 => ?_)
                ·
                  have hw7 : ¬ wj = 7 := fun z => c_53 (by rw [z]; rfl)
                  refine lv_iload_n hx hb dX8_when_71 rfl (lv_at hl 4 rfl) ?_
                  refine lv_bipush (v := 6) hx hb dX8_when_72 (by decide) ?_
                  refine lv_icmp_ne (tgt := 98) hx hb dX8_when_74 (by decide) (fun c_54 => ?_) (fun c_54 => ?_)
                  ·
                    have hw6 : ¬ wj = 6 := fun z => c_54 (by rw [z]; rfl); have hwj6 : wj < 6 := (by omega)
                    refine lv_iload hx hb dX8_when_98 (lv_at hl 0 rfl) ?_
                    refine lv_iload_n hx hb dX8_when_100 rfl (lv_at hl 4 rfl) ?_
                    refine lv_ishr hx hb dX8_when_101 ?_
                    refine lv_iconst (v := 1) hx hb dX8_when_102 (by decide) ?_
                    refine lv_iand hx hb dX8_when_103 ?_
                    refine lv_iconst (v := 1) hx hb dX8_when_104 (by decide) ?_
                    refine lv_icmp_ne (tgt := 112) hx hb dX8_when_105 (by decide) (fun c_55 => ?_) (fun c_55 => ?_)
                    ·
                      refine lv_iconst (v := 0) hx hb dX8_when_112 (by decide) ?_
                      refine lv_istore (lv' := [(5, .int 0), (4, .int v_52), (3, .int (nI i)), (2, .int bb), (0, .ref (ad 0)), (1, .int (nI wj))]) hx hb dX8_when_113 hl (by decide) rfl (fun ls hl => ?_)
                      refine lv_iload hx hb dX8_when_115 (lv_at hl 0 rfl) ?_
                      refine lv_if_eq (tgt := 124) hx hb dX8_when_117 (by decide) (fun c_56 => ?_) (fun c_56 => ?_)
                      ·
                        refine lv_iconst (v := (-1)) hx hb dX8_when_124 (by decide) ?_
                        refine lv_istore_n (lv' := [(2, .int (-1)), (5, .int 0), (4, .int v_52), (3, .int (nI i)), (0, .ref (ad 0)), (1, .int (nI wj))]) hx hb dX8_when_125 rfl hl (by decide) rfl (fun ls hl => ?_)
                        refine lv_aload_n hx hb dX8_when_126 rfl (lv_at hl 4 rfl) ?_
                        refine gw_callVi (As := []) (rest := []) F hl.1 hW (fun _ _ _ => trivial) gw_T_E (by decide) (rfl : ment ad cA _ _ _ 0 = _) rfl (kX8_minuteOf (n := n) (Lx := Lx) hT' hM) pd_yX8_minuteOf ml_RX8_188 im_yX8_minuteOf se_yX8_minuteOf ini_RX8 cd_yX8_minuteOf ⟨rfl, rfl⟩ ⟨Nat.le_of_ble_eq_true rfl, Nat.le_of_ble_eq_true rfl⟩ rfl rfl (Nat.le_of_ble_eq_true rfl) ⟨Nat.zero_le _, Nat.zero_le _⟩ dX8_when_127 (fun r u H locs hp hW _ _ => ?_)
                        obtain ⟨ρ_57, T_58⟩ := u
                        obtain ⟨rfl, hk_59, hTe⟩ := hp
                        have hTe : T_58 = (passS Lx T').1 := hTe
                        subst hTe
                        refine lv_as (z := (passS Lx T').2) rfl ?_
                        refine lv_pop hx hb dX8_when_130 rfl ?_
                        refine lv_iinc (v := nI (i + 1)) (lv' := [(3, .int (nI (i + 1))), (2, .int (-1)), (5, .int 0), (4, .int v_52), (0, .ref (ad 0)), (1, .int (nI wj))]) hx hb dX8_when_131 hl (k := 3) rfl (nI_1 i) (by decide) rfl (fun ls hl => ?_)
                        refine lv_goto (tgt := 35) hx hb dX8_when_134 (by decide) ?_
                        exact ih35 (i + 1) f' ρ_57 ((passS Lx T').1) _ (by omega) (by omega) (kept_kp hKk (Kp.trans (Kp.trans Kp.rf hk_50) hk_59)) (by rw [hTT]; rfl) (Or.inl ⟨rfl, by rw [← hB]; exact (if_pos (show isW (stuckBS Lx (passN Lx T i).1) (T 6 1) (nI wj) = _ from ((isW_q hwj6 : isW (stuckBS Lx (passN Lx T i).1) (T 6 1) (nI wj) = _)).trans (if_neg (by rw [← hTT, ← ev_52]; exact c_55)))).symm⟩) _ _ _ hW (lv_sub hl [0, 1, 4, 5] rfl)
                      ·
                        exact absurd c_56 (by decide)
                    ·
                      refine lv_iconst (v := 1) hx hb dX8_when_108 (by decide) ?_
                      refine lv_goto (tgt := 113) hx hb dX8_when_109 (by decide) ?_
                      refine lv_istore (lv' := [(5, .int 1), (4, .int v_52), (3, .int (nI i)), (2, .int bb), (0, .ref (ad 0)), (1, .int (nI wj))]) hx hb dX8_when_113 hl (by decide) rfl (fun ls hl => ?_)
                      refine lv_iload hx hb dX8_when_115 (lv_at hl 0 rfl) ?_
                      refine lv_if_eq (tgt := 124) hx hb dX8_when_117 (by decide) (fun c_60 => ?_) (fun c_60 => ?_)
                      ·
                        exact absurd c_60 (by decide)
                      ·
                        refine lv_iload_n hx hb dX8_when_120 rfl (lv_at hl 2 rfl) ?_
                        refine lv_goto (tgt := 125) hx hb dX8_when_121 (by decide) ?_
                        refine lv_istore_n (lv' := [(2, .int (nI i)), (5, .int 1), (4, .int v_52), (3, .int (nI i)), (0, .ref (ad 0)), (1, .int (nI wj))]) hx hb dX8_when_125 rfl hl (by decide) rfl (fun ls hl => ?_)
                        refine lv_aload_n hx hb dX8_when_126 rfl (lv_at hl 4 rfl) ?_
                        refine gw_callVi (As := []) (rest := []) F hl.1 hW (fun _ _ _ => trivial) gw_T_E (by decide) (rfl : ment ad cA _ _ _ 0 = _) rfl (kX8_minuteOf (n := n) (Lx := Lx) hT' hM) pd_yX8_minuteOf ml_RX8_188 im_yX8_minuteOf se_yX8_minuteOf ini_RX8 cd_yX8_minuteOf ⟨rfl, rfl⟩ ⟨Nat.le_of_ble_eq_true rfl, Nat.le_of_ble_eq_true rfl⟩ rfl rfl (Nat.le_of_ble_eq_true rfl) ⟨Nat.zero_le _, Nat.zero_le _⟩ dX8_when_127 (fun r u H locs hp hW _ _ => ?_)
                        obtain ⟨ρ_61, T_62⟩ := u
                        obtain ⟨rfl, hk_63, hTe⟩ := hp
                        have hTe : T_62 = (passS Lx T').1 := hTe
                        subst hTe
                        refine lv_as (z := (passS Lx T').2) rfl ?_
                        refine lv_pop hx hb dX8_when_130 rfl ?_
                        refine lv_iinc (v := nI (i + 1)) (lv' := [(3, .int (nI (i + 1))), (2, .int (nI i)), (5, .int 1), (4, .int v_52), (0, .ref (ad 0)), (1, .int (nI wj))]) hx hb dX8_when_131 hl (k := 3) rfl (nI_1 i) (by decide) rfl (fun ls hl => ?_)
                        refine lv_goto (tgt := 35) hx hb dX8_when_134 (by decide) ?_
                        exact ih35 (i + 1) f' ρ_61 ((passS Lx T').1) _ (by omega) (by omega) (kept_kp hKk (Kp.trans (Kp.trans Kp.rf hk_50) hk_63)) (by rw [hTT]; rfl) (Or.inr ⟨nI_m1 (by omega), by rw [← hB]; exact (if_neg (by rw [show isW (stuckBS Lx (passN Lx T i).1) (T 6 1) (nI wj) = _ from ((isW_q hwj6 : isW (stuckBS Lx (passN Lx T i).1) (T 6 1) (nI wj) = _)).trans (if_pos (by rw [← hTT, ← ev_52]; exact c_55))]; decide)).symm⟩) _ _ _ hW (lv_sub hl [0, 1, 4, 5] rfl)
                  ·
                    have hwe : wj = 6 := nI_i (by omega) (by decide) c_54
                    refine lv_iload hx hb dX8_when_77 (lv_at hl 0 rfl) ?_
                    refine lv_iconst (v := 1) hx hb dX8_when_79 (by decide) ?_
                    refine lv_aload_n hx hb dX8_when_80 rfl (lv_at hl 3 rfl) ?_
                    refine mr_f F hW 0 (by decide) rfl fl_RX8_69 dX8_when_81 ?_
                    refine lv_as (z := T 6 1) hg6 ?_
                    refine lv_ishl hx hb dX8_when_84 ?_
                    refine lv_iconst (v := 1) hx hb dX8_when_85 (by decide) ?_
                    refine lv_isub hx hb dX8_when_86 ?_
                    refine lv_icmp_ne (tgt := 94) hx hb dX8_when_87 (by decide) (fun c_64 => ?_) (fun c_64 => ?_)
                    ·
                      refine lv_iconst (v := 0) hx hb dX8_when_94 (by decide) ?_
                      refine lv_goto (tgt := 113) hx hb dX8_when_95 (by decide) ?_
                      refine lv_istore (lv' := [(5, .int 0), (4, .int v_52), (3, .int (nI i)), (2, .int bb), (0, .ref (ad 0)), (1, .int (nI wj))]) hx hb dX8_when_113 hl (by decide) rfl (fun ls hl => ?_)
                      refine lv_iload hx hb dX8_when_115 (lv_at hl 0 rfl) ?_
                      refine lv_if_eq (tgt := 124) hx hb dX8_when_117 (by decide) (fun c_65 => ?_) (fun c_65 => ?_)
                      ·
                        refine lv_iconst (v := (-1)) hx hb dX8_when_124 (by decide) ?_
                        refine lv_istore_n (lv' := [(2, .int (-1)), (5, .int 0), (4, .int v_52), (3, .int (nI i)), (0, .ref (ad 0)), (1, .int (nI wj))]) hx hb dX8_when_125 rfl hl (by decide) rfl (fun ls hl => ?_)
                        refine lv_aload_n hx hb dX8_when_126 rfl (lv_at hl 4 rfl) ?_
                        refine gw_callVi (As := []) (rest := []) F hl.1 hW (fun _ _ _ => trivial) gw_T_E (by decide) (rfl : ment ad cA _ _ _ 0 = _) rfl (kX8_minuteOf (n := n) (Lx := Lx) hT' hM) pd_yX8_minuteOf ml_RX8_188 im_yX8_minuteOf se_yX8_minuteOf ini_RX8 cd_yX8_minuteOf ⟨rfl, rfl⟩ ⟨Nat.le_of_ble_eq_true rfl, Nat.le_of_ble_eq_true rfl⟩ rfl rfl (Nat.le_of_ble_eq_true rfl) ⟨Nat.zero_le _, Nat.zero_le _⟩ dX8_when_127 (fun r u H locs hp hW _ _ => ?_)
                        obtain ⟨ρ_66, T_67⟩ := u
                        obtain ⟨rfl, hk_68, hTe⟩ := hp
                        have hTe : T_67 = (passS Lx T').1 := hTe
                        subst hTe
                        refine lv_as (z := (passS Lx T').2) rfl ?_
                        refine lv_pop hx hb dX8_when_130 rfl ?_
                        refine lv_iinc (v := nI (i + 1)) (lv' := [(3, .int (nI (i + 1))), (2, .int (-1)), (5, .int 0), (4, .int v_52), (0, .ref (ad 0)), (1, .int (nI wj))]) hx hb dX8_when_131 hl (k := 3) rfl (nI_1 i) (by decide) rfl (fun ls hl => ?_)
                        refine lv_goto (tgt := 35) hx hb dX8_when_134 (by decide) ?_
                        exact ih35 (i + 1) f' ρ_66 ((passS Lx T').1) _ (by omega) (by omega) (kept_kp hKk (Kp.trans (Kp.trans Kp.rf hk_50) hk_68)) (by rw [hTT]; rfl) (Or.inl ⟨rfl, by rw [← hB]; exact (if_pos (show isW (stuckBS Lx (passN Lx T i).1) (T 6 1) (nI wj) = _ from ((by rw [hwe]; exact isW_6 : isW (stuckBS Lx (passN Lx T i).1) (T 6 1) (nI wj) = _)).trans (if_neg (by rw [← hTT, ← ev_52]; exact c_64)))).symm⟩) _ _ _ hW (lv_sub hl [0, 1, 4, 5] rfl)
                      ·
                        exact absurd c_65 (by decide)
                    ·
                      refine lv_iconst (v := 1) hx hb dX8_when_90 (by decide) ?_
                      refine lv_goto (tgt := 113) hx hb dX8_when_91 (by decide) ?_
                      refine lv_istore (lv' := [(5, .int 1), (4, .int v_52), (3, .int (nI i)), (2, .int bb), (0, .ref (ad 0)), (1, .int (nI wj))]) hx hb dX8_when_113 hl (by decide) rfl (fun ls hl => ?_)
                      refine lv_iload hx hb dX8_when_115 (lv_at hl 0 rfl) ?_
                      refine lv_if_eq (tgt := 124) hx hb dX8_when_117 (by decide) (fun c_69 => ?_) (fun c_69 => ?_)
                      ·
                        exact absurd c_69 (by decide)
                      ·
                        refine lv_iload_n hx hb dX8_when_120 rfl (lv_at hl 2 rfl) ?_
                        refine lv_goto (tgt := 125) hx hb dX8_when_121 (by decide) ?_
                        refine lv_istore_n (lv' := [(2, .int (nI i)), (5, .int 1), (4, .int v_52), (3, .int (nI i)), (0, .ref (ad 0)), (1, .int (nI wj))]) hx hb dX8_when_125 rfl hl (by decide) rfl (fun ls hl => ?_)
                        refine lv_aload_n hx hb dX8_when_126 rfl (lv_at hl 4 rfl) ?_
                        refine gw_callVi (As := []) (rest := []) F hl.1 hW (fun _ _ _ => trivial) gw_T_E (by decide) (rfl : ment ad cA _ _ _ 0 = _) rfl (kX8_minuteOf (n := n) (Lx := Lx) hT' hM) pd_yX8_minuteOf ml_RX8_188 im_yX8_minuteOf se_yX8_minuteOf ini_RX8 cd_yX8_minuteOf ⟨rfl, rfl⟩ ⟨Nat.le_of_ble_eq_true rfl, Nat.le_of_ble_eq_true rfl⟩ rfl rfl (Nat.le_of_ble_eq_true rfl) ⟨Nat.zero_le _, Nat.zero_le _⟩ dX8_when_127 (fun r u H locs hp hW _ _ => ?_)
                        obtain ⟨ρ_70, T_71⟩ := u
                        obtain ⟨rfl, hk_72, hTe⟩ := hp
                        have hTe : T_71 = (passS Lx T').1 := hTe
                        subst hTe
                        refine lv_as (z := (passS Lx T').2) rfl ?_
                        refine lv_pop hx hb dX8_when_130 rfl ?_
                        refine lv_iinc (v := nI (i + 1)) (lv' := [(3, .int (nI (i + 1))), (2, .int (nI i)), (5, .int 1), (4, .int v_52), (0, .ref (ad 0)), (1, .int (nI wj))]) hx hb dX8_when_131 hl (k := 3) rfl (nI_1 i) (by decide) rfl (fun ls hl => ?_)
                        refine lv_goto (tgt := 35) hx hb dX8_when_134 (by decide) ?_
                        exact ih35 (i + 1) f' ρ_70 ((passS Lx T').1) _ (by omega) (by omega) (kept_kp hKk (Kp.trans (Kp.trans Kp.rf hk_50) hk_72)) (by rw [hTT]; rfl) (Or.inr ⟨nI_m1 (by omega), by rw [← hB]; exact (if_neg (by rw [show isW (stuckBS Lx (passN Lx T i).1) (T 6 1) (nI wj) = _ from ((by rw [hwe]; exact isW_6 : isW (stuckBS Lx (passN Lx T i).1) (T 6 1) (nI wj) = _)).trans (if_pos (by rw [← hTT, ← ev_52]; exact c_64))]; decide)).symm⟩) _ _ _ hW (lv_sub hl [0, 1, 4, 5] rfl)
                ·
                  have hwe : wj = 7 := nI_i (by omega) (by decide) c_53
                  refine lv_iload hx hb dX8_when_58 (lv_at hl 0 rfl) ?_
                  refine lv_if_ne (tgt := 67) hx hb dX8_when_60 (by decide) (fun c_73 => ?_) (fun c_73 => ?_)
                  ·
                    refine lv_iconst (v := 0) hx hb dX8_when_67 (by decide) ?_
                    refine lv_goto (tgt := 113) hx hb dX8_when_68 (by decide) ?_
                    refine lv_istore (lv' := [(5, .int 0), (4, .int v_52), (3, .int (nI i)), (2, .int bb), (0, .ref (ad 0)), (1, .int (nI wj))]) hx hb dX8_when_113 hl (by decide) rfl (fun ls hl => ?_)
                    refine lv_iload hx hb dX8_when_115 (lv_at hl 0 rfl) ?_
                    refine lv_if_eq (tgt := 124) hx hb dX8_when_117 (by decide) (fun c_74 => ?_) (fun c_74 => ?_)
                    ·
                      refine lv_iconst (v := (-1)) hx hb dX8_when_124 (by decide) ?_
                      refine lv_istore_n (lv' := [(2, .int (-1)), (5, .int 0), (4, .int v_52), (3, .int (nI i)), (0, .ref (ad 0)), (1, .int (nI wj))]) hx hb dX8_when_125 rfl hl (by decide) rfl (fun ls hl => ?_)
                      refine lv_aload_n hx hb dX8_when_126 rfl (lv_at hl 4 rfl) ?_
                      refine gw_callVi (As := []) (rest := []) F hl.1 hW (fun _ _ _ => trivial) gw_T_E (by decide) (rfl : ment ad cA _ _ _ 0 = _) rfl (kX8_minuteOf (n := n) (Lx := Lx) hT' hM) pd_yX8_minuteOf ml_RX8_188 im_yX8_minuteOf se_yX8_minuteOf ini_RX8 cd_yX8_minuteOf ⟨rfl, rfl⟩ ⟨Nat.le_of_ble_eq_true rfl, Nat.le_of_ble_eq_true rfl⟩ rfl rfl (Nat.le_of_ble_eq_true rfl) ⟨Nat.zero_le _, Nat.zero_le _⟩ dX8_when_127 (fun r u H locs hp hW _ _ => ?_)
                      obtain ⟨ρ_75, T_76⟩ := u
                      obtain ⟨rfl, hk_77, hTe⟩ := hp
                      have hTe : T_76 = (passS Lx T').1 := hTe
                      subst hTe
                      refine lv_as (z := (passS Lx T').2) rfl ?_
                      refine lv_pop hx hb dX8_when_130 rfl ?_
                      refine lv_iinc (v := nI (i + 1)) (lv' := [(3, .int (nI (i + 1))), (2, .int (-1)), (5, .int 0), (4, .int v_52), (0, .ref (ad 0)), (1, .int (nI wj))]) hx hb dX8_when_131 hl (k := 3) rfl (nI_1 i) (by decide) rfl (fun ls hl => ?_)
                      refine lv_goto (tgt := 35) hx hb dX8_when_134 (by decide) ?_
                      exact ih35 (i + 1) f' ρ_75 ((passS Lx T').1) _ (by omega) (by omega) (kept_kp hKk (Kp.trans (Kp.trans Kp.rf hk_50) hk_77)) (by rw [hTT]; rfl) (Or.inl ⟨rfl, by rw [← hB]; exact (if_pos (show isW (stuckBS Lx (passN Lx T i).1) (T 6 1) (nI wj) = _ from ((by rw [hwe]; exact isW_7 : isW (stuckBS Lx (passN Lx T i).1) (T 6 1) (nI wj) = _)).trans (if_neg (by rw [← hTT, ← ev_52]; exact c_73)))).symm⟩) _ _ _ hW (lv_sub hl [0, 1, 4, 5] rfl)
                    ·
                      exact absurd c_74 (by decide)
                  ·
                    refine lv_iconst (v := 1) hx hb dX8_when_63 (by decide) ?_
                    refine lv_goto (tgt := 113) hx hb dX8_when_64 (by decide) ?_
                    refine lv_istore (lv' := [(5, .int 1), (4, .int v_52), (3, .int (nI i)), (2, .int bb), (0, .ref (ad 0)), (1, .int (nI wj))]) hx hb dX8_when_113 hl (by decide) rfl (fun ls hl => ?_)
                    refine lv_iload hx hb dX8_when_115 (lv_at hl 0 rfl) ?_
                    refine lv_if_eq (tgt := 124) hx hb dX8_when_117 (by decide) (fun c_78 => ?_) (fun c_78 => ?_)
                    ·
                      exact absurd c_78 (by decide)
                    ·
                      refine lv_iload_n hx hb dX8_when_120 rfl (lv_at hl 2 rfl) ?_
                      refine lv_goto (tgt := 125) hx hb dX8_when_121 (by decide) ?_
                      refine lv_istore_n (lv' := [(2, .int (nI i)), (5, .int 1), (4, .int v_52), (3, .int (nI i)), (0, .ref (ad 0)), (1, .int (nI wj))]) hx hb dX8_when_125 rfl hl (by decide) rfl (fun ls hl => ?_)
                      refine lv_aload_n hx hb dX8_when_126 rfl (lv_at hl 4 rfl) ?_
                      refine gw_callVi (As := []) (rest := []) F hl.1 hW (fun _ _ _ => trivial) gw_T_E (by decide) (rfl : ment ad cA _ _ _ 0 = _) rfl (kX8_minuteOf (n := n) (Lx := Lx) hT' hM) pd_yX8_minuteOf ml_RX8_188 im_yX8_minuteOf se_yX8_minuteOf ini_RX8 cd_yX8_minuteOf ⟨rfl, rfl⟩ ⟨Nat.le_of_ble_eq_true rfl, Nat.le_of_ble_eq_true rfl⟩ rfl rfl (Nat.le_of_ble_eq_true rfl) ⟨Nat.zero_le _, Nat.zero_le _⟩ dX8_when_127 (fun r u H locs hp hW _ _ => ?_)
                      obtain ⟨ρ_79, T_80⟩ := u
                      obtain ⟨rfl, hk_81, hTe⟩ := hp
                      have hTe : T_80 = (passS Lx T').1 := hTe
                      subst hTe
                      refine lv_as (z := (passS Lx T').2) rfl ?_
                      refine lv_pop hx hb dX8_when_130 rfl ?_
                      refine lv_iinc (v := nI (i + 1)) (lv' := [(3, .int (nI (i + 1))), (2, .int (nI i)), (5, .int 1), (4, .int v_52), (0, .ref (ad 0)), (1, .int (nI wj))]) hx hb dX8_when_131 hl (k := 3) rfl (nI_1 i) (by decide) rfl (fun ls hl => ?_)
                      refine lv_goto (tgt := 35) hx hb dX8_when_134 (by decide) ?_
                      exact ih35 (i + 1) f' ρ_79 ((passS Lx T').1) _ (by omega) (by omega) (kept_kp hKk (Kp.trans (Kp.trans Kp.rf hk_50) hk_81)) (by rw [hTT]; rfl) (Or.inr ⟨nI_m1 (by omega), by rw [← hB]; exact (if_neg (by rw [show isW (stuckBS Lx (passN Lx T i).1) (T 6 1) (nI wj) = _ from ((by rw [hwe]; exact isW_7 : isW (stuckBS Lx (passN Lx T i).1) (T 6 1) (nI wj) = _)).trans (if_pos (by rw [← hTT, ← ev_52]; exact c_73))]; decide)).symm⟩) _ _ _ hW (lv_sub hl [0, 1, 4, 5] rfl)
        exact L35 62 0 61 _ _ (-1) (by omega) (by omega) (kept_kp hK_45 Kp.rf) (rfl) (Or.inl ⟨rfl, hR0⟩) _ _ _ hW (lv_sub hl [0, 1, 2, 3] rfl)
      ·
        refine lv_bipush (v := (-5)) hx hb dX8_when_24 (by decide) ?_
        exact hret (-5) ρ _ _ _ _ _ hW rfl rfl (by rw [when_one c_1 (Int32.not_le.mp c_2) c_42]) dX8_when_26
