/-! ===== the reference: kinds, states; fractions; dinners by lots ===== -/
theorem kk_0 {T : Tb} {q : Nat} {x v : Int32} : upT (upT (upT T q 0 x) q 0 v) q 1 (T q 1) = upT T q 0 v := by
  rw [upT_upT, show T q 1 = upT T q 0 v q 1 from (upT_ne (by omega)).symm, upT_eta]
theorem kk_1 {T : Tb} {q : Nat} {x v : Int32} : upT (upT (upT T q 1 x) q 0 (T q 0)) q 1 v = upT T q 1 v := by
  rw [show T q 0 = upT T q 1 x q 0 from (upT_ne (by omega)).symm, upT_eta, upT_upT]
abbrev rm_yX8_kinds : Room := { frames := 8, cells := 0, slots := 0, locals := 186 }
set_option maxHeartbeats 800000 in
set_option maxRecDepth 100000 in
theorem kX8_kinds {l : Launch} {D : va_G} {cA : ClassId} {ad : Nat → Nat} {ρ T σ : Nat → Nat → Int32} {sz : Nat} {n : Nat} {Lx : Lw} {z : Int32} {pp w0 : Int32} (hT : okT n T) (hM : okML n σ Lx) (hSM : okSM σ) : MMi l yX8_kinds cX8_kinds 9 FieldType.int rm_yX8_kinds [.ref (ad 0), .int z, .int pp, .int w0] D cA ad ρ T σ sz (fun (r : Int32) (u : Nat → Nat → Int32) => r = kindsP Lx T (soM σ) (siM σ) (nuM σ) z pp w0) (fun u : Nat → Nat → Int32 => ment ad cA u T σ) := by
  refine gw_stI (Ff := fun u : Nat → Nat → Int32 => ment ad cA u T σ) (own := RX8) (by decide +kernel) rfl (Nat.le_of_ble_eq_true rfl) ?_
  intro p e s m ar below meth c A Q F hE hsz hW hret ls hl
  obtain ⟨hx, hb, hml, hown, hts⟩ := id F
  have hl : lv_has ls 9 [(0, .ref (ad 0)), (1, .int z), (2, .int pp), (3, .int w0)] := hl
  have hs6 := hT.1
  have hsN := hT.2.1
  refine lv_aload_n hx hb dX8_kinds_0 rfl (lv_at hl 0 rfl) ?_
  refine lv_iload_n hx hb dX8_kinds_1 rfl (lv_at hl 1 rfl) ?_
  refine gw_callVi (As := [.int z]) (rest := []) F hl.1 hW (fun _ _ _ => trivial) gw_T_E (by decide) (rfl : ment ad cA _ _ _ 0 = _) rfl (kX8_sheetWrong) pd_yX8_sheetWrong ml_RX8_216 im_yX8_sheetWrong se_yX8_sheetWrong ini_RX8 cd_yX8_sheetWrong ⟨rfl, rfl⟩ ⟨Nat.le_of_ble_eq_true rfl, Nat.le_of_ble_eq_true rfl⟩ rfl rfl (Nat.le_of_ble_eq_true rfl) ⟨Nat.zero_le _, Nat.zero_le _⟩ dX8_kinds_2 (fun r u H locs hp hW _ _ => ?_)
  subst hp
  refine lv_as (z := talP (soM σ) (siM σ) z) rfl ?_
  refine lv_topi (fun v_1 ev_1 => ?_)
  refine lv_istore (lv' := [(4, .int v_1), (0, .ref (ad 0)), (1, .int z), (2, .int pp), (3, .int w0)]) hx hb dX8_kinds_5 hl (by decide) rfl (fun ls hl => ?_)
  refine lv_iload hx hb dX8_kinds_7 (lv_at hl 0 rfl) ?_
  refine lv_if_eq (tgt := 15) hx hb dX8_kinds_9 (by decide) (fun c_2 => ?_) (fun c_2 => ?_)
  ·
    have htal : talP (soM σ) (siM σ) z = 0 := (by rw [← ev_1]; exact c_2); obtain ⟨j, kz, hj, hkz, rfl, hsi⟩ := tal_okM hSM htal; have hij : iN (nI j) = j := iN_nI (by omega); have hik : iN (siM σ j) = kz := (congrArg iN hsi).trans (iN_nI (by omega))
    refine lv_aload_n hx hb dX8_kinds_15 rfl (lv_at hl 1 rfl) ?_
    refine lv_iload_n hx hb dX8_kinds_16 rfl (lv_at hl 3 rfl) ?_
    refine gw_callVi (As := [.int pp]) (rest := []) F hl.1 hW (fun _ _ _ => trivial) gw_T_E (by decide) (rfl : ment ad cA _ _ _ 0 = _) rfl (kX8_isOne (n := n) hT) pd_yX8_isOne ml_RX8_161 im_yX8_isOne se_yX8_isOne ini_RX8 cd_yX8_isOne ⟨rfl, rfl⟩ ⟨Nat.le_of_ble_eq_true rfl, Nat.le_of_ble_eq_true rfl⟩ rfl rfl (Nat.le_of_ble_eq_true rfl) ⟨Nat.zero_le _, Nat.zero_le _⟩ dX8_kinds_17 (fun r u H locs hp hW _ _ => ?_)
    subst hp
    refine lv_as (z := oneP T pp) rfl ?_
    refine lv_if_ne (tgt := 26) hx hb dX8_kinds_20 (by decide) (fun c_3 => ?_) (fun c_3 => ?_)
    ·
      obtain ⟨q, hq, rfl⟩ := one_nat hT c_3; have hq6 : q < 6 := seats_le hT hq; have hiq : iN (nI q) = q := iN_nI (by omega); have hGq := hT.2.2.2.2 q hq; have hone : ¬ oneP T (nI q) = 0 := c_3
      refine lv_iload_n hx hb dX8_kinds_26 rfl (lv_at hl 4 rfl) ?_
      refine lv_iconst (v := 0) hx hb dX8_kinds_27 (by decide) ?_
      refine lv_iconst (v := 1) hx hb dX8_kinds_28 (by decide) ?_
      refine gw_callP (As := [.int w0, .int 0, .int 1]) (rest := []) F hl.1 (kX8_in) pd_yX8_in ml_RX8_72 st_yX8_in ini_RX8 cd_yX8_in ⟨rfl, rfl⟩ ⟨Nat.le_of_ble_eq_true rfl, Nat.le_of_ble_eq_true rfl⟩ rfl rfl (Nat.le_of_ble_eq_true rfl) ⟨Nat.zero_le _, Nat.zero_le _⟩ dX8_kinds_29 ?_
      refine lv_as (z := inP w0 0 1) rfl ?_
      refine lv_if_ne (tgt := 38) hx hb dX8_kinds_32 (by decide) (fun c_4 => ?_) (fun c_4 => ?_)
      ·
        rcases (one_two (in_y c_4).1 (in_y c_4).2) with rfl | rfl
        ·
          refine lv_aload_n hx hb dX8_kinds_38 rfl (lv_at hl 1 rfl) ?_
          refine mr_f F hW 1 (by decide) rfl fl_RX8_7 dX8_kinds_39 ?_
          refine lv_iload_n hx hb dX8_kinds_42 rfl (lv_at hl 3 rfl) ?_
          refine mr_kind q (by omega) rfl F hW dX8_kinds_43 ?_
          refine lv_istore (lv' := [(5, .int (T q 0)), (4, .int v_1), (0, .ref (ad 0)), (1, .int (nI j)), (2, .int (nI q)), (3, .int 0)]) hx hb dX8_kinds_44 hl (by decide) rfl (fun ls hl => ?_)
          refine lv_aload_n hx hb dX8_kinds_46 rfl (lv_at hl 2 rfl) ?_
          refine mr_f F hW 2 (by decide) rfl fl_RX8_13 dX8_kinds_47 ?_
          refine lv_iload_n hx hb dX8_kinds_50 rfl (lv_at hl 4 rfl) ?_
          refine mr_more q (by omega) rfl F hW dX8_kinds_51 ?_
          refine lv_istore (lv' := [(6, .int (T q 1)), (5, .int (T q 0)), (4, .int v_1), (0, .ref (ad 0)), (1, .int (nI j)), (2, .int (nI q)), (3, .int 0)]) hx hb dX8_kinds_52 hl (by decide) rfl (fun ls hl => ?_)
          refine lv_iconst (v := 0) hx hb dX8_kinds_54 (by decide) ?_
          refine lv_istore (lv' := [(7, .int 0), (6, .int (T q 1)), (5, .int (T q 0)), (4, .int v_1), (0, .ref (ad 0)), (1, .int (nI j)), (2, .int (nI q)), (3, .int 0)]) hx hb dX8_kinds_55 hl (by decide) rfl (fun ls hl => ?_)
          refine lv_iconst (v := 0) hx hb dX8_kinds_57 (by decide) ?_
          refine lv_istore (lv' := [(8, .int 0), (7, .int 0), (6, .int (T q 1)), (5, .int (T q 0)), (4, .int v_1), (0, .ref (ad 0)), (1, .int (nI j)), (2, .int (nI q)), (3, .int 0)]) hx hb dX8_kinds_58 hl (by decide) rfl (fun ls hl => ?_)
          have hW : MW D cA ad ρ (upT T q 0 (T q 0)) σ A s s.heap H locs := by rw [upT_eta]; exact hW
          have L60 : ∀ (k : Nat) (i : Nat) (x : Int32) (ρ' : Nat → Nat → Int32) (aa : Int32), (i ≤ 6) → (6 + 1 ≤ i + k) → (aa = fitK (fun v => foS Lx (nuM σ j) kz (upT T q 0 (nI v))) i) → ∀ (H : Heap) (locs : List Loc) (ls : Array Slot), MW D cA ad ρ' (upT T q 0 x) σ A s s.heap H locs → lv_has ls 9 [(8, .int (nI i)), (7, .int aa), (0, .ref (ad 0)), (1, .int (nI j)), (2, .int (nI q)), (3, .int 0), (5, .int (T q 0)), (6, .int (T q 1))] → W p l e rm_yX8_kinds s m ar below meth c H locs 0 0 Q (F0 m 60 ls []) := by
            intro k
            induction k with
            | zero => intro i x ρ' aa h1 h2 haa; exact absurd h2 (by omega)
            | succ k ih60 =>
              intro i x ρ' aa h1 h2 haa H locs ls hW hl
              refine lv_iload hx hb dX8_kinds_60 (lv_at hl 0 rfl) ?_
              refine lv_iload_n hx hb dX8_kinds_62 rfl (lv_at hl 5 rfl) ?_
              refine lv_if_ne (tgt := 71) hx hb dX8_kinds_63 (by decide) (fun c_5 => ?_) (fun c_5 => ?_)
              ·
                exact absurd c_5 (by decide)
              ·
                refine lv_bipush (v := 6) hx hb dX8_kinds_66 (by decide) ?_
                refine lv_goto (tgt := 73) hx hb dX8_kinds_68 (by decide) ?_
                refine lv_icmp_ge (tgt := 139) hx hb dX8_kinds_73 (by decide) (fun c_6 => ?_) (fun c_6 => ?_)
                ·
                  obtain rfl : i = 6 := by have := mi_le (a := 6) (b := i) c_6 (by omega) (by omega); omega
                  refine lv_aload_n hx hb dX8_kinds_139 rfl (lv_at hl 2 rfl) ?_
                  refine mr_f F hW 1 (by decide) rfl fl_RX8_7 dX8_kinds_140 ?_
                  refine lv_iload_n hx hb dX8_kinds_143 rfl (lv_at hl 4 rfl) ?_
                  refine lv_iload hx hb dX8_kinds_144 (lv_at hl 6 rfl) ?_
                  refine mw_kind q (by omega) rfl F hW dX8_kinds_146 (fun H locs hW => ?_)
                  refine lv_aload_n hx hb dX8_kinds_147 rfl (lv_at hl 2 rfl) ?_
                  refine mr_f F hW 2 (by decide) rfl fl_RX8_13 dX8_kinds_148 ?_
                  refine lv_iload_n hx hb dX8_kinds_151 rfl (lv_at hl 4 rfl) ?_
                  refine lv_iload hx hb dX8_kinds_152 (lv_at hl 7 rfl) ?_
                  refine mw_more q (by omega) rfl F hW dX8_kinds_154 (fun H locs hW => ?_)
                  have hW : MW D cA ad ρ' T σ A s s.heap H locs := by rw [kk_0, upT_eta] at hW; exact hW
                  refine lv_iload hx hb dX8_kinds_155 (lv_at hl 1 rfl) ?_
                  exact hret aa ρ' _ _ _ _ _ hW rfl rfl (by unfold kindsP; rw [if_pos htal, if_neg hone, if_neg (by decide), if_pos rfl, hiq, hij, hik]; exact haa) dX8_kinds_157
                ·
                  have hlt : i < 6 := mi_nle (a := 6) (b := i) c_6 (by omega) (by omega)
                  refine lv_aload_n hx hb dX8_kinds_76 rfl (lv_at hl 2 rfl) ?_
                  refine mr_f F hW 1 (by decide) rfl fl_RX8_7 dX8_kinds_77 ?_
                  refine lv_iload_n hx hb dX8_kinds_80 rfl (lv_at hl 4 rfl) ?_
                  refine lv_iload_n hx hb dX8_kinds_81 rfl (lv_at hl 5 rfl) ?_
                  refine lv_if_ne (tgt := 90) hx hb dX8_kinds_82 (by decide) (fun c_7 => ?_) (fun c_7 => ?_)
                  ·
                    exact absurd c_7 (by decide)
                  ·
                    refine lv_iload hx hb dX8_kinds_85 (lv_at hl 0 rfl) ?_
                    refine lv_goto (tgt := 92) hx hb dX8_kinds_87 (by decide) ?_
                    refine mw_kind q (by omega) rfl F hW dX8_kinds_92 (fun H locs hW => ?_)
                    refine lv_aload_n hx hb dX8_kinds_93 rfl (lv_at hl 2 rfl) ?_
                    refine mr_f F hW 2 (by decide) rfl fl_RX8_13 dX8_kinds_94 ?_
                    refine lv_iload_n hx hb dX8_kinds_97 rfl (lv_at hl 4 rfl) ?_
                    refine lv_iload_n hx hb dX8_kinds_98 rfl (lv_at hl 5 rfl) ?_
                    refine lv_iconst (v := 1) hx hb dX8_kinds_99 (by decide) ?_
                    refine lv_icmp_ne (tgt := 108) hx hb dX8_kinds_100 (by decide) (fun c_8 => ?_) (fun c_8 => ?_)
                    ·
                      refine lv_iload hx hb dX8_kinds_108 (lv_at hl 7 rfl) ?_
                      refine mw_more q (by omega) rfl F hW dX8_kinds_110 (fun H locs hW => ?_)
                      have hW : MW D cA ad ρ' (upT T q 0 (nI i)) σ A s s.heap H locs := by rw [kk_0] at hW; exact hW
                      refine lv_iload hx hb dX8_kinds_111 (lv_at hl 1 rfl) ?_
                      refine lv_aload_n hx hb dX8_kinds_113 rfl (lv_at hl 2 rfl) ?_
                      refine lv_iload_n hx hb dX8_kinds_114 rfl (lv_at hl 3 rfl) ?_
                      refine gw_callVi (As := [.int (nI j)]) (rest := [.int aa]) F hl.1 hW (fun _ _ _ => trivial) gw_T_E (by decide) (rfl : ment ad cA _ _ _ 0 = _) rfl (kX8_unlike (n := n) (j := j) (kz := kz) (Lx := Lx) (ok_upT hT hq6 (fun _ => okG_0 hGq ⟨i, by omega, rfl⟩)) hM hj hkz hsi) pd_yX8_unlike ml_RX8_219 im_yX8_unlike se_yX8_unlike ini_RX8 cd_yX8_unlike ⟨rfl, rfl⟩ ⟨Nat.le_of_ble_eq_true rfl, Nat.le_of_ble_eq_true rfl⟩ rfl rfl (Nat.le_of_ble_eq_true rfl) ⟨Nat.zero_le _, Nat.zero_le _⟩ dX8_kinds_115 (fun r ρ_9 H locs hp hW _ _ => ?_)
                      subst hp
                      refine lv_as (z := foS Lx (nuM σ j) kz (upT T q 0 (nI i))) rfl ?_
                      refine lv_iconst (v := (-1)) hx hb dX8_kinds_118 (by decide) ?_
                      refine lv_icmp_ne (tgt := 129) hx hb dX8_kinds_119 (by decide) (fun c_10 => ?_) (fun c_10 => ?_)
                      ·
                        refine lv_iconst (v := 0) hx hb dX8_kinds_129 (by decide) ?_
                        refine lv_ior hx hb dX8_kinds_130 ?_
                        refine lv_istore (lv' := [(7, .int (aa ||| 0)), (8, .int (nI i)), (0, .ref (ad 0)), (1, .int (nI j)), (2, .int (nI q)), (3, .int 0), (5, .int (T q 0)), (6, .int (T q 1))]) hx hb dX8_kinds_131 hl (by decide) rfl (fun ls hl => ?_)
                        refine lv_iinc (v := nI (i + 1)) (lv' := [(8, .int (nI (i + 1))), (7, .int (aa ||| 0)), (0, .ref (ad 0)), (1, .int (nI j)), (2, .int (nI q)), (3, .int 0), (5, .int (T q 0)), (6, .int (T q 1))]) hx hb dX8_kinds_133 hl (k := 1) rfl (nI_1 i) (by decide) rfl (fun ls hl => ?_)
                        refine lv_goto (tgt := 60) hx hb dX8_kinds_136 (by decide) ?_
                        exact ih60 (i + 1) (nI i) ρ_9 _ (by omega) (by omega) (by rw [haa]; exact Int32.or_zero.trans (if_neg c_10).symm) _ _ _ hW (lv_sub hl [0, 1, 2, 3, 4, 5, 6, 7] rfl)
                      ·
                        refine lv_iconst (v := 1) hx hb dX8_kinds_122 (by decide) ?_
                        refine lv_iload hx hb dX8_kinds_123 (lv_at hl 0 rfl) ?_
                        refine lv_ishl hx hb dX8_kinds_125 ?_
                        refine lv_goto (tgt := 130) hx hb dX8_kinds_126 (by decide) ?_
                        refine lv_ior hx hb dX8_kinds_130 ?_
                        refine lv_topi (fun v_11 ev_11 => ?_)
                        refine lv_istore (lv' := [(7, .int v_11), (8, .int (nI i)), (0, .ref (ad 0)), (1, .int (nI j)), (2, .int (nI q)), (3, .int 0), (5, .int (T q 0)), (6, .int (T q 1))]) hx hb dX8_kinds_131 hl (by decide) rfl (fun ls hl => ?_)
                        refine lv_iinc (v := nI (i + 1)) (lv' := [(8, .int (nI (i + 1))), (7, .int v_11), (0, .ref (ad 0)), (1, .int (nI j)), (2, .int (nI q)), (3, .int 0), (5, .int (T q 0)), (6, .int (T q 1))]) hx hb dX8_kinds_133 hl (k := 1) rfl (nI_1 i) (by decide) rfl (fun ls hl => ?_)
                        refine lv_goto (tgt := 60) hx hb dX8_kinds_136 (by decide) ?_
                        exact ih60 (i + 1) (nI i) ρ_9 _ (by omega) (by omega) (by subst ev_11; rw [haa]; exact (if_pos c_10).symm) _ _ _ hW (lv_sub hl [0, 1, 2, 3, 4, 5, 6, 7] rfl)
                    ·
                      exact absurd c_8 (by decide)
          exact L60 (6 + 1) 0 (T q 0) _ 0 (Nat.zero_le _) (by omega) (rfl) _ _ _ hW (lv_sub hl [0, 1, 5, 6, 7, 8, 3, 2] rfl)
        ·
          refine lv_aload_n hx hb dX8_kinds_38 rfl (lv_at hl 1 rfl) ?_
          refine mr_f F hW 1 (by decide) rfl fl_RX8_7 dX8_kinds_39 ?_
          refine lv_iload_n hx hb dX8_kinds_42 rfl (lv_at hl 3 rfl) ?_
          refine mr_kind q (by omega) rfl F hW dX8_kinds_43 ?_
          refine lv_istore (lv' := [(5, .int (T q 0)), (4, .int v_1), (0, .ref (ad 0)), (1, .int (nI j)), (2, .int (nI q)), (3, .int 1)]) hx hb dX8_kinds_44 hl (by decide) rfl (fun ls hl => ?_)
          refine lv_aload_n hx hb dX8_kinds_46 rfl (lv_at hl 2 rfl) ?_
          refine mr_f F hW 2 (by decide) rfl fl_RX8_13 dX8_kinds_47 ?_
          refine lv_iload_n hx hb dX8_kinds_50 rfl (lv_at hl 4 rfl) ?_
          refine mr_more q (by omega) rfl F hW dX8_kinds_51 ?_
          refine lv_istore (lv' := [(6, .int (T q 1)), (5, .int (T q 0)), (4, .int v_1), (0, .ref (ad 0)), (1, .int (nI j)), (2, .int (nI q)), (3, .int 1)]) hx hb dX8_kinds_52 hl (by decide) rfl (fun ls hl => ?_)
          refine lv_iconst (v := 0) hx hb dX8_kinds_54 (by decide) ?_
          refine lv_istore (lv' := [(7, .int 0), (6, .int (T q 1)), (5, .int (T q 0)), (4, .int v_1), (0, .ref (ad 0)), (1, .int (nI j)), (2, .int (nI q)), (3, .int 1)]) hx hb dX8_kinds_55 hl (by decide) rfl (fun ls hl => ?_)
          refine lv_iconst (v := 0) hx hb dX8_kinds_57 (by decide) ?_
          refine lv_istore (lv' := [(8, .int 0), (7, .int 0), (6, .int (T q 1)), (5, .int (T q 0)), (4, .int v_1), (0, .ref (ad 0)), (1, .int (nI j)), (2, .int (nI q)), (3, .int 1)]) hx hb dX8_kinds_58 hl (by decide) rfl (fun ls hl => ?_)
          have hW : MW D cA ad ρ (upT T q 1 (T q 1)) σ A s s.heap H locs := by rw [upT_eta]; exact hW
          have L60 : ∀ (k : Nat) (i : Nat) (x : Int32) (ρ' : Nat → Nat → Int32) (aa : Int32), (i ≤ 10) → (10 + 1 ≤ i + k) → (aa = fitK (fun v => foS Lx (nuM σ j) kz (upT T q 1 (nI v))) i) → ∀ (H : Heap) (locs : List Loc) (ls : Array Slot), MW D cA ad ρ' (upT T q 1 x) σ A s s.heap H locs → lv_has ls 9 [(8, .int (nI i)), (7, .int aa), (0, .ref (ad 0)), (1, .int (nI j)), (2, .int (nI q)), (3, .int 1), (5, .int (T q 0)), (6, .int (T q 1))] → W p l e rm_yX8_kinds s m ar below meth c H locs 0 0 Q (F0 m 60 ls []) := by
            intro k
            induction k with
            | zero => intro i x ρ' aa h1 h2 haa; exact absurd h2 (by omega)
            | succ k ih60 =>
              intro i x ρ' aa h1 h2 haa H locs ls hW hl
              refine lv_iload hx hb dX8_kinds_60 (lv_at hl 0 rfl) ?_
              refine lv_iload_n hx hb dX8_kinds_62 rfl (lv_at hl 5 rfl) ?_
              refine lv_if_ne (tgt := 71) hx hb dX8_kinds_63 (by decide) (fun c_12 => ?_) (fun c_12 => ?_)
              ·
                refine lv_bipush (v := 10) hx hb dX8_kinds_71 (by decide) ?_
                refine lv_icmp_ge (tgt := 139) hx hb dX8_kinds_73 (by decide) (fun c_13 => ?_) (fun c_13 => ?_)
                ·
                  obtain rfl : i = 10 := by have := mi_le (a := 10) (b := i) c_13 (by omega) (by omega); omega
                  refine lv_aload_n hx hb dX8_kinds_139 rfl (lv_at hl 2 rfl) ?_
                  refine mr_f F hW 1 (by decide) rfl fl_RX8_7 dX8_kinds_140 ?_
                  refine lv_iload_n hx hb dX8_kinds_143 rfl (lv_at hl 4 rfl) ?_
                  refine lv_iload hx hb dX8_kinds_144 (lv_at hl 6 rfl) ?_
                  refine mw_kind q (by omega) rfl F hW dX8_kinds_146 (fun H locs hW => ?_)
                  refine lv_aload_n hx hb dX8_kinds_147 rfl (lv_at hl 2 rfl) ?_
                  refine mr_f F hW 2 (by decide) rfl fl_RX8_13 dX8_kinds_148 ?_
                  refine lv_iload_n hx hb dX8_kinds_151 rfl (lv_at hl 4 rfl) ?_
                  refine lv_iload hx hb dX8_kinds_152 (lv_at hl 7 rfl) ?_
                  refine mw_more q (by omega) rfl F hW dX8_kinds_154 (fun H locs hW => ?_)
                  have hW : MW D cA ad ρ' T σ A s s.heap H locs := by rw [kk_1, upT_eta] at hW; exact hW
                  refine lv_iload hx hb dX8_kinds_155 (lv_at hl 1 rfl) ?_
                  exact hret aa ρ' _ _ _ _ _ hW rfl rfl (by unfold kindsP; rw [if_pos htal, if_neg hone, if_neg (by decide), if_neg (by decide), hiq, hij, hik]; exact haa) dX8_kinds_157
                ·
                  have hlt : i < 10 := mi_nle (a := 10) (b := i) c_13 (by omega) (by omega)
                  refine lv_aload_n hx hb dX8_kinds_76 rfl (lv_at hl 2 rfl) ?_
                  refine mr_f F hW 1 (by decide) rfl fl_RX8_7 dX8_kinds_77 ?_
                  refine lv_iload_n hx hb dX8_kinds_80 rfl (lv_at hl 4 rfl) ?_
                  refine lv_iload_n hx hb dX8_kinds_81 rfl (lv_at hl 5 rfl) ?_
                  refine lv_if_ne (tgt := 90) hx hb dX8_kinds_82 (by decide) (fun c_14 => ?_) (fun c_14 => ?_)
                  ·
                    refine lv_iload hx hb dX8_kinds_90 (lv_at hl 6 rfl) ?_
                    refine mw_kind q (by omega) rfl F hW dX8_kinds_92 (fun H locs hW => ?_)
                    refine lv_aload_n hx hb dX8_kinds_93 rfl (lv_at hl 2 rfl) ?_
                    refine mr_f F hW 2 (by decide) rfl fl_RX8_13 dX8_kinds_94 ?_
                    refine lv_iload_n hx hb dX8_kinds_97 rfl (lv_at hl 4 rfl) ?_
                    refine lv_iload_n hx hb dX8_kinds_98 rfl (lv_at hl 5 rfl) ?_
                    refine lv_iconst (v := 1) hx hb dX8_kinds_99 (by decide) ?_
                    refine lv_icmp_ne (tgt := 108) hx hb dX8_kinds_100 (by decide) (fun c_15 => ?_) (fun c_15 => ?_)
                    ·
                      exact absurd c_15 (by decide)
                    ·
                      refine lv_iload hx hb dX8_kinds_103 (lv_at hl 0 rfl) ?_
                      refine lv_goto (tgt := 110) hx hb dX8_kinds_105 (by decide) ?_
                      refine mw_more q (by omega) rfl F hW dX8_kinds_110 (fun H locs hW => ?_)
                      have hW : MW D cA ad ρ' (upT T q 1 (nI i)) σ A s s.heap H locs := by rw [kk_1] at hW; exact hW
                      refine lv_iload hx hb dX8_kinds_111 (lv_at hl 1 rfl) ?_
                      refine lv_aload_n hx hb dX8_kinds_113 rfl (lv_at hl 2 rfl) ?_
                      refine lv_iload_n hx hb dX8_kinds_114 rfl (lv_at hl 3 rfl) ?_
                      refine gw_callVi (As := [.int (nI j)]) (rest := [.int aa]) F hl.1 hW (fun _ _ _ => trivial) gw_T_E (by decide) (rfl : ment ad cA _ _ _ 0 = _) rfl (kX8_unlike (n := n) (j := j) (kz := kz) (Lx := Lx) (ok_upT hT hq6 (fun _ => okG_1 hGq ⟨i, by omega, rfl⟩)) hM hj hkz hsi) pd_yX8_unlike ml_RX8_219 im_yX8_unlike se_yX8_unlike ini_RX8 cd_yX8_unlike ⟨rfl, rfl⟩ ⟨Nat.le_of_ble_eq_true rfl, Nat.le_of_ble_eq_true rfl⟩ rfl rfl (Nat.le_of_ble_eq_true rfl) ⟨Nat.zero_le _, Nat.zero_le _⟩ dX8_kinds_115 (fun r ρ_16 H locs hp hW _ _ => ?_)
                      subst hp
                      refine lv_as (z := foS Lx (nuM σ j) kz (upT T q 1 (nI i))) rfl ?_
                      refine lv_iconst (v := (-1)) hx hb dX8_kinds_118 (by decide) ?_
                      refine lv_icmp_ne (tgt := 129) hx hb dX8_kinds_119 (by decide) (fun c_17 => ?_) (fun c_17 => ?_)
                      ·
                        refine lv_iconst (v := 0) hx hb dX8_kinds_129 (by decide) ?_
                        refine lv_ior hx hb dX8_kinds_130 ?_
                        refine lv_istore (lv' := [(7, .int (aa ||| 0)), (8, .int (nI i)), (0, .ref (ad 0)), (1, .int (nI j)), (2, .int (nI q)), (3, .int 1), (5, .int (T q 0)), (6, .int (T q 1))]) hx hb dX8_kinds_131 hl (by decide) rfl (fun ls hl => ?_)
                        refine lv_iinc (v := nI (i + 1)) (lv' := [(8, .int (nI (i + 1))), (7, .int (aa ||| 0)), (0, .ref (ad 0)), (1, .int (nI j)), (2, .int (nI q)), (3, .int 1), (5, .int (T q 0)), (6, .int (T q 1))]) hx hb dX8_kinds_133 hl (k := 1) rfl (nI_1 i) (by decide) rfl (fun ls hl => ?_)
                        refine lv_goto (tgt := 60) hx hb dX8_kinds_136 (by decide) ?_
                        exact ih60 (i + 1) (nI i) ρ_16 _ (by omega) (by omega) (by rw [haa]; exact Int32.or_zero.trans (if_neg c_17).symm) _ _ _ hW (lv_sub hl [0, 1, 2, 3, 4, 5, 6, 7] rfl)
                      ·
                        refine lv_iconst (v := 1) hx hb dX8_kinds_122 (by decide) ?_
                        refine lv_iload hx hb dX8_kinds_123 (lv_at hl 0 rfl) ?_
                        refine lv_ishl hx hb dX8_kinds_125 ?_
                        refine lv_goto (tgt := 130) hx hb dX8_kinds_126 (by decide) ?_
                        refine lv_ior hx hb dX8_kinds_130 ?_
                        refine lv_topi (fun v_18 ev_18 => ?_)
                        refine lv_istore (lv' := [(7, .int v_18), (8, .int (nI i)), (0, .ref (ad 0)), (1, .int (nI j)), (2, .int (nI q)), (3, .int 1), (5, .int (T q 0)), (6, .int (T q 1))]) hx hb dX8_kinds_131 hl (by decide) rfl (fun ls hl => ?_)
                        refine lv_iinc (v := nI (i + 1)) (lv' := [(8, .int (nI (i + 1))), (7, .int v_18), (0, .ref (ad 0)), (1, .int (nI j)), (2, .int (nI q)), (3, .int 1), (5, .int (T q 0)), (6, .int (T q 1))]) hx hb dX8_kinds_133 hl (k := 1) rfl (nI_1 i) (by decide) rfl (fun ls hl => ?_)
                        refine lv_goto (tgt := 60) hx hb dX8_kinds_136 (by decide) ?_
                        exact ih60 (i + 1) (nI i) ρ_16 _ (by omega) (by omega) (by subst ev_18; rw [haa]; exact (if_pos c_17).symm) _ _ _ hW (lv_sub hl [0, 1, 2, 3, 4, 5, 6, 7] rfl)
                  ·
                    exact absurd c_14 (by decide)
              ·
                exact absurd c_12 (by decide)
          exact L60 (10 + 1) 0 (T q 1) _ 0 (Nat.zero_le _) (by omega) (rfl) _ _ _ hW (lv_sub hl [0, 1, 5, 6, 7, 8, 3, 2] rfl)
      ·
        refine lv_bipush (v := (-7)) hx hb dX8_kinds_35 (by decide) ?_
        exact hret (-7) ρ _ _ _ _ _ hW rfl rfl (by unfold kindsP; rw [if_pos htal, if_neg hone, if_pos (cho_0 c_4)]) dX8_kinds_37
    ·
      refine lv_bipush (v := (-5)) hx hb dX8_kinds_23 (by decide) ?_
      exact hret (-5) ρ _ _ _ _ _ hW rfl rfl (by unfold kindsP; rw [if_pos htal, if_pos c_3]) dX8_kinds_25
  ·
    refine lv_iload hx hb dX8_kinds_12 (lv_at hl 0 rfl) ?_
    exact hret v_1 ρ _ _ _ _ _ hW rfl rfl (by subst ev_1; unfold kindsP; rw [if_neg c_2]) dX8_kinds_14
theorem i32_add0 (x : Int32) : x + 0 = x := Int32.add_zero x
theorem one_or2 {v : Int32} (h0 : ¬ v < 1) (h1 : ¬ 2 < v) : v = 1 ∨ v = 2 := by
  obtain ⟨j, hj, rfl⟩ := nI_of (fun z => h0 (Int32.lt_trans z (by decide)))
  have h2 := mi_nlt (a := 2) h1 (by decide) hj
  have h3 := mi_nlt (b := 1) h0 hj (by decide)
  rcases (show j = 1 ∨ j = 2 by omega) with rfl | rfl
  · exact Or.inl rfl
  · exact Or.inr rfl
theorem in_12 {w : Int32} (h : inP w 1 2 = 0) : ¬ (w = 1 ∨ w = 2) := by
  rw [in_z] at h
  intro e
  rcases e with rfl | rfl <;> rcases h with h | h <;> exact absurd h (by decide)
abbrev rm_yX8_states : Room := { frames := 8, cells := 0, slots := 0, locals := 186 }
set_option maxHeartbeats 800000 in
set_option maxRecDepth 100000 in
theorem kX8_states {l : Launch} {D : va_G} {cA : ClassId} {ad : Nat → Nat} {ρ T σ : Nat → Nat → Int32} {sz : Nat} {n : Nat} {Lx : Lw} {z : Int32} {pp w w0 : Int32} (hT : okT n T) (hM : okML n σ Lx) (hSM : okSM σ) : MMi l yX8_states cX8_states 11 FieldType.int rm_yX8_states [.ref (ad 0), .int z, .int pp, .int w, .int w0] D cA ad ρ T σ sz (fun (r : Int32) (u : Nat → Nat → Int32) => r = statesP Lx T (soM σ) (siM σ) (nuM σ) z pp w w0) (fun u : Nat → Nat → Int32 => ment ad cA u T σ) := by
  refine gw_stI (Ff := fun u : Nat → Nat → Int32 => ment ad cA u T σ) (own := RX8) (by decide +kernel) rfl (Nat.le_of_ble_eq_true rfl) ?_
  intro p e s m ar below meth c A Q F hE hsz hW hret ls hl
  obtain ⟨hx, hb, hml, hown, hts⟩ := id F
  have hl : lv_has ls 11 [(0, .ref (ad 0)), (1, .int z), (2, .int pp), (3, .int w), (4, .int w0)] := hl
  have hs6 := hT.1
  have hsN := hT.2.1
  refine lv_aload_n hx hb dX8_states_0 rfl (lv_at hl 0 rfl) ?_
  refine lv_iload_n hx hb dX8_states_1 rfl (lv_at hl 1 rfl) ?_
  refine gw_callVi (As := [.int z]) (rest := []) F hl.1 hW (fun _ _ _ => trivial) gw_T_E (by decide) (rfl : ment ad cA _ _ _ 0 = _) rfl (kX8_sheetWrong) pd_yX8_sheetWrong ml_RX8_216 im_yX8_sheetWrong se_yX8_sheetWrong ini_RX8 cd_yX8_sheetWrong ⟨rfl, rfl⟩ ⟨Nat.le_of_ble_eq_true rfl, Nat.le_of_ble_eq_true rfl⟩ rfl rfl (Nat.le_of_ble_eq_true rfl) ⟨Nat.zero_le _, Nat.zero_le _⟩ dX8_states_2 (fun r u H locs hp hW _ _ => ?_)
  subst hp
  refine lv_as (z := talP (soM σ) (siM σ) z) rfl ?_
  refine lv_topi (fun v_1 ev_1 => ?_)
  refine lv_istore (lv' := [(5, .int v_1), (0, .ref (ad 0)), (1, .int z), (2, .int pp), (3, .int w), (4, .int w0)]) hx hb dX8_states_5 hl (by decide) rfl (fun ls hl => ?_)
  refine lv_iload hx hb dX8_states_7 (lv_at hl 0 rfl) ?_
  refine lv_if_eq (tgt := 15) hx hb dX8_states_9 (by decide) (fun c_2 => ?_) (fun c_2 => ?_)
  ·
    have htal : talP (soM σ) (siM σ) z = 0 := (by rw [← ev_1]; exact c_2); obtain ⟨j, kz, hj, hkz, rfl, hsi⟩ := tal_okM hSM htal; have hij : iN (nI j) = j := iN_nI (by omega); have hik : iN (siM σ j) = kz := (congrArg iN hsi).trans (iN_nI (by omega))
    refine lv_aload_n hx hb dX8_states_15 rfl (lv_at hl 1 rfl) ?_
    refine lv_iload_n hx hb dX8_states_16 rfl (lv_at hl 3 rfl) ?_
    refine gw_callVi (As := [.int pp]) (rest := []) F hl.1 hW (fun _ _ _ => trivial) gw_T_E (by decide) (rfl : ment ad cA _ _ _ 0 = _) rfl (kX8_isOne (n := n) hT) pd_yX8_isOne ml_RX8_161 im_yX8_isOne se_yX8_isOne ini_RX8 cd_yX8_isOne ⟨rfl, rfl⟩ ⟨Nat.le_of_ble_eq_true rfl, Nat.le_of_ble_eq_true rfl⟩ rfl rfl (Nat.le_of_ble_eq_true rfl) ⟨Nat.zero_le _, Nat.zero_le _⟩ dX8_states_17 (fun r u H locs hp hW _ _ => ?_)
    subst hp
    refine lv_as (z := oneP T pp) rfl ?_
    refine lv_if_ne (tgt := 26) hx hb dX8_states_20 (by decide) (fun c_3 => ?_) (fun c_3 => ?_)
    ·
      obtain ⟨q, hq, rfl⟩ := one_nat hT c_3; have hq6 : q < 6 := seats_le hT hq; have hiq : iN (nI q) = q := iN_nI (by omega); have hGq := hT.2.2.2.2 q hq; have hone : ¬ oneP T (nI q) = 0 := c_3
      refine lv_iload_n hx hb dX8_states_26 rfl (lv_at hl 4 rfl) ?_
      refine lv_iconst (v := 1) hx hb dX8_states_27 (by decide) ?_
      refine lv_iconst (v := 2) hx hb dX8_states_28 (by decide) ?_
      refine gw_callP (As := [.int w, .int 1, .int 2]) (rest := []) F hl.1 (kX8_in) pd_yX8_in ml_RX8_72 st_yX8_in ini_RX8 cd_yX8_in ⟨rfl, rfl⟩ ⟨Nat.le_of_ble_eq_true rfl, Nat.le_of_ble_eq_true rfl⟩ rfl rfl (Nat.le_of_ble_eq_true rfl) ⟨Nat.zero_le _, Nat.zero_le _⟩ dX8_states_29 ?_
      refine lv_as (z := inP w 1 2) rfl ?_
      refine lv_if_eq (tgt := 45) hx hb dX8_states_32 (by decide) (fun c_4 => ?_) (fun c_4 => ?_)
      ·
        refine lv_bipush (v := (-7)) hx hb dX8_states_45 (by decide) ?_
        exact hret (-7) ρ _ _ _ _ _ hW rfl rfl (by unfold statesP; rw [if_pos htal, if_neg hone, if_neg (in_12 c_4)]) dX8_states_47
      ·
        refine lv_iload hx hb dX8_states_35 (lv_at hl 5 rfl) ?_
        refine lv_iconst (v := 0) hx hb dX8_states_37 (by decide) ?_
        refine lv_iconst (v := 1) hx hb dX8_states_38 (by decide) ?_
        refine gw_callP (As := [.int w0, .int 0, .int 1]) (rest := []) F hl.1 (kX8_in) pd_yX8_in ml_RX8_72 st_yX8_in ini_RX8 cd_yX8_in ⟨rfl, rfl⟩ ⟨Nat.le_of_ble_eq_true rfl, Nat.le_of_ble_eq_true rfl⟩ rfl rfl (Nat.le_of_ble_eq_true rfl) ⟨Nat.zero_le _, Nat.zero_le _⟩ dX8_states_39 ?_
        refine lv_as (z := inP w0 0 1) rfl ?_
        refine lv_if_ne (tgt := 48) hx hb dX8_states_42 (by decide) (fun c_5 => ?_) (fun c_5 => ?_)
        ·
          rcases (one_or2 (in_y c_4).1 (in_y c_4).2) with rfl | rfl
          ·
            refine lv_aload_n hx hb dX8_states_48 rfl (lv_at hl 1 rfl) ?_
            refine mr_f F hW 3 (by decide) rfl fl_RX8_16 dX8_states_49 ?_
            refine lv_iconst (v := 5) hx hb dX8_states_52 (by decide) ?_
            refine lv_iload_n hx hb dX8_states_53 rfl (lv_at hl 3 rfl) ?_
            refine lv_imul hx hb dX8_states_54 ?_
            refine lv_iload_n hx hb dX8_states_55 rfl (lv_at hl 4 rfl) ?_
            refine lv_iadd hx hb dX8_states_56 ?_
            refine mr_rows q 1 (by omega) (by decide) (mi_5k q 1) F hW dX8_states_57 ?_
            refine lv_istore (lv' := [(6, .int (T q 3)), (5, .int v_1), (0, .ref (ad 0)), (1, .int (nI j)), (2, .int (nI q)), (3, .int 1), (4, .int w0)]) hx hb dX8_states_58 hl (by decide) rfl (fun ls hl => ?_)
            refine lv_iconst (v := 0) hx hb dX8_states_60 (by decide) ?_
            refine lv_istore (lv' := [(7, .int 0), (6, .int (T q 3)), (5, .int v_1), (0, .ref (ad 0)), (1, .int (nI j)), (2, .int (nI q)), (3, .int 1), (4, .int w0)]) hx hb dX8_states_61 hl (by decide) rfl (fun ls hl => ?_)
            refine lv_iconst (v := (-1)) hx hb dX8_states_63 (by decide) ?_
            refine lv_istore (lv' := [(8, .int (-1)), (7, .int 0), (6, .int (T q 3)), (5, .int v_1), (0, .ref (ad 0)), (1, .int (nI j)), (2, .int (nI q)), (3, .int 1), (4, .int w0)]) hx hb dX8_states_64 hl (by decide) rfl (fun ls hl => ?_)
            refine lv_iconst (v := 0) hx hb dX8_states_66 (by decide) ?_
            refine lv_istore (lv' := [(9, .int 0), (8, .int (-1)), (7, .int 0), (6, .int (T q 3)), (5, .int v_1), (0, .ref (ad 0)), (1, .int (nI j)), (2, .int (nI q)), (3, .int 1), (4, .int w0)]) hx hb dX8_states_67 hl (by decide) rfl (fun ls hl => ?_)
            have hW : MW D cA ad ρ (upT T q 3 (T q 3)) σ A s s.heap H locs := by rw [upT_eta]; exact hW
            have L69 : ∀ (k : Nat) (i : Nat) (x : Int32) (ρ' : Nat → Nat → Int32) (aa bb : Int32), (i ≤ 100) → (101 ≤ i + k) → (stK (fun v => foS Lx (nuM σ j) kz (upT T q 3 (nI v))) i = (aa, bb)) → ∀ (H : Heap) (locs : List Loc) (ls : Array Slot), MW D cA ad ρ' (upT T q 3 x) σ A s s.heap H locs → lv_has ls 11 [(9, .int (nI i)), (7, .int aa), (8, .int bb), (0, .ref (ad 0)), (1, .int (nI j)), (2, .int (nI q)), (3, .int 1), (4, .int w0), (6, .int (T q 3))] → W p l e rm_yX8_states s m ar below meth c H locs 0 0 Q (F0 m 69 ls []) := by
              intro k
              induction k with
              | zero => intro i x ρ' aa bb h1 h2 hst; exact absurd h2 (by omega)
              | succ k ih69 =>
                intro i x ρ' aa bb h1 h2 hst H locs ls hW hl
                refine lv_iload hx hb dX8_states_69 (lv_at hl 0 rfl) ?_
                refine lv_bipush (v := 99) hx hb dX8_states_71 (by decide) ?_
                refine lv_icmp_gt (tgt := 145) hx hb dX8_states_73 (by decide) (fun c_6 => ?_) (fun c_6 => ?_)
                ·
                  obtain rfl : i = 100 := by have := mi_lt (a := 99) (b := i) c_6 (by decide) (by omega); omega
                  refine lv_aload_n hx hb dX8_states_145 rfl (lv_at hl 3 rfl) ?_
                  refine mr_f F hW 3 (by decide) rfl fl_RX8_16 dX8_states_146 ?_
                  refine lv_iconst (v := 5) hx hb dX8_states_149 (by decide) ?_
                  refine lv_iload_n hx hb dX8_states_150 rfl (lv_at hl 5 rfl) ?_
                  refine lv_imul hx hb dX8_states_151 ?_
                  refine lv_iload_n hx hb dX8_states_152 rfl (lv_at hl 6 rfl) ?_
                  refine lv_iadd hx hb dX8_states_153 ?_
                  refine lv_iload hx hb dX8_states_154 (lv_at hl 8 rfl) ?_
                  refine mw_rows q 1 (by omega) (by decide) (mi_5k q 1) F hW dX8_states_156 (fun H locs hW => ?_)
                  have hW : MW D cA ad ρ' T σ A s s.heap H locs := by rw [upT_upT, upT_eta] at hW; exact hW
                  refine lv_iload hx hb dX8_states_157 (lv_at hl 7 rfl) ?_
                  refine lv_if_ne (tgt := 167) hx hb dX8_states_159 (by decide) (fun c_7 => ?_) (fun c_7 => ?_)
                  ·
                    refine lv_iload hx hb dX8_states_167 (lv_at hl 2 rfl) ?_
                    exact hret bb ρ' _ _ _ _ _ hW rfl rfl (by unfold statesP pickS; rw [if_pos htal, if_neg hone, if_pos (by decide), if_neg (cho_1 c_5), if_pos (show (1 : Int32) = 1 from rfl), hiq, hij, hik, if_neg c_7, hst]) dX8_states_169
                  ·
                    refine lv_iload hx hb dX8_states_162 (lv_at hl 1 rfl) ?_
                    refine lv_goto (tgt := 169) hx hb dX8_states_164 (by decide) ?_
                    exact hret aa ρ' _ _ _ _ _ hW rfl rfl (by unfold statesP pickS; rw [if_pos htal, if_neg hone, if_pos (by decide), if_neg (cho_1 c_5), if_pos (show (1 : Int32) = 1 from rfl), hiq, hij, hik, if_pos c_7, hst]) dX8_states_169
                ·
                  have hlt : i < 100 := (by have := mi_nlt (a := 99) (b := i) c_6 (by decide) (by omega); omega)
                  refine lv_aload_n hx hb dX8_states_76 rfl (lv_at hl 3 rfl) ?_
                  refine mr_f F hW 3 (by decide) rfl fl_RX8_16 dX8_states_77 ?_
                  refine lv_iconst (v := 5) hx hb dX8_states_80 (by decide) ?_
                  refine lv_iload_n hx hb dX8_states_81 rfl (lv_at hl 5 rfl) ?_
                  refine lv_imul hx hb dX8_states_82 ?_
                  refine lv_iload_n hx hb dX8_states_83 rfl (lv_at hl 6 rfl) ?_
                  refine lv_iadd hx hb dX8_states_84 ?_
                  refine lv_iload hx hb dX8_states_85 (lv_at hl 0 rfl) ?_
                  refine mw_rows q 1 (by omega) (by decide) (mi_5k q 1) F hW dX8_states_87 (fun H locs hW => ?_)
                  have hW : MW D cA ad ρ' (upT T q 3 (nI i)) σ A s s.heap H locs := by rw [upT_upT] at hW; exact hW
                  refine lv_aload_n hx hb dX8_states_88 rfl (lv_at hl 3 rfl) ?_
                  refine lv_iload_n hx hb dX8_states_89 rfl (lv_at hl 4 rfl) ?_
                  refine gw_callVi (As := [.int (nI j)]) (rest := []) F hl.1 hW (fun _ _ _ => trivial) gw_T_E (by decide) (rfl : ment ad cA _ _ _ 0 = _) rfl (kX8_unlike (n := n) (j := j) (kz := kz) (Lx := Lx) (ok_upT hT hq6 (fun _ => okG_3 hGq ⟨i, by omega, rfl⟩)) hM hj hkz hsi) pd_yX8_unlike ml_RX8_219 im_yX8_unlike se_yX8_unlike ini_RX8 cd_yX8_unlike ⟨rfl, rfl⟩ ⟨Nat.le_of_ble_eq_true rfl, Nat.le_of_ble_eq_true rfl⟩ rfl rfl (Nat.le_of_ble_eq_true rfl) ⟨Nat.zero_le _, Nat.zero_le _⟩ dX8_states_90 (fun r ρ_8 H locs hp hW _ _ => ?_)
                  subst hp
                  refine lv_as (z := foS Lx (nuM σ j) kz (upT T q 3 (nI i))) rfl ?_
                  refine lv_iconst (v := (-1)) hx hb dX8_states_93 (by decide) ?_
                  refine lv_icmp_ne (tgt := 101) hx hb dX8_states_94 (by decide) (fun c_9 => ?_) (fun c_9 => ?_)
                  ·
                    refine lv_iconst (v := 0) hx hb dX8_states_101 (by decide) ?_
                    refine lv_istore (lv' := [(10, .int 0), (9, .int (nI i)), (7, .int aa), (8, .int bb), (0, .ref (ad 0)), (1, .int (nI j)), (2, .int (nI q)), (3, .int 1), (4, .int w0), (6, .int (T q 3))]) hx hb dX8_states_102 hl (by decide) rfl (fun ls hl => ?_)
                    refine lv_iload hx hb dX8_states_104 (lv_at hl 2 rfl) ?_
                    refine lv_iload hx hb dX8_states_106 (lv_at hl 0 rfl) ?_
                    refine lv_if_eq (tgt := 115) hx hb dX8_states_108 (by decide) (fun c_10 => ?_) (fun c_10 => ?_)
                    ·
                      refine lv_iconst (v := 0) hx hb dX8_states_115 (by decide) ?_
                      refine lv_iadd hx hb dX8_states_116 ?_
                      refine lv_istore (lv' := [(7, .int (aa + 0)), (10, .int 0), (9, .int (nI i)), (8, .int bb), (0, .ref (ad 0)), (1, .int (nI j)), (2, .int (nI q)), (3, .int 1), (4, .int w0), (6, .int (T q 3))]) hx hb dX8_states_117 hl (by decide) rfl (fun ls hl => ?_)
                      refine lv_iload hx hb dX8_states_119 (lv_at hl 1 rfl) ?_
                      refine lv_if_eq (tgt := 135) hx hb dX8_states_121 (by decide) (fun c_11 => ?_) (fun c_11 => ?_)
                      ·
                        refine lv_iload hx hb dX8_states_135 (lv_at hl 3 rfl) ?_
                        refine lv_istore (lv' := [(8, .int bb), (7, .int (aa + 0)), (10, .int 0), (9, .int (nI i)), (0, .ref (ad 0)), (1, .int (nI j)), (2, .int (nI q)), (3, .int 1), (4, .int w0), (6, .int (T q 3))]) hx hb dX8_states_137 hl (by decide) rfl (fun ls hl => ?_)
                        refine lv_iinc (v := nI (i + 1)) (lv' := [(9, .int (nI (i + 1))), (8, .int bb), (7, .int (aa + 0)), (10, .int 0), (0, .ref (ad 0)), (1, .int (nI j)), (2, .int (nI q)), (3, .int 1), (4, .int w0), (6, .int (T q 3))]) hx hb dX8_states_139 hl (k := 3) rfl (nI_1 i) (by decide) rfl (fun ls hl => ?_)
                        refine lv_goto (tgt := 69) hx hb dX8_states_142 (by decide) ?_
                        exact ih69 (i + 1) (nI i) ρ_8 _ _ (by omega) (by omega) (by show (if foS Lx (nuM σ j) kz (upT T q 3 (nI i)) = -1 then ((stK (fun v => foS Lx (nuM σ j) kz (upT T q 3 (nI v))) i).1 + 1, if (stK (fun v => foS Lx (nuM σ j) kz (upT T q 3 (nI v))) i).2 = -1 then nI i else (stK (fun v => foS Lx (nuM σ j) kz (upT T q 3 (nI v))) i).2) else stK (fun v => foS Lx (nuM σ j) kz (upT T q 3 (nI v))) i) = _; rw [if_neg c_9, hst, i32_add0]) _ _ _ hW (lv_sub hl [0, 2, 1, 4, 5, 6, 7, 8, 9] rfl)
                      ·
                        exact absurd c_11 (by decide)
                    ·
                      exact absurd c_10 (by decide)
                  ·
                    refine lv_iconst (v := 1) hx hb dX8_states_97 (by decide) ?_
                    refine lv_goto (tgt := 102) hx hb dX8_states_98 (by decide) ?_
                    refine lv_istore (lv' := [(10, .int 1), (9, .int (nI i)), (7, .int aa), (8, .int bb), (0, .ref (ad 0)), (1, .int (nI j)), (2, .int (nI q)), (3, .int 1), (4, .int w0), (6, .int (T q 3))]) hx hb dX8_states_102 hl (by decide) rfl (fun ls hl => ?_)
                    refine lv_iload hx hb dX8_states_104 (lv_at hl 2 rfl) ?_
                    refine lv_iload hx hb dX8_states_106 (lv_at hl 0 rfl) ?_
                    refine lv_if_eq (tgt := 115) hx hb dX8_states_108 (by decide) (fun c_12 => ?_) (fun c_12 => ?_)
                    ·
                      exact absurd c_12 (by decide)
                    ·
                      refine lv_iconst (v := 1) hx hb dX8_states_111 (by decide) ?_
                      refine lv_goto (tgt := 116) hx hb dX8_states_112 (by decide) ?_
                      refine lv_iadd hx hb dX8_states_116 ?_
                      refine lv_istore (lv' := [(7, .int (aa + 1)), (10, .int 1), (9, .int (nI i)), (8, .int bb), (0, .ref (ad 0)), (1, .int (nI j)), (2, .int (nI q)), (3, .int 1), (4, .int w0), (6, .int (T q 3))]) hx hb dX8_states_117 hl (by decide) rfl (fun ls hl => ?_)
                      refine lv_iload hx hb dX8_states_119 (lv_at hl 1 rfl) ?_
                      refine lv_if_eq (tgt := 135) hx hb dX8_states_121 (by decide) (fun c_13 => ?_) (fun c_13 => ?_)
                      ·
                        exact absurd c_13 (by decide)
                      ·
                        refine lv_iload hx hb dX8_states_124 (lv_at hl 3 rfl) ?_
                        refine lv_iconst (v := (-1)) hx hb dX8_states_126 (by decide) ?_
                        refine lv_icmp_ne (tgt := 135) hx hb dX8_states_127 (by decide) (fun c_14 => ?_) (fun c_14 => ?_)
                        ·
                          refine lv_iload hx hb dX8_states_135 (lv_at hl 3 rfl) ?_
                          refine lv_istore (lv' := [(8, .int bb), (7, .int (aa + 1)), (10, .int 1), (9, .int (nI i)), (0, .ref (ad 0)), (1, .int (nI j)), (2, .int (nI q)), (3, .int 1), (4, .int w0), (6, .int (T q 3))]) hx hb dX8_states_137 hl (by decide) rfl (fun ls hl => ?_)
                          refine lv_iinc (v := nI (i + 1)) (lv' := [(9, .int (nI (i + 1))), (8, .int bb), (7, .int (aa + 1)), (10, .int 1), (0, .ref (ad 0)), (1, .int (nI j)), (2, .int (nI q)), (3, .int 1), (4, .int w0), (6, .int (T q 3))]) hx hb dX8_states_139 hl (k := 3) rfl (nI_1 i) (by decide) rfl (fun ls hl => ?_)
                          refine lv_goto (tgt := 69) hx hb dX8_states_142 (by decide) ?_
                          exact ih69 (i + 1) (nI i) ρ_8 _ _ (by omega) (by omega) (by show (if foS Lx (nuM σ j) kz (upT T q 3 (nI i)) = -1 then ((stK (fun v => foS Lx (nuM σ j) kz (upT T q 3 (nI v))) i).1 + 1, if (stK (fun v => foS Lx (nuM σ j) kz (upT T q 3 (nI v))) i).2 = -1 then nI i else (stK (fun v => foS Lx (nuM σ j) kz (upT T q 3 (nI v))) i).2) else stK (fun v => foS Lx (nuM σ j) kz (upT T q 3 (nI v))) i) = _; rw [if_pos c_9, hst]; exact congrArg (Prod.mk _) (if_neg c_14)) _ _ _ hW (lv_sub hl [0, 2, 1, 4, 5, 6, 7, 8, 9] rfl)
                        ·
                          refine lv_iload hx hb dX8_states_130 (lv_at hl 2 rfl) ?_
                          refine lv_goto (tgt := 137) hx hb dX8_states_132 (by decide) ?_
                          refine lv_istore (lv' := [(8, .int (nI i)), (7, .int (aa + 1)), (10, .int 1), (9, .int (nI i)), (0, .ref (ad 0)), (1, .int (nI j)), (2, .int (nI q)), (3, .int 1), (4, .int w0), (6, .int (T q 3))]) hx hb dX8_states_137 hl (by decide) rfl (fun ls hl => ?_)
                          refine lv_iinc (v := nI (i + 1)) (lv' := [(9, .int (nI (i + 1))), (8, .int (nI i)), (7, .int (aa + 1)), (10, .int 1), (0, .ref (ad 0)), (1, .int (nI j)), (2, .int (nI q)), (3, .int 1), (4, .int w0), (6, .int (T q 3))]) hx hb dX8_states_139 hl (k := 3) rfl (nI_1 i) (by decide) rfl (fun ls hl => ?_)
                          refine lv_goto (tgt := 69) hx hb dX8_states_142 (by decide) ?_
                          exact ih69 (i + 1) (nI i) ρ_8 _ _ (by omega) (by omega) (by show (if foS Lx (nuM σ j) kz (upT T q 3 (nI i)) = -1 then ((stK (fun v => foS Lx (nuM σ j) kz (upT T q 3 (nI v))) i).1 + 1, if (stK (fun v => foS Lx (nuM σ j) kz (upT T q 3 (nI v))) i).2 = -1 then nI i else (stK (fun v => foS Lx (nuM σ j) kz (upT T q 3 (nI v))) i).2) else stK (fun v => foS Lx (nuM σ j) kz (upT T q 3 (nI v))) i) = _; rw [if_pos c_9, hst]; exact congrArg (Prod.mk _) (if_pos c_14)) _ _ _ hW (lv_sub hl [0, 2, 1, 4, 5, 6, 7, 8, 9] rfl)
            exact L69 101 0 (T q 3) _ 0 (-1) (by omega) (by omega) (rfl) _ _ _ hW (lv_sub hl [0, 2, 1, 5, 6, 7, 8, 9, 3] rfl)
          ·
            refine lv_aload_n hx hb dX8_states_48 rfl (lv_at hl 1 rfl) ?_
            refine mr_f F hW 3 (by decide) rfl fl_RX8_16 dX8_states_49 ?_
            refine lv_iconst (v := 5) hx hb dX8_states_52 (by decide) ?_
            refine lv_iload_n hx hb dX8_states_53 rfl (lv_at hl 3 rfl) ?_
            refine lv_imul hx hb dX8_states_54 ?_
            refine lv_iload_n hx hb dX8_states_55 rfl (lv_at hl 4 rfl) ?_
            refine lv_iadd hx hb dX8_states_56 ?_
            refine mr_rows q 2 (by omega) (by decide) (mi_5k q 2) F hW dX8_states_57 ?_
            refine lv_istore (lv' := [(6, .int (T q 4)), (5, .int v_1), (0, .ref (ad 0)), (1, .int (nI j)), (2, .int (nI q)), (3, .int 2), (4, .int w0)]) hx hb dX8_states_58 hl (by decide) rfl (fun ls hl => ?_)
            refine lv_iconst (v := 0) hx hb dX8_states_60 (by decide) ?_
            refine lv_istore (lv' := [(7, .int 0), (6, .int (T q 4)), (5, .int v_1), (0, .ref (ad 0)), (1, .int (nI j)), (2, .int (nI q)), (3, .int 2), (4, .int w0)]) hx hb dX8_states_61 hl (by decide) rfl (fun ls hl => ?_)
            refine lv_iconst (v := (-1)) hx hb dX8_states_63 (by decide) ?_
            refine lv_istore (lv' := [(8, .int (-1)), (7, .int 0), (6, .int (T q 4)), (5, .int v_1), (0, .ref (ad 0)), (1, .int (nI j)), (2, .int (nI q)), (3, .int 2), (4, .int w0)]) hx hb dX8_states_64 hl (by decide) rfl (fun ls hl => ?_)
            refine lv_iconst (v := 0) hx hb dX8_states_66 (by decide) ?_
            refine lv_istore (lv' := [(9, .int 0), (8, .int (-1)), (7, .int 0), (6, .int (T q 4)), (5, .int v_1), (0, .ref (ad 0)), (1, .int (nI j)), (2, .int (nI q)), (3, .int 2), (4, .int w0)]) hx hb dX8_states_67 hl (by decide) rfl (fun ls hl => ?_)
            have hW : MW D cA ad ρ (upT T q 4 (T q 4)) σ A s s.heap H locs := by rw [upT_eta]; exact hW
            have L69 : ∀ (k : Nat) (i : Nat) (x : Int32) (ρ' : Nat → Nat → Int32) (aa bb : Int32), (i ≤ 100) → (101 ≤ i + k) → (stK (fun v => foS Lx (nuM σ j) kz (upT T q 4 (nI v))) i = (aa, bb)) → ∀ (H : Heap) (locs : List Loc) (ls : Array Slot), MW D cA ad ρ' (upT T q 4 x) σ A s s.heap H locs → lv_has ls 11 [(9, .int (nI i)), (7, .int aa), (8, .int bb), (0, .ref (ad 0)), (1, .int (nI j)), (2, .int (nI q)), (3, .int 2), (4, .int w0), (6, .int (T q 4))] → W p l e rm_yX8_states s m ar below meth c H locs 0 0 Q (F0 m 69 ls []) := by
              intro k
              induction k with
              | zero => intro i x ρ' aa bb h1 h2 hst; exact absurd h2 (by omega)
              | succ k ih69 =>
                intro i x ρ' aa bb h1 h2 hst H locs ls hW hl
                refine lv_iload hx hb dX8_states_69 (lv_at hl 0 rfl) ?_
                refine lv_bipush (v := 99) hx hb dX8_states_71 (by decide) ?_
                refine lv_icmp_gt (tgt := 145) hx hb dX8_states_73 (by decide) (fun c_15 => ?_) (fun c_15 => ?_)
                ·
                  obtain rfl : i = 100 := by have := mi_lt (a := 99) (b := i) c_15 (by decide) (by omega); omega
                  refine lv_aload_n hx hb dX8_states_145 rfl (lv_at hl 3 rfl) ?_
                  refine mr_f F hW 3 (by decide) rfl fl_RX8_16 dX8_states_146 ?_
                  refine lv_iconst (v := 5) hx hb dX8_states_149 (by decide) ?_
                  refine lv_iload_n hx hb dX8_states_150 rfl (lv_at hl 5 rfl) ?_
                  refine lv_imul hx hb dX8_states_151 ?_
                  refine lv_iload_n hx hb dX8_states_152 rfl (lv_at hl 6 rfl) ?_
                  refine lv_iadd hx hb dX8_states_153 ?_
                  refine lv_iload hx hb dX8_states_154 (lv_at hl 8 rfl) ?_
                  refine mw_rows q 2 (by omega) (by decide) (mi_5k q 2) F hW dX8_states_156 (fun H locs hW => ?_)
                  have hW : MW D cA ad ρ' T σ A s s.heap H locs := by rw [upT_upT, upT_eta] at hW; exact hW
                  refine lv_iload hx hb dX8_states_157 (lv_at hl 7 rfl) ?_
                  refine lv_if_ne (tgt := 167) hx hb dX8_states_159 (by decide) (fun c_16 => ?_) (fun c_16 => ?_)
                  ·
                    refine lv_iload hx hb dX8_states_167 (lv_at hl 2 rfl) ?_
                    exact hret bb ρ' _ _ _ _ _ hW rfl rfl (by unfold statesP pickS; rw [if_pos htal, if_neg hone, if_pos (by decide), if_neg (cho_1 c_5), if_neg (show ¬ (2 : Int32) = 1 by decide), hiq, hij, hik, if_neg c_16, hst]) dX8_states_169
                  ·
                    refine lv_iload hx hb dX8_states_162 (lv_at hl 1 rfl) ?_
                    refine lv_goto (tgt := 169) hx hb dX8_states_164 (by decide) ?_
                    exact hret aa ρ' _ _ _ _ _ hW rfl rfl (by unfold statesP pickS; rw [if_pos htal, if_neg hone, if_pos (by decide), if_neg (cho_1 c_5), if_neg (show ¬ (2 : Int32) = 1 by decide), hiq, hij, hik, if_pos c_16, hst]) dX8_states_169
                ·
                  have hlt : i < 100 := (by have := mi_nlt (a := 99) (b := i) c_15 (by decide) (by omega); omega)
                  refine lv_aload_n hx hb dX8_states_76 rfl (lv_at hl 3 rfl) ?_
                  refine mr_f F hW 3 (by decide) rfl fl_RX8_16 dX8_states_77 ?_
                  refine lv_iconst (v := 5) hx hb dX8_states_80 (by decide) ?_
                  refine lv_iload_n hx hb dX8_states_81 rfl (lv_at hl 5 rfl) ?_
                  refine lv_imul hx hb dX8_states_82 ?_
                  refine lv_iload_n hx hb dX8_states_83 rfl (lv_at hl 6 rfl) ?_
                  refine lv_iadd hx hb dX8_states_84 ?_
                  refine lv_iload hx hb dX8_states_85 (lv_at hl 0 rfl) ?_
                  refine mw_rows q 2 (by omega) (by decide) (mi_5k q 2) F hW dX8_states_87 (fun H locs hW => ?_)
                  have hW : MW D cA ad ρ' (upT T q 4 (nI i)) σ A s s.heap H locs := by rw [upT_upT] at hW; exact hW
                  refine lv_aload_n hx hb dX8_states_88 rfl (lv_at hl 3 rfl) ?_
                  refine lv_iload_n hx hb dX8_states_89 rfl (lv_at hl 4 rfl) ?_
                  refine gw_callVi (As := [.int (nI j)]) (rest := []) F hl.1 hW (fun _ _ _ => trivial) gw_T_E (by decide) (rfl : ment ad cA _ _ _ 0 = _) rfl (kX8_unlike (n := n) (j := j) (kz := kz) (Lx := Lx) (ok_upT hT hq6 (fun _ => okG_4 hGq ⟨i, by omega, rfl⟩)) hM hj hkz hsi) pd_yX8_unlike ml_RX8_219 im_yX8_unlike se_yX8_unlike ini_RX8 cd_yX8_unlike ⟨rfl, rfl⟩ ⟨Nat.le_of_ble_eq_true rfl, Nat.le_of_ble_eq_true rfl⟩ rfl rfl (Nat.le_of_ble_eq_true rfl) ⟨Nat.zero_le _, Nat.zero_le _⟩ dX8_states_90 (fun r ρ_17 H locs hp hW _ _ => ?_)
                  subst hp
                  refine lv_as (z := foS Lx (nuM σ j) kz (upT T q 4 (nI i))) rfl ?_
                  refine lv_iconst (v := (-1)) hx hb dX8_states_93 (by decide) ?_
                  refine lv_icmp_ne (tgt := 101) hx hb dX8_states_94 (by decide) (fun c_18 => ?_) (fun c_18 => ?_)
                  ·
                    refine lv_iconst (v := 0) hx hb dX8_states_101 (by decide) ?_
                    refine lv_istore (lv' := [(10, .int 0), (9, .int (nI i)), (7, .int aa), (8, .int bb), (0, .ref (ad 0)), (1, .int (nI j)), (2, .int (nI q)), (3, .int 2), (4, .int w0), (6, .int (T q 4))]) hx hb dX8_states_102 hl (by decide) rfl (fun ls hl => ?_)
                    refine lv_iload hx hb dX8_states_104 (lv_at hl 2 rfl) ?_
                    refine lv_iload hx hb dX8_states_106 (lv_at hl 0 rfl) ?_
                    refine lv_if_eq (tgt := 115) hx hb dX8_states_108 (by decide) (fun c_19 => ?_) (fun c_19 => ?_)
                    ·
                      refine lv_iconst (v := 0) hx hb dX8_states_115 (by decide) ?_
                      refine lv_iadd hx hb dX8_states_116 ?_
                      refine lv_istore (lv' := [(7, .int (aa + 0)), (10, .int 0), (9, .int (nI i)), (8, .int bb), (0, .ref (ad 0)), (1, .int (nI j)), (2, .int (nI q)), (3, .int 2), (4, .int w0), (6, .int (T q 4))]) hx hb dX8_states_117 hl (by decide) rfl (fun ls hl => ?_)
                      refine lv_iload hx hb dX8_states_119 (lv_at hl 1 rfl) ?_
                      refine lv_if_eq (tgt := 135) hx hb dX8_states_121 (by decide) (fun c_20 => ?_) (fun c_20 => ?_)
                      ·
                        refine lv_iload hx hb dX8_states_135 (lv_at hl 3 rfl) ?_
                        refine lv_istore (lv' := [(8, .int bb), (7, .int (aa + 0)), (10, .int 0), (9, .int (nI i)), (0, .ref (ad 0)), (1, .int (nI j)), (2, .int (nI q)), (3, .int 2), (4, .int w0), (6, .int (T q 4))]) hx hb dX8_states_137 hl (by decide) rfl (fun ls hl => ?_)
                        refine lv_iinc (v := nI (i + 1)) (lv' := [(9, .int (nI (i + 1))), (8, .int bb), (7, .int (aa + 0)), (10, .int 0), (0, .ref (ad 0)), (1, .int (nI j)), (2, .int (nI q)), (3, .int 2), (4, .int w0), (6, .int (T q 4))]) hx hb dX8_states_139 hl (k := 3) rfl (nI_1 i) (by decide) rfl (fun ls hl => ?_)
                        refine lv_goto (tgt := 69) hx hb dX8_states_142 (by decide) ?_
                        exact ih69 (i + 1) (nI i) ρ_17 _ _ (by omega) (by omega) (by show (if foS Lx (nuM σ j) kz (upT T q 4 (nI i)) = -1 then ((stK (fun v => foS Lx (nuM σ j) kz (upT T q 4 (nI v))) i).1 + 1, if (stK (fun v => foS Lx (nuM σ j) kz (upT T q 4 (nI v))) i).2 = -1 then nI i else (stK (fun v => foS Lx (nuM σ j) kz (upT T q 4 (nI v))) i).2) else stK (fun v => foS Lx (nuM σ j) kz (upT T q 4 (nI v))) i) = _; rw [if_neg c_18, hst, i32_add0]) _ _ _ hW (lv_sub hl [0, 2, 1, 4, 5, 6, 7, 8, 9] rfl)
                      ·
                        exact absurd c_20 (by decide)
                    ·
                      exact absurd c_19 (by decide)
                  ·
                    refine lv_iconst (v := 1) hx hb dX8_states_97 (by decide) ?_
                    refine lv_goto (tgt := 102) hx hb dX8_states_98 (by decide) ?_
                    refine lv_istore (lv' := [(10, .int 1), (9, .int (nI i)), (7, .int aa), (8, .int bb), (0, .ref (ad 0)), (1, .int (nI j)), (2, .int (nI q)), (3, .int 2), (4, .int w0), (6, .int (T q 4))]) hx hb dX8_states_102 hl (by decide) rfl (fun ls hl => ?_)
                    refine lv_iload hx hb dX8_states_104 (lv_at hl 2 rfl) ?_
                    refine lv_iload hx hb dX8_states_106 (lv_at hl 0 rfl) ?_
                    refine lv_if_eq (tgt := 115) hx hb dX8_states_108 (by decide) (fun c_21 => ?_) (fun c_21 => ?_)
                    ·
                      exact absurd c_21 (by decide)
                    ·
                      refine lv_iconst (v := 1) hx hb dX8_states_111 (by decide) ?_
                      refine lv_goto (tgt := 116) hx hb dX8_states_112 (by decide) ?_
                      refine lv_iadd hx hb dX8_states_116 ?_
                      refine lv_istore (lv' := [(7, .int (aa + 1)), (10, .int 1), (9, .int (nI i)), (8, .int bb), (0, .ref (ad 0)), (1, .int (nI j)), (2, .int (nI q)), (3, .int 2), (4, .int w0), (6, .int (T q 4))]) hx hb dX8_states_117 hl (by decide) rfl (fun ls hl => ?_)
                      refine lv_iload hx hb dX8_states_119 (lv_at hl 1 rfl) ?_
                      refine lv_if_eq (tgt := 135) hx hb dX8_states_121 (by decide) (fun c_22 => ?_) (fun c_22 => ?_)
                      ·
                        exact absurd c_22 (by decide)
                      ·
                        refine lv_iload hx hb dX8_states_124 (lv_at hl 3 rfl) ?_
                        refine lv_iconst (v := (-1)) hx hb dX8_states_126 (by decide) ?_
                        refine lv_icmp_ne (tgt := 135) hx hb dX8_states_127 (by decide) (fun c_23 => ?_) (fun c_23 => ?_)
                        ·
                          refine lv_iload hx hb dX8_states_135 (lv_at hl 3 rfl) ?_
                          refine lv_istore (lv' := [(8, .int bb), (7, .int (aa + 1)), (10, .int 1), (9, .int (nI i)), (0, .ref (ad 0)), (1, .int (nI j)), (2, .int (nI q)), (3, .int 2), (4, .int w0), (6, .int (T q 4))]) hx hb dX8_states_137 hl (by decide) rfl (fun ls hl => ?_)
                          refine lv_iinc (v := nI (i + 1)) (lv' := [(9, .int (nI (i + 1))), (8, .int bb), (7, .int (aa + 1)), (10, .int 1), (0, .ref (ad 0)), (1, .int (nI j)), (2, .int (nI q)), (3, .int 2), (4, .int w0), (6, .int (T q 4))]) hx hb dX8_states_139 hl (k := 3) rfl (nI_1 i) (by decide) rfl (fun ls hl => ?_)
                          refine lv_goto (tgt := 69) hx hb dX8_states_142 (by decide) ?_
                          exact ih69 (i + 1) (nI i) ρ_17 _ _ (by omega) (by omega) (by show (if foS Lx (nuM σ j) kz (upT T q 4 (nI i)) = -1 then ((stK (fun v => foS Lx (nuM σ j) kz (upT T q 4 (nI v))) i).1 + 1, if (stK (fun v => foS Lx (nuM σ j) kz (upT T q 4 (nI v))) i).2 = -1 then nI i else (stK (fun v => foS Lx (nuM σ j) kz (upT T q 4 (nI v))) i).2) else stK (fun v => foS Lx (nuM σ j) kz (upT T q 4 (nI v))) i) = _; rw [if_pos c_18, hst]; exact congrArg (Prod.mk _) (if_neg c_23)) _ _ _ hW (lv_sub hl [0, 2, 1, 4, 5, 6, 7, 8, 9] rfl)
                        ·
                          refine lv_iload hx hb dX8_states_130 (lv_at hl 2 rfl) ?_
                          refine lv_goto (tgt := 137) hx hb dX8_states_132 (by decide) ?_
                          refine lv_istore (lv' := [(8, .int (nI i)), (7, .int (aa + 1)), (10, .int 1), (9, .int (nI i)), (0, .ref (ad 0)), (1, .int (nI j)), (2, .int (nI q)), (3, .int 2), (4, .int w0), (6, .int (T q 4))]) hx hb dX8_states_137 hl (by decide) rfl (fun ls hl => ?_)
                          refine lv_iinc (v := nI (i + 1)) (lv' := [(9, .int (nI (i + 1))), (8, .int (nI i)), (7, .int (aa + 1)), (10, .int 1), (0, .ref (ad 0)), (1, .int (nI j)), (2, .int (nI q)), (3, .int 2), (4, .int w0), (6, .int (T q 4))]) hx hb dX8_states_139 hl (k := 3) rfl (nI_1 i) (by decide) rfl (fun ls hl => ?_)
                          refine lv_goto (tgt := 69) hx hb dX8_states_142 (by decide) ?_
                          exact ih69 (i + 1) (nI i) ρ_17 _ _ (by omega) (by omega) (by show (if foS Lx (nuM σ j) kz (upT T q 4 (nI i)) = -1 then ((stK (fun v => foS Lx (nuM σ j) kz (upT T q 4 (nI v))) i).1 + 1, if (stK (fun v => foS Lx (nuM σ j) kz (upT T q 4 (nI v))) i).2 = -1 then nI i else (stK (fun v => foS Lx (nuM σ j) kz (upT T q 4 (nI v))) i).2) else stK (fun v => foS Lx (nuM σ j) kz (upT T q 4 (nI v))) i) = _; rw [if_pos c_18, hst]; exact congrArg (Prod.mk _) (if_pos c_23)) _ _ _ hW (lv_sub hl [0, 2, 1, 4, 5, 6, 7, 8, 9] rfl)
            exact L69 101 0 (T q 4) _ 0 (-1) (by omega) (by omega) (rfl) _ _ _ hW (lv_sub hl [0, 2, 1, 5, 6, 7, 8, 9, 3] rfl)
        ·
          refine lv_bipush (v := (-7)) hx hb dX8_states_45 (by decide) ?_
          exact hret (-7) ρ _ _ _ _ _ hW rfl rfl (by obtain ⟨x1, x2⟩ := in_y c_4; unfold statesP; rw [if_pos htal, if_neg hone, if_pos (one_or2 x1 x2), if_pos (cho_0 c_5)]) dX8_states_47
    ·
      refine lv_bipush (v := (-5)) hx hb dX8_states_23 (by decide) ?_
      exact hret (-5) ρ _ _ _ _ _ hW rfl rfl (by unfold statesP; rw [if_pos htal, if_pos c_3]) dX8_states_25
  ·
    refine lv_iload hx hb dX8_states_12 (lv_at hl 0 rfl) ?_
    exact hret v_1 ρ _ _ _ _ _ hW rfl rfl (by subst ev_1; unfold statesP; rw [if_neg c_2]) dX8_states_14
theorem frac_0 {b : Nat} {w : Int32} (hb : 0 < b) (hw : w = 0 ∨ w = 1) : w.toInt64 = fracP 0 b w := by
  unfold fracP
  rcases hw with rfl | rfl
  · rw [if_pos rfl, Nat.zero_div]; rfl
  · rw [if_neg (by decide), Nat.gcd_zero_left, Nat.div_self hb]; rfl
abbrev rm_yX8_lowest : Room := { frames := 0, cells := 0, slots := 0, locals := 0 }
set_option maxHeartbeats 800000 in
set_option maxRecDepth 100000 in
theorem kX8_lowest {l : Launch} {D : va_G} {cA : ClassId} {ad : Nat → Nat} {ρ T σ : Nat → Nat → Int32} {sz : Nat} {a b : Nat} {w0 : Int32} (ha0 : a < 2 ^ 30) (hb0 : 0 < b) (hb1 : b < 2 ^ 30) (hw : w0 = 0 ∨ w0 = 1) : MMl l yX8_lowest cX8_lowest 11 rm_yX8_lowest [.long (lN a), .long (lN b), .int w0] D cA ad ρ T σ sz (fun (r : Int64) (u : Unit) => r = fracP a b w0) (fun u : Unit => ment ad cA ρ T σ) := by
  refine gw_stL (Ff := fun u : Unit => ment ad cA ρ T σ) (own := RX8) (by decide +kernel) rfl (Nat.le_of_ble_eq_true rfl) ?_
  intro p e s m ar below meth c A Q F hE hsz hW hret ls hl
  obtain ⟨hx, hb, hml, hown, hts⟩ := id F
  have hl : lv_has ls 11 [(0, .long (lN a)), (2, .long (lN b)), (4, .int w0)] := hl
  refine lv_lload_n hx hb dX8_lowest_0 rfl (lv_at hl 0 rfl) ?_
  refine lv_lconst (v := 0) hx hb dX8_lowest_1 (by decide) ?_
  refine W.lcmp hx hb dX8_lowest_2 ?_
  refine lv_if_ne (tgt := 10) hx hb dX8_lowest_3 (by decide) (fun c_1 => ?_) (fun c_1 => ?_)
  ·
    have ha : a ≠ 0 := fun z => c_1 ((lg_cmp_eq _ _).mpr (by rw [z]; rfl))
    refine lv_lload_n hx hb dX8_lowest_10 rfl (lv_at hl 0 rfl) ?_
    refine lv_lstore (lv' := [(5, .long (lN a)), (0, .long (lN a)), (2, .long (lN b)), (4, .int w0)]) hx hb dX8_lowest_11 hl (by decide) rfl (fun ls hl => ?_)
    refine lv_lload_n hx hb dX8_lowest_13 rfl (lv_at hl 2 rfl) ?_
    refine lv_lstore (lv' := [(7, .long (lN b)), (5, .long (lN a)), (0, .long (lN a)), (2, .long (lN b)), (4, .int w0)]) hx hb dX8_lowest_14 hl (by decide) rfl (fun ls hl => ?_)
    have L16 : ∀ (k : Nat) (x y : Nat), (y ≤ b) → (y + 1 ≤ k) → (0 < x) → (x < 2 ^ 30) → (Nat.gcd x y = Nat.gcd a b) → ∀ (H : Heap) (locs : List Loc) (ls : Array Slot), MW D cA ad ρ T σ A s s.heap H locs → lv_has ls 11 [(5, .long (lN x)), (7, .long (lN y)), (0, .long (lN a)), (2, .long (lN b)), (4, .int w0)] → W p l e rm_yX8_lowest s m ar below meth c H locs 0 0 Q (F0 m 16 ls []) := by
      intro k
      induction k with
      | zero => intro x y h1 h2 hxp hxq hg; exact absurd h2 (by omega)
      | succ k ih16 =>
        intro x y h1 h2 hxp hxq hg H locs ls hW hl
        refine lv_lload hx hb dX8_lowest_16 (lv_at hl 1 rfl) ?_
        refine lv_lconst (v := 0) hx hb dX8_lowest_18 (by decide) ?_
        refine W.lcmp hx hb dX8_lowest_19 ?_
        refine lv_if_eq (tgt := 41) hx hb dX8_lowest_20 (by decide) (fun c_2 => ?_) (fun c_2 => ?_)
        ·
          have hy : y = 0 := (lN_eq (by omega) (by decide)).mp ((lg_cmp_eq _ _).mp c_2); have hgx : x = Nat.gcd a b := (by rw [← hg, hy, Nat.gcd_zero_right])
          refine lv_iload hx hb dX8_lowest_41 (lv_at hl 4 rfl) ?_
          refine lv_if_ne (tgt := 50) hx hb dX8_lowest_43 (by decide) (fun c_3 => ?_) (fun c_3 => ?_)
          ·
            refine lv_lload_n hx hb dX8_lowest_50 rfl (lv_at hl 3 rfl) ?_
            refine lv_lload hx hb dX8_lowest_51 (lv_at hl 0 rfl) ?_
            refine lv_ldiv hx hb dX8_lowest_53 (fun z => (Nat.ne_of_gt hxp) ((lN_eq (by omega) (by decide)).mp z)) ?_
            exact hret ((lN b) / (lN x)) () _ _ _ _ _ hW rfl (by unfold fracP; rw [if_neg c_3, ← hgx]; exact pk_lDiv (by omega) hxp (by omega)) dX8_lowest_54
          ·
            refine lv_lload_n hx hb dX8_lowest_46 rfl (lv_at hl 2 rfl) ?_
            refine lv_goto (tgt := 51) hx hb dX8_lowest_47 (by decide) ?_
            refine lv_lload hx hb dX8_lowest_51 (lv_at hl 0 rfl) ?_
            refine lv_ldiv hx hb dX8_lowest_53 (fun z => (Nat.ne_of_gt hxp) ((lN_eq (by omega) (by decide)).mp z)) ?_
            exact hret ((lN a) / (lN x)) () _ _ _ _ _ hW rfl (by unfold fracP; rw [if_pos c_3, ← hgx]; exact pk_lDiv (by omega) hxp (by omega)) dX8_lowest_54
        ·
          have hy : y ≠ 0 := fun z => c_2 ((lg_cmp_eq _ _).mpr (by rw [z]; rfl))
          refine lv_lload hx hb dX8_lowest_23 (lv_at hl 0 rfl) ?_
          refine lv_lload hx hb dX8_lowest_25 (lv_at hl 1 rfl) ?_
          refine lv_lrem hx hb dX8_lowest_27 (fun z => hy ((lN_eq (by omega) (by decide)).mp z)) ?_
          refine lv_asl (z := lN (x % y)) (pk_lRem (by omega) (Nat.pos_of_ne_zero hy) (by omega)) ?_
          refine lv_lstore (lv' := [(9, .long (lN (x % y))), (5, .long (lN x)), (7, .long (lN y)), (0, .long (lN a)), (2, .long (lN b)), (4, .int w0)]) hx hb dX8_lowest_28 hl (by decide) rfl (fun ls hl => ?_)
          refine lv_lload hx hb dX8_lowest_30 (lv_at hl 2 rfl) ?_
          refine lv_lstore (lv' := [(5, .long (lN y)), (9, .long (lN (x % y))), (7, .long (lN y)), (0, .long (lN a)), (2, .long (lN b)), (4, .int w0)]) hx hb dX8_lowest_32 hl (by decide) rfl (fun ls hl => ?_)
          refine lv_lload hx hb dX8_lowest_34 (lv_at hl 1 rfl) ?_
          refine lv_lstore (lv' := [(7, .long (lN (x % y))), (5, .long (lN y)), (9, .long (lN (x % y))), (0, .long (lN a)), (2, .long (lN b)), (4, .int w0)]) hx hb dX8_lowest_36 hl (by decide) rfl (fun ls hl => ?_)
          refine lv_goto (tgt := 16) hx hb dX8_lowest_38 (by decide) ?_
          exact ih16 y (x % y) (by have := Nat.mod_lt x (Nat.pos_of_ne_zero hy); omega) (by have := Nat.mod_lt x (Nat.pos_of_ne_zero hy); omega) (Nat.pos_of_ne_zero hy) (by omega) (by rw [← hg, Nat.gcd_comm x y, Nat.gcd_comm y (x % y), ← Nat.gcd_rec]) _ _ _ hW (lv_sub hl [1, 0, 3, 4, 5] rfl)
    exact L16 (b + 1) a b (Nat.le_refl _) (by omega) (Nat.pos_of_ne_zero ha) (ha0) (rfl) _ _ _ hW (lv_sub hl [1, 0, 2, 3, 4] rfl)
  ·
    have ha : a = 0 := (lN_eq (by omega) (by decide)).mp ((lg_cmp_eq _ _).mp c_1)
    refine lv_iload hx hb dX8_lowest_6 (lv_at hl 2 rfl) ?_
    refine lv_i2l hx hb dX8_lowest_8 rfl ?_
    exact hret w0.toInt64 () _ _ _ _ _ hW rfl (by rw [ha]; exact frac_0 hb0 hw) dX8_lowest_9
