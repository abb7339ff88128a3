/-! ===== the reference: told minutes ===== -/
def soM (σ : Nat → Nat → Int32) : Sf := σ 9
def siM (σ : Nat → Nat → Int32) : Sf := σ 10
def nuM (σ : Nat → Nat → Int32) (j : Nat) : Sf := fun k => σ 11 (40 * j + k)
def okSM (σ : Nat → Nat → Int32) : Prop := ∀ j, j < 4 → ∃ k, k ≤ 40 ∧ σ 10 j = nI k
theorem sh_in (z : Int32) : shP z = inP z 0 3 := by
  unfold shP inP
  by_cases h0 : z < 0
  · rw [if_pos h0, if_pos h0]
  · rw [if_neg h0, if_neg h0]
    by_cases h1 : 4 ≤ z
    · rw [if_pos h1, if_pos (by rw [← l4]; exact h1)]
    · rw [if_neg h1, if_neg (by rw [← l4]; exact h1)]
theorem sh_natM {z : Int32} (h : ¬ inP z 0 3 = 0) : ∃ w, w < 4 ∧ z = nI w := by
  obtain ⟨j, hj, e⟩ := in_nat (k := 3) (by decide) h
  exact ⟨j, by omega, e⟩
theorem tal_okM {σ : Nat → Nat → Int32} {z : Int32} (hS : okSM σ) (h : talP (soM σ) (siM σ) z = 0) : ∃ q k, q < 4 ∧ k ≤ 40 ∧ z = nI q ∧ σ 10 q = nI k := by
  unfold talP at h
  by_cases h0 : shP z = 0
  · rw [if_pos h0] at h; exact absurd h (by decide)
  · obtain ⟨q, hq, e⟩ := sh_nat h0
    obtain ⟨k, hk, e2⟩ := hS q hq
    exact ⟨q, k, hq, hk, e, e2⟩
theorem out_lay2 {T U : Tb} (h : OutT T U) : seatsN U = seatsN T := by unfold seatsN; rw [h.get (by omega) (by omega)]
abbrev rm_yX8_sheetWrong : Room := { frames := 1, cells := 0, slots := 0, locals := 22 }
set_option maxHeartbeats 800000 in
set_option maxRecDepth 100000 in
theorem kX8_sheetWrong {l : Launch} {D : va_G} {cA : ClassId} {ad : Nat → Nat} {ρ T σ : Nat → Nat → Int32} {sz : Nat} {z : Int32}  : MMi l yX8_sheetWrong cX8_sheetWrong 2 FieldType.int rm_yX8_sheetWrong [.ref (ad 0), .int z] D cA ad ρ T σ sz (fun (r : Int32) (u : Unit) => r = talP (soM σ) (siM σ) z) (fun u : Unit => ment ad cA ρ T σ) := by
  refine gw_stI (Ff := fun u : Unit => ment ad cA ρ T σ) (own := RX8) (by decide +kernel) rfl (Nat.le_of_ble_eq_true rfl) ?_
  intro p e s m ar below meth c A Q F hE hsz hW hret ls hl
  obtain ⟨hx, hb, hml, hown, hts⟩ := id F
  have hl : lv_has ls 2 [(0, .ref (ad 0)), (1, .int z)] := hl
  refine lv_iload_n hx hb dX8_sheetWrong_0 rfl (lv_at hl 1 rfl) ?_
  refine lv_iconst (v := 0) hx hb dX8_sheetWrong_1 (by decide) ?_
  refine lv_iconst (v := 3) hx hb dX8_sheetWrong_2 (by decide) ?_
  refine gw_callP (As := [.int z, .int 0, .int 3]) (rest := []) F hl.1 (kX8_in) pd_yX8_in ml_RX8_72 st_yX8_in ini_RX8 cd_yX8_in ⟨rfl, rfl⟩ ⟨Nat.le_of_ble_eq_true rfl, Nat.le_of_ble_eq_true rfl⟩ rfl rfl (Nat.le_of_ble_eq_true rfl) ⟨Nat.zero_le _, Nat.zero_le _⟩ dX8_sheetWrong_3 ?_
  refine lv_as (z := inP z 0 3) rfl ?_
  refine lv_if_ne (tgt := 12) hx hb dX8_sheetWrong_6 (by decide) (fun c_1 => ?_) (fun c_1 => ?_)
  ·
    have hsh : ¬ shP z = 0 := (by rw [sh_in]; exact c_1); obtain ⟨j, hj, rfl⟩ := sh_natM c_1; have hij : iN (nI j) = j := iN_nI (by omega)
    refine lv_aload_n hx hb dX8_sheetWrong_12 rfl (lv_at hl 0 rfl) ?_
    refine mr_f F hW 14 (by decide) rfl fl_RX8_34 dX8_sheetWrong_13 ?_
    refine lv_iload_n hx hb dX8_sheetWrong_16 rfl (lv_at hl 1 rfl) ?_
    refine mr_sheetSort F hW (vp_in_nI hj (by decide)) dX8_sheetWrong_17 ?_
    refine lv_as (z := σ 9 j) (by rw [nI_clamp (by omega)]) ?_
    refine lv_iconst (v := (-1)) hx hb dX8_sheetWrong_18 (by decide) ?_
    refine lv_icmp_ne (tgt := 25) hx hb dX8_sheetWrong_19 (by decide) (fun c_2 => ?_) (fun c_2 => ?_)
    ·
      refine lv_aload_n hx hb dX8_sheetWrong_25 rfl (lv_at hl 0 rfl) ?_
      refine mr_f F hW 15 (by decide) rfl fl_RX8_37 dX8_sheetWrong_26 ?_
      refine lv_iload_n hx hb dX8_sheetWrong_29 rfl (lv_at hl 1 rfl) ?_
      refine mr_sheetSize F hW (vp_in_nI hj (by decide)) dX8_sheetWrong_30 ?_
      refine lv_as (z := σ 10 j) (by rw [nI_clamp (by omega)]) ?_
      refine lv_bipush (v := 20) hx hb dX8_sheetWrong_31 (by decide) ?_
      refine lv_icmp_le (tgt := 41) hx hb dX8_sheetWrong_33 (by decide) (fun c_3 => ?_) (fun c_3 => ?_)
      ·
        refine lv_iconst (v := 0) hx hb dX8_sheetWrong_41 (by decide) ?_
        exact hret 0 () _ _ _ _ _ hW rfl rfl (by unfold talP soM siM; rw [if_neg hsh, hij, if_neg c_2, if_neg (Int32.not_lt.mpr c_3)]) dX8_sheetWrong_42
      ·
        refine lv_bipush (v := (-2)) hx hb dX8_sheetWrong_36 (by decide) ?_
        refine lv_goto (tgt := 42) hx hb dX8_sheetWrong_38 (by decide) ?_
        exact hret (-2) () _ _ _ _ _ hW rfl rfl (by unfold talP soM siM; rw [if_neg hsh, hij, if_neg c_2, if_pos (Int32.not_le.mp c_3)]) dX8_sheetWrong_42
    ·
      refine lv_bipush (v := (-11)) hx hb dX8_sheetWrong_22 (by decide) ?_
      exact hret (-11) () _ _ _ _ _ hW rfl rfl (by unfold talP soM; rw [if_neg hsh, hij, if_pos c_2]) dX8_sheetWrong_24
  ·
    refine lv_bipush (v := (-2)) hx hb dX8_sheetWrong_9 (by decide) ?_
    exact hret (-2) () _ _ _ _ _ hW rfl rfl (by unfold talP; rw [if_pos (by rw [sh_in]; exact c_1)]) dX8_sheetWrong_11
abbrev rm_yX8_unlike : Room := { frames := 7, cells := 0, slots := 0, locals := 163 }
set_option maxHeartbeats 800000 in
set_option maxRecDepth 100000 in
theorem kX8_unlike {l : Launch} {D : va_G} {cA : ClassId} {ad : Nat → Nat} {ρ T σ : Nat → Nat → Int32} {sz : Nat} {n j kz : Nat} {Lx : Lw} (hT : okT n T) (hM : okML n σ Lx) (hj : j < 4) (hkz : kz ≤ 40) (hsi : σ 10 j = nI kz) : MMi l yX8_unlike cX8_unlike 4 FieldType.int rm_yX8_unlike [.ref (ad 0), .int (nI j)] D cA ad ρ T σ sz (fun (r : Int32) (u : Nat → Nat → Int32) => r = foS Lx (nuM σ j) kz T) (fun u : Nat → Nat → Int32 => ment ad cA u T σ) := by
  refine gw_stI (Ff := fun u : Nat → Nat → Int32 => ment ad cA u T σ) (own := RX8) (by decide +kernel) rfl (Nat.le_of_ble_eq_true rfl) ?_
  intro p e s m ar below meth c A Q F hE hsz hW hret ls hl
  obtain ⟨hx, hb, hml, hown, hts⟩ := id F
  have hl : lv_has ls 4 [(0, .ref (ad 0)), (1, .int (nI j))] := hl
  refine lv_iconst (v := (-1)) hx hb dX8_unlike_0 (by decide) ?_
  refine lv_istore_n (lv' := [(2, .int (-1)), (0, .ref (ad 0)), (1, .int (nI j))]) hx hb dX8_unlike_1 rfl hl (by decide) rfl (fun ls hl => ?_)
  refine lv_aload_n hx hb dX8_unlike_2 rfl (lv_at hl 1 rfl) ?_
  refine gw_callVv (As := []) (rest := []) F hl.1 hW (fun _ _ _ => trivial) gw_T_E (by decide) (rfl : ment ad cA _ _ _ 0 = _) rfl (kX8_keeps) pd_yX8_keeps ml_RX8_195 im_yX8_keeps se_yX8_keeps ini_RX8 cd_yX8_keeps ⟨rfl, rfl⟩ ⟨Nat.le_of_ble_eq_true rfl, Nat.le_of_ble_eq_true rfl⟩ rfl rfl (Nat.le_of_ble_eq_true rfl) ⟨Nat.zero_le _, Nat.zero_le _⟩ dX8_unlike_3 (fun ρ_1 H locs hp hW _ _ => ?_)
  obtain ⟨h0_2, hK_3⟩ := hp
  refine lv_iconst (v := 0) hx hb dX8_unlike_6 (by decide) ?_
  refine lv_istore_n (lv' := [(3, .int 0), (2, .int (-1)), (0, .ref (ad 0)), (1, .int (nI j))]) hx hb dX8_unlike_7 rfl hl (by decide) rfl (fun ls hl => ?_)
  generalize hR0 : foF Lx (nuM σ j) kz 0 T = RES
  have L8 : ∀ (k : Nat) (i f : Nat) (ρ' : Nat → Nat → Int32) (T' : Tb) (bb : Int32), (i + f = kz) → (kz + 1 ≤ i + k) → (KeptOf (ρ' 17) T) → (okT n T') → (OutT T T') → ((bb = -1 ∧ foF Lx (nuM σ j) f i T' = RES) ∨ (¬ bb = -1 ∧ bb = RES)) → ∀ (H : Heap) (locs : List Loc) (ls : Array Slot), MW D cA ad ρ' T' σ A s s.heap H locs → lv_has ls 4 [(3, .int (nI i)), (2, .int bb), (0, .ref (ad 0)), (1, .int (nI j))] → W p l e rm_yX8_unlike s m ar below meth c H locs 0 0 Q (F0 m 8 ls []) := by
    intro k
    induction k with
    | zero => intro i f ρ' T' bb h1 h2 hKk hT' hOT hbb; exact absurd h2 (by omega)
    | succ k ih8 =>
      intro i f ρ' T' bb h1 h2 hKk hT' hOT hbb H locs ls hW hl
      refine lv_iload_n hx hb dX8_unlike_8 rfl (lv_at hl 0 rfl) ?_
      refine lv_aload_n hx hb dX8_unlike_9 rfl (lv_at hl 2 rfl) ?_
      refine mr_f F hW 15 (by decide) rfl fl_RX8_37 dX8_unlike_10 ?_
      refine lv_iload_n hx hb dX8_unlike_13 rfl (lv_at hl 3 rfl) ?_
      refine mr_sheetSize F hW (vp_in_nI hj (by decide)) dX8_unlike_14 ?_
      refine lv_as (z := nI kz) (by rw [nI_clamp (by omega)]; exact hsi) ?_
      refine lv_icmp_ge (tgt := 53) hx hb dX8_unlike_15 (by decide) (fun c_4 => ?_) (fun c_4 => ?_)
      ·
        have hbR : bb = RES := (by have := mi_le (a := kz) (b := i) c_4 (by omega) (by omega); obtain rfl : f = 0 := (by omega); exact hbb.elim (fun z => z.1.trans z.2) (fun z => z.2))
        refine lv_aload_n hx hb dX8_unlike_53 rfl (lv_at hl 2 rfl) ?_
        refine gw_callVv (As := []) (rest := []) F hl.1 hW (fun _ _ _ => trivial) gw_T_E (by decide) (rfl : ment ad cA _ _ _ 0 = _) rfl (kX8_lays) pd_yX8_lays ml_RX8_201 im_yX8_lays se_yX8_lays ini_RX8 cd_yX8_lays ⟨rfl, rfl⟩ ⟨Nat.le_of_ble_eq_true rfl, Nat.le_of_ble_eq_true rfl⟩ rfl rfl (Nat.le_of_ble_eq_true rfl) ⟨Nat.zero_le _, Nat.zero_le _⟩ dX8_unlike_54 (fun T_5 H locs hp hW _ _ => ?_)
        have hp : T = T_5 := (hp.trans (lay_back (kept_kp hKk Kp.rf) hOT)).symm
        subst hp
        refine lv_iload_n hx hb dX8_unlike_57 rfl (lv_at hl 1 rfl) ?_
        exact hret bb ρ' _ _ _ _ _ hW rfl rfl (by rw [hbR]; exact hR0.symm) dX8_unlike_58
      ·
        have hlt : i < kz := mi_nle (a := kz) (b := i) c_4 (by omega) (by omega); obtain ⟨f', rfl⟩ : ∃ z, f = z + 1 := ⟨f - 1, by omega⟩
        refine lv_iload_n hx hb dX8_unlike_18 rfl (lv_at hl 1 rfl) ?_
        refine lv_iconst (v := (-1)) hx hb dX8_unlike_19 (by decide) ?_
        refine lv_icmp_ne (tgt := 53) hx hb dX8_unlike_20 (by decide) (fun c_6 => ?_) (fun c_6 => ?_)
        ·
          have hbR : bb = RES := hbb.elim (fun z => absurd z.1 c_6) (fun z => z.2)
          refine lv_aload_n hx hb dX8_unlike_53 rfl (lv_at hl 2 rfl) ?_
          refine gw_callVv (As := []) (rest := []) F hl.1 hW (fun _ _ _ => trivial) gw_T_E (by decide) (rfl : ment ad cA _ _ _ 0 = _) rfl (kX8_lays) pd_yX8_lays ml_RX8_201 im_yX8_lays se_yX8_lays ini_RX8 cd_yX8_lays ⟨rfl, rfl⟩ ⟨Nat.le_of_ble_eq_true rfl, Nat.le_of_ble_eq_true rfl⟩ rfl rfl (Nat.le_of_ble_eq_true rfl) ⟨Nat.zero_le _, Nat.zero_le _⟩ dX8_unlike_54 (fun T_7 H locs hp hW _ _ => ?_)
          have hp : T = T_7 := (hp.trans (lay_back (kept_kp hKk Kp.rf) hOT)).symm
          subst hp
          refine lv_iload_n hx hb dX8_unlike_57 rfl (lv_at hl 1 rfl) ?_
          exact hret bb ρ' _ _ _ _ _ hW rfl rfl (by rw [hbR]; exact hR0.symm) dX8_unlike_58
        ·
          have hB : foF Lx (nuM σ j) (f' + 1) i T' = RES := hbb.elim (fun z => z.2) (fun z => absurd c_6 z.1)
          refine lv_aload_n hx hb dX8_unlike_23 rfl (lv_at hl 2 rfl) ?_
          refine mr_f F hW 16 (by decide) rfl fl_RX8_40 dX8_unlike_24 ?_
          refine lv_bipush (v := 40) hx hb dX8_unlike_27 (by decide) ?_
          refine lv_iload_n hx hb dX8_unlike_29 rfl (lv_at hl 3 rfl) ?_
          refine lv_imul hx hb dX8_unlike_30 ?_
          refine lv_as (z := nI (40 * j)) (by rw [show (40 : Int32) = nI 40 from rfl]; exact mul_nI 40 j) ?_
          refine lv_iload_n hx hb dX8_unlike_31 rfl (lv_at hl 0 rfl) ?_
          refine lv_iadd hx hb dX8_unlike_32 ?_
          refine lv_as (z := nI (40 * j + i)) (nI_add _ _) ?_
          refine mr_cells F hW (vp_in_nI (by omega) (by decide)) dX8_unlike_33 ?_
          refine lv_as (z := nuM σ j i) (by rw [nI_clamp (by omega)]; rfl) ?_
          refine lv_aload_n hx hb dX8_unlike_34 rfl (lv_at hl 2 rfl) ?_
          refine gw_callVi (As := []) (rest := [.int (nuM σ j i)]) F hl.1 hW (fun _ _ _ => trivial) gw_T_E (by decide) (rfl : ment ad cA _ _ _ 0 = _) rfl (kX8_minuteOf (n := n) (Lx := Lx) hT' hM) pd_yX8_minuteOf ml_RX8_188 im_yX8_minuteOf se_yX8_minuteOf ini_RX8 cd_yX8_minuteOf ⟨rfl, rfl⟩ ⟨Nat.le_of_ble_eq_true rfl, Nat.le_of_ble_eq_true rfl⟩ rfl rfl (Nat.le_of_ble_eq_true rfl) ⟨Nat.zero_le _, Nat.zero_le _⟩ dX8_unlike_35 (fun r u H locs hp hW _ _ => ?_)
          obtain ⟨ρ_8, T_9⟩ := u
          obtain ⟨rfl, hk_10, hTe⟩ := hp
          have hTe : T_9 = (passS Lx T').1 := hTe
          subst hTe
          refine lv_as (z := (passS Lx T').2) rfl ?_
          refine lv_icmp_ne (tgt := 45) hx hb dX8_unlike_38 (by decide) (fun c_11 => ?_) (fun c_11 => ?_)
          ·
            refine lv_iload_n hx hb dX8_unlike_45 rfl (lv_at hl 0 rfl) ?_
            refine lv_istore_n (lv' := [(2, .int (nI i)), (3, .int (nI i)), (0, .ref (ad 0)), (1, .int (nI j))]) hx hb dX8_unlike_46 rfl hl (by decide) rfl (fun ls hl => ?_)
            refine lv_iinc (v := nI (i + 1)) (lv' := [(3, .int (nI (i + 1))), (2, .int (nI i)), (0, .ref (ad 0)), (1, .int (nI j))]) hx hb dX8_unlike_47 hl (k := 1) rfl (nI_1 i) (by decide) rfl (fun ls hl => ?_)
            refine lv_goto (tgt := 8) hx hb dX8_unlike_50 (by decide) ?_
            exact ih8 (i + 1) f' ρ_8 ((passS Lx T').1) _ (by omega) (by omega) (kept_kp hKk (Kp.trans Kp.rf hk_10)) ((ok_pass (Lx := Lx) hT').1) ((hOT.trans (out_pass (Lx := Lx) hT'))) (Or.inr ⟨nI_m1 (by omega), by rw [← hB]; exact (if_neg (fun z => c_11 (Eq.symm z))).symm⟩) _ _ _ hW (lv_sub hl [0, 1, 2, 3] rfl)
          ·
            refine lv_iconst (v := (-1)) hx hb dX8_unlike_41 (by decide) ?_
            refine lv_goto (tgt := 46) hx hb dX8_unlike_42 (by decide) ?_
            refine lv_istore_n (lv' := [(2, .int (-1)), (3, .int (nI i)), (0, .ref (ad 0)), (1, .int (nI j))]) hx hb dX8_unlike_46 rfl hl (by decide) rfl (fun ls hl => ?_)
            refine lv_iinc (v := nI (i + 1)) (lv' := [(3, .int (nI (i + 1))), (2, .int (-1)), (0, .ref (ad 0)), (1, .int (nI j))]) hx hb dX8_unlike_47 hl (k := 1) rfl (nI_1 i) (by decide) rfl (fun ls hl => ?_)
            refine lv_goto (tgt := 8) hx hb dX8_unlike_50 (by decide) ?_
            exact ih8 (i + 1) f' ρ_8 ((passS Lx T').1) _ (by omega) (by omega) (kept_kp hKk (Kp.trans Kp.rf hk_10)) ((ok_pass (Lx := Lx) hT').1) ((hOT.trans (out_pass (Lx := Lx) hT'))) (Or.inl ⟨rfl, by rw [← hB]; exact (if_pos (Eq.symm c_11)).symm⟩) _ _ _ hW (lv_sub hl [0, 1, 2, 3] rfl)
  exact L8 (kz + 1) 0 kz _ _ (-1) (by omega) (by omega) (kept_kp hK_3 Kp.rf) (hT) (OutT.rf) (Or.inl ⟨rfl, hR0⟩) _ _ _ hW (lv_sub hl [0, 1, 2, 3] rfl)
abbrev rm_yX8_judge : Room := { frames := 8, cells := 0, slots := 0, locals := 186 }
set_option maxHeartbeats 800000 in
set_option maxRecDepth 100000 in
theorem kX8_judge {l : Launch} {D : va_G} {cA : ClassId} {ad : Nat → Nat} {ρ T σ : Nat → Nat → Int32} {sz : Nat} {n : Nat} {Lx : Lw} {z : Int32} (hT : okT n T) (hM : okML n σ Lx) (hSM : okSM σ) : MMi l yX8_judge cX8_judge 3 FieldType.int rm_yX8_judge [.ref (ad 0), .int z] D cA ad ρ T σ sz (fun (r : Int32) (u : Nat → Nat → Int32) => r = judgeP Lx T (soM σ) (siM σ) (nuM σ) z) (fun u : Nat → Nat → Int32 => ment ad cA u T σ) := by
  refine gw_stI (Ff := fun u : Nat → Nat → Int32 => ment ad cA u T σ) (own := RX8) (by decide +kernel) rfl (Nat.le_of_ble_eq_true rfl) ?_
  intro p e s m ar below meth c A Q F hE hsz hW hret ls hl
  obtain ⟨hx, hb, hml, hown, hts⟩ := id F
  have hl : lv_has ls 3 [(0, .ref (ad 0)), (1, .int z)] := hl
  refine lv_aload_n hx hb dX8_judge_0 rfl (lv_at hl 0 rfl) ?_
  refine lv_iload_n hx hb dX8_judge_1 rfl (lv_at hl 1 rfl) ?_
  refine gw_callVi (As := [.int z]) (rest := []) F hl.1 hW (fun _ _ _ => trivial) gw_T_E (by decide) (rfl : ment ad cA _ _ _ 0 = _) rfl (kX8_sheetWrong) pd_yX8_sheetWrong ml_RX8_216 im_yX8_sheetWrong se_yX8_sheetWrong ini_RX8 cd_yX8_sheetWrong ⟨rfl, rfl⟩ ⟨Nat.le_of_ble_eq_true rfl, Nat.le_of_ble_eq_true rfl⟩ rfl rfl (Nat.le_of_ble_eq_true rfl) ⟨Nat.zero_le _, Nat.zero_le _⟩ dX8_judge_2 (fun r u H locs hp hW _ _ => ?_)
  subst hp
  refine lv_as (z := talP (soM σ) (siM σ) z) rfl ?_
  refine lv_topi (fun v_1 ev_1 => ?_)
  refine lv_istore_n (lv' := [(2, .int v_1), (0, .ref (ad 0)), (1, .int z)]) hx hb dX8_judge_5 rfl hl (by decide) rfl (fun ls hl => ?_)
  refine lv_iload_n hx hb dX8_judge_6 rfl (lv_at hl 0 rfl) ?_
  refine lv_if_ne (tgt := 18) hx hb dX8_judge_7 (by decide) (fun c_2 => ?_) (fun c_2 => ?_)
  ·
    refine lv_iload_n hx hb dX8_judge_18 rfl (lv_at hl 0 rfl) ?_
    exact hret v_1 ρ _ _ _ _ _ hW rfl rfl (by subst ev_1; unfold judgeP; rw [if_neg c_2]) dX8_judge_19
  ·
    have htal : talP (soM σ) (siM σ) z = 0 := (by rw [← ev_1]; exact c_2); obtain ⟨j, kz, hj, hkz, rfl, hsi⟩ := tal_okM hSM htal; have hij : iN (nI j) = j := iN_nI (by omega); have hik : iN (siM σ j) = kz := (congrArg iN hsi).trans (iN_nI (by omega))
    refine lv_aload_n hx hb dX8_judge_10 rfl (lv_at hl 1 rfl) ?_
    refine lv_iload_n hx hb dX8_judge_11 rfl (lv_at hl 2 rfl) ?_
    refine gw_callVi (As := [.int (nI j)]) (rest := []) F hl.1 hW (fun _ _ _ => trivial) gw_T_E (by decide) (rfl : ment ad cA _ _ _ 0 = _) rfl (kX8_unlike (n := n) (j := j) (kz := kz) (Lx := Lx) hT hM hj hkz hsi) pd_yX8_unlike ml_RX8_219 im_yX8_unlike se_yX8_unlike ini_RX8 cd_yX8_unlike ⟨rfl, rfl⟩ ⟨Nat.le_of_ble_eq_true rfl, Nat.le_of_ble_eq_true rfl⟩ rfl rfl (Nat.le_of_ble_eq_true rfl) ⟨Nat.zero_le _, Nat.zero_le _⟩ dX8_judge_12 (fun r ρ_3 H locs hp hW _ _ => ?_)
    subst hp
    refine lv_as (z := foS Lx (nuM σ j) kz T) rfl ?_
    refine lv_goto (tgt := 19) hx hb dX8_judge_15 (by decide) ?_
    exact hret (foS Lx (nuM σ j) kz T) ρ_3 _ _ _ _ _ hW rfl rfl (by unfold judgeP; rw [if_pos htal, hij, hik]) dX8_judge_19
theorem xor_xor (x z : Int32) : (x ^^^ z) ^^^ z = x := by
  apply Int32.toBitVec_inj.1
  show (x.toBitVec ^^^ z.toBitVec) ^^^ z.toBitVec = x.toBitVec
  rw [BitVec.xor_assoc, BitVec.xor_self, BitVec.xor_zero]
abbrev rm_yX8_turned : Room := { frames := 8, cells := 0, slots := 0, locals := 186 }
set_option maxHeartbeats 800000 in
set_option maxRecDepth 100000 in
theorem kX8_turned {l : Launch} {D : va_G} {cA : ClassId} {ad : Nat → Nat} {ρ T σ : Nat → Nat → Int32} {sz : Nat} {n : Nat} {Lx : Lw} {z : Int32} {pp : Int32} (hT : okT n T) (hM : okML n σ Lx) (hSM : okSM σ) : MMi l yX8_turned cX8_turned 6 FieldType.int rm_yX8_turned [.ref (ad 0), .int z, .int pp] D cA ad ρ T σ sz (fun (r : Int32) (u : Nat → Nat → Int32) => r = turnedP Lx T (soM σ) (siM σ) (nuM σ) z pp) (fun u : Nat → Nat → Int32 => ment ad cA u T σ) := by
  refine gw_stI (Ff := fun u : Nat → Nat → Int32 => ment ad cA u T σ) (own := RX8) (by decide +kernel) rfl (Nat.le_of_ble_eq_true rfl) ?_
  intro p e s m ar below meth c A Q F hE hsz hW hret ls hl
  obtain ⟨hx, hb, hml, hown, hts⟩ := id F
  have hl : lv_has ls 6 [(0, .ref (ad 0)), (1, .int z), (2, .int pp)] := hl
  have hs6 := hT.1
  have hsN := hT.2.1
  refine lv_aload_n hx hb dX8_turned_0 rfl (lv_at hl 0 rfl) ?_
  refine lv_iload_n hx hb dX8_turned_1 rfl (lv_at hl 1 rfl) ?_
  refine gw_callVi (As := [.int z]) (rest := []) F hl.1 hW (fun _ _ _ => trivial) gw_T_E (by decide) (rfl : ment ad cA _ _ _ 0 = _) rfl (kX8_sheetWrong) pd_yX8_sheetWrong ml_RX8_216 im_yX8_sheetWrong se_yX8_sheetWrong ini_RX8 cd_yX8_sheetWrong ⟨rfl, rfl⟩ ⟨Nat.le_of_ble_eq_true rfl, Nat.le_of_ble_eq_true rfl⟩ rfl rfl (Nat.le_of_ble_eq_true rfl) ⟨Nat.zero_le _, Nat.zero_le _⟩ dX8_turned_2 (fun r u H locs hp hW _ _ => ?_)
  subst hp
  refine lv_as (z := talP (soM σ) (siM σ) z) rfl ?_
  refine lv_topi (fun v_1 ev_1 => ?_)
  refine lv_istore_n (lv' := [(3, .int v_1), (0, .ref (ad 0)), (1, .int z), (2, .int pp)]) hx hb dX8_turned_5 rfl hl (by decide) rfl (fun ls hl => ?_)
  refine lv_iload_n hx hb dX8_turned_6 rfl (lv_at hl 0 rfl) ?_
  refine lv_if_eq (tgt := 12) hx hb dX8_turned_7 (by decide) (fun c_2 => ?_) (fun c_2 => ?_)
  ·
    have htal : talP (soM σ) (siM σ) z = 0 := (by rw [← ev_1]; exact c_2); obtain ⟨j, kz, hj, hkz, rfl, hsi⟩ := tal_okM hSM htal; have hij : iN (nI j) = j := iN_nI (by omega); have hik : iN (siM σ j) = kz := (congrArg iN hsi).trans (iN_nI (by omega))
    refine lv_aload_n hx hb dX8_turned_12 rfl (lv_at hl 1 rfl) ?_
    refine lv_iload_n hx hb dX8_turned_13 rfl (lv_at hl 3 rfl) ?_
    refine gw_callVi (As := [.int pp]) (rest := []) F hl.1 hW (fun _ _ _ => trivial) gw_T_E (by decide) (rfl : ment ad cA _ _ _ 0 = _) rfl (kX8_isOne (n := n) hT) pd_yX8_isOne ml_RX8_161 im_yX8_isOne se_yX8_isOne ini_RX8 cd_yX8_isOne ⟨rfl, rfl⟩ ⟨Nat.le_of_ble_eq_true rfl, Nat.le_of_ble_eq_true rfl⟩ rfl rfl (Nat.le_of_ble_eq_true rfl) ⟨Nat.zero_le _, Nat.zero_le _⟩ dX8_turned_14 (fun r u H locs hp hW _ _ => ?_)
    subst hp
    refine lv_as (z := oneP T pp) rfl ?_
    refine lv_if_ne (tgt := 23) hx hb dX8_turned_17 (by decide) (fun c_3 => ?_) (fun c_3 => ?_)
    ·
      obtain ⟨q, hq, rfl⟩ := one_nat hT c_3; have hq6 : q < 6 := seats_le hT hq; have hiq : iN (nI q) = q := iN_nI (by omega); have hGq := hT.2.2.2.2 q hq; have hone : ¬ oneP T (nI q) = 0 := c_3
      refine lv_iconst (v := 0) hx hb dX8_turned_23 (by decide) ?_
      refine lv_istore (lv' := [(4, .int 0), (3, .int v_1), (0, .ref (ad 0)), (1, .int (nI j)), (2, .int (nI q))]) hx hb dX8_turned_24 hl (by decide) rfl (fun ls hl => ?_)
      refine lv_iconst (v := 0) hx hb dX8_turned_26 (by decide) ?_
      refine lv_istore (lv' := [(5, .int 0), (4, .int 0), (3, .int v_1), (0, .ref (ad 0)), (1, .int (nI j)), (2, .int (nI q))]) hx hb dX8_turned_27 hl (by decide) rfl (fun ls hl => ?_)
      have L29 : ∀ (k : Nat) (i : Nat) (ρ' : Nat → Nat → Int32) (aa : Int32), (i ≤ 10) → (10 + 1 ≤ i + k) → (aa = fitK (fun v => foS Lx (nuM σ j) kz (upT T q 2 (T q 2 ^^^ oneS (nI v)))) i) → ∀ (H : Heap) (locs : List Loc) (ls : Array Slot), MW D cA ad ρ' T σ A s s.heap H locs → lv_has ls 6 [(5, .int (nI i)), (4, .int aa), (0, .ref (ad 0)), (1, .int (nI j)), (2, .int (nI q))] → W p l e rm_yX8_turned s m ar below meth c H locs 0 0 Q (F0 m 29 ls []) := by
        intro k
        induction k with
        | zero => intro i ρ' aa h1 h2 haa; exact absurd h2 (by omega)
        | succ k ih29 =>
          intro i ρ' aa h1 h2 haa H locs ls hW hl
          refine lv_iload hx hb dX8_turned_29 (lv_at hl 0 rfl) ?_
          refine lv_bipush (v := 10) hx hb dX8_turned_31 (by decide) ?_
          refine lv_icmp_ge (tgt := 94) hx hb dX8_turned_33 (by decide) (fun c_4 => ?_) (fun c_4 => ?_)
          ·
            obtain rfl : i = 10 := by have := mi_le (a := 10) (b := i) c_4 (by omega) (by omega); omega
            refine lv_iload hx hb dX8_turned_94 (lv_at hl 1 rfl) ?_
            exact hret aa ρ' _ _ _ _ _ hW rfl rfl (by unfold turnedP; rw [if_pos htal, if_neg hone, hiq, hij, hik]; exact haa) dX8_turned_96
          ·
            have hlt : i < 10 := mi_nle (a := 10) (b := i) c_4 (by omega) (by omega)
            refine lv_aload_n hx hb dX8_turned_36 rfl (lv_at hl 2 rfl) ?_
            refine mr_f F hW 3 (by decide) rfl fl_RX8_16 dX8_turned_37 ?_
            refine lv_iconst (v := 5) hx hb dX8_turned_40 (by decide) ?_
            refine lv_iload_n hx hb dX8_turned_41 rfl (lv_at hl 4 rfl) ?_
            refine lv_imul hx hb dX8_turned_42 ?_
            refine lv_dup2_11 hx hb dX8_turned_43 rfl rfl ?_
            refine mr_rows q 0 (by omega) (by decide) (mi_50 q) F hW dX8_turned_44 ?_
            refine lv_iconst (v := 1) hx hb dX8_turned_45 (by decide) ?_
            refine lv_iload hx hb dX8_turned_46 (lv_at hl 0 rfl) ?_
            refine lv_ishl hx hb dX8_turned_48 ?_
            refine lv_ixor hx hb dX8_turned_49 ?_
            refine lv_as (z := T q 2 ^^^ oneS (nI i)) rfl ?_
            refine mw_rows q 0 (by omega) (by decide) (mi_50 q) F hW dX8_turned_50 (fun H locs hW => ?_)
            refine lv_iload hx hb dX8_turned_51 (lv_at hl 1 rfl) ?_
            refine lv_aload_n hx hb dX8_turned_53 rfl (lv_at hl 2 rfl) ?_
            refine lv_iload_n hx hb dX8_turned_54 rfl (lv_at hl 3 rfl) ?_
            refine gw_callVi (As := [.int (nI j)]) (rest := [.int aa]) F hl.1 hW (fun _ _ _ => trivial) gw_T_E (by decide) (rfl : ment ad cA _ _ _ 0 = _) rfl (kX8_unlike (n := n) (j := j) (kz := kz) (Lx := Lx) (ok_upT hT hq6 (fun _ => okG_2 hGq (xor_upto hGq.2.2.1 hlt))) hM hj hkz hsi) pd_yX8_unlike ml_RX8_219 im_yX8_unlike se_yX8_unlike ini_RX8 cd_yX8_unlike ⟨rfl, rfl⟩ ⟨Nat.le_of_ble_eq_true rfl, Nat.le_of_ble_eq_true rfl⟩ rfl rfl (Nat.le_of_ble_eq_true rfl) ⟨Nat.zero_le _, Nat.zero_le _⟩ dX8_turned_55 (fun r ρ_5 H locs hp hW _ _ => ?_)
            subst hp
            refine lv_as (z := foS Lx (nuM σ j) kz (upT T q 2 (T q 2 ^^^ oneS (nI i)))) rfl ?_
            refine lv_iconst (v := (-1)) hx hb dX8_turned_58 (by decide) ?_
            refine lv_icmp_ne (tgt := 69) hx hb dX8_turned_59 (by decide) (fun c_6 => ?_) (fun c_6 => ?_)
            ·
              refine lv_iconst (v := 0) hx hb dX8_turned_69 (by decide) ?_
              refine lv_ior hx hb dX8_turned_70 ?_
              refine lv_istore (lv' := [(4, .int (aa ||| 0)), (5, .int (nI i)), (0, .ref (ad 0)), (1, .int (nI j)), (2, .int (nI q))]) hx hb dX8_turned_71 hl (by decide) rfl (fun ls hl => ?_)
              refine lv_aload_n hx hb dX8_turned_73 rfl (lv_at hl 2 rfl) ?_
              refine mr_f F hW 3 (by decide) rfl fl_RX8_16 dX8_turned_74 ?_
              refine lv_iconst (v := 5) hx hb dX8_turned_77 (by decide) ?_
              refine lv_iload_n hx hb dX8_turned_78 rfl (lv_at hl 4 rfl) ?_
              refine lv_imul hx hb dX8_turned_79 ?_
              refine lv_dup2_11 hx hb dX8_turned_80 rfl rfl ?_
              refine mr_rows q 0 (by omega) (by decide) (mi_50 q) F hW dX8_turned_81 ?_
              refine lv_iconst (v := 1) hx hb dX8_turned_82 (by decide) ?_
              refine lv_iload hx hb dX8_turned_83 (lv_at hl 1 rfl) ?_
              refine lv_ishl hx hb dX8_turned_85 ?_
              refine lv_ixor hx hb dX8_turned_86 ?_
              refine lv_as (z := T q 2) (by rw [upT_at]; exact xor_xor _ _) ?_
              refine mw_rows q 0 (by omega) (by decide) (mi_50 q) F hW dX8_turned_87 (fun H locs hW => ?_)
              have hW : MW D cA ad ρ_5 T σ A s s.heap H locs := by rw [upT_upT, upT_eta] at hW; exact hW
              refine lv_iinc (v := nI (i + 1)) (lv' := [(5, .int (nI (i + 1))), (4, .int (aa ||| 0)), (0, .ref (ad 0)), (1, .int (nI j)), (2, .int (nI q))]) hx hb dX8_turned_88 hl (k := 1) rfl (nI_1 i) (by decide) rfl (fun ls hl => ?_)
              refine lv_goto (tgt := 29) hx hb dX8_turned_91 (by decide) ?_
              exact ih29 (i + 1) ρ_5 _ (by omega) (by omega) (by rw [haa]; exact Int32.or_zero.trans (if_neg c_6).symm) _ _ _ hW (lv_sub hl [0, 1, 2, 3, 4] rfl)
            ·
              refine lv_iconst (v := 1) hx hb dX8_turned_62 (by decide) ?_
              refine lv_iload hx hb dX8_turned_63 (lv_at hl 0 rfl) ?_
              refine lv_ishl hx hb dX8_turned_65 ?_
              refine lv_goto (tgt := 70) hx hb dX8_turned_66 (by decide) ?_
              refine lv_ior hx hb dX8_turned_70 ?_
              refine lv_topi (fun v_7 ev_7 => ?_)
              refine lv_istore (lv' := [(4, .int v_7), (5, .int (nI i)), (0, .ref (ad 0)), (1, .int (nI j)), (2, .int (nI q))]) hx hb dX8_turned_71 hl (by decide) rfl (fun ls hl => ?_)
              refine lv_aload_n hx hb dX8_turned_73 rfl (lv_at hl 2 rfl) ?_
              refine mr_f F hW 3 (by decide) rfl fl_RX8_16 dX8_turned_74 ?_
              refine lv_iconst (v := 5) hx hb dX8_turned_77 (by decide) ?_
              refine lv_iload_n hx hb dX8_turned_78 rfl (lv_at hl 4 rfl) ?_
              refine lv_imul hx hb dX8_turned_79 ?_
              refine lv_dup2_11 hx hb dX8_turned_80 rfl rfl ?_
              refine mr_rows q 0 (by omega) (by decide) (mi_50 q) F hW dX8_turned_81 ?_
              refine lv_iconst (v := 1) hx hb dX8_turned_82 (by decide) ?_
              refine lv_iload hx hb dX8_turned_83 (lv_at hl 1 rfl) ?_
              refine lv_ishl hx hb dX8_turned_85 ?_
              refine lv_ixor hx hb dX8_turned_86 ?_
              refine lv_as (z := T q 2) (by rw [upT_at]; exact xor_xor _ _) ?_
              refine mw_rows q 0 (by omega) (by decide) (mi_50 q) F hW dX8_turned_87 (fun H locs hW => ?_)
              have hW : MW D cA ad ρ_5 T σ A s s.heap H locs := by rw [upT_upT, upT_eta] at hW; exact hW
              refine lv_iinc (v := nI (i + 1)) (lv' := [(5, .int (nI (i + 1))), (4, .int v_7), (0, .ref (ad 0)), (1, .int (nI j)), (2, .int (nI q))]) hx hb dX8_turned_88 hl (k := 1) rfl (nI_1 i) (by decide) rfl (fun ls hl => ?_)
              refine lv_goto (tgt := 29) hx hb dX8_turned_91 (by decide) ?_
              exact ih29 (i + 1) ρ_5 _ (by omega) (by omega) (by subst ev_7; rw [haa]; exact (if_pos c_6).symm) _ _ _ hW (lv_sub hl [0, 1, 2, 3, 4] rfl)
      exact L29 (10 + 1) 0 _ 0 (Nat.zero_le _) (by omega) (rfl) _ _ _ hW (lv_sub hl [0, 1, 3, 4, 5] rfl)
    ·
      refine lv_bipush (v := (-5)) hx hb dX8_turned_20 (by decide) ?_
      exact hret (-5) ρ _ _ _ _ _ hW rfl rfl (by unfold turnedP; rw [if_pos htal, if_pos c_3]) dX8_turned_22
  ·
    refine lv_iload_n hx hb dX8_turned_10 rfl (lv_at hl 0 rfl) ?_
    exact hret v_1 ρ _ _ _ _ _ hW rfl rfl (by subst ev_1; unfold turnedP; rw [if_neg c_2]) dX8_turned_11
theorem flip_1 {x : Int32} (h : x = 0 ∨ x = 1) : 1 - x = if x = 0 then 1 else 0 := by rcases h with rfl | rfl <;> decide
theorem flip_2 {x : Int32} (h : x = 0 ∨ x = 1) : 1 - (if x = 0 then (1 : Int32) else 0) = x := by rcases h with rfl | rfl <;> decide
theorem flip_01 {x : Int32} : (if x = 0 then (1 : Int32) else 0) = 0 ∨ (if x = 0 then (1 : Int32) else 0) = 1 := by by_cases h : x = 0 <;> simp [h]
abbrev rm_yX8_feared : Room := { frames := 8, cells := 0, slots := 0, locals := 186 }
set_option maxHeartbeats 800000 in
set_option maxRecDepth 100000 in
theorem kX8_feared {l : Launch} {D : va_G} {cA : ClassId} {ad : Nat → Nat} {ρ T σ : Nat → Nat → Int32} {sz : Nat} {n : Nat} {Lx : Lw} {z : Int32} (hT : okT n T) (hM : okML n σ Lx) (hSM : okSM σ) : MMi l yX8_feared cX8_feared 5 FieldType.int rm_yX8_feared [.ref (ad 0), .int z] D cA ad ρ T σ sz (fun (r : Int32) (u : Nat → Nat → Int32) => r = fearedP Lx T (soM σ) (siM σ) (nuM σ) z) (fun u : Nat → Nat → Int32 => ment ad cA u T σ) := by
  refine gw_stI (Ff := fun u : Nat → Nat → Int32 => ment ad cA u T σ) (own := RX8) (by decide +kernel) rfl (Nat.le_of_ble_eq_true rfl) ?_
  intro p e s m ar below meth c A Q F hE hsz hW hret ls hl
  obtain ⟨hx, hb, hml, hown, hts⟩ := id F
  have hl : lv_has ls 5 [(0, .ref (ad 0)), (1, .int z)] := hl
  have hs6 := hT.1
  have hsN := hT.2.1
  refine lv_aload_n hx hb dX8_feared_0 rfl (lv_at hl 0 rfl) ?_
  refine lv_iload_n hx hb dX8_feared_1 rfl (lv_at hl 1 rfl) ?_
  refine gw_callVi (As := [.int z]) (rest := []) F hl.1 hW (fun _ _ _ => trivial) gw_T_E (by decide) (rfl : ment ad cA _ _ _ 0 = _) rfl (kX8_sheetWrong) pd_yX8_sheetWrong ml_RX8_216 im_yX8_sheetWrong se_yX8_sheetWrong ini_RX8 cd_yX8_sheetWrong ⟨rfl, rfl⟩ ⟨Nat.le_of_ble_eq_true rfl, Nat.le_of_ble_eq_true rfl⟩ rfl rfl (Nat.le_of_ble_eq_true rfl) ⟨Nat.zero_le _, Nat.zero_le _⟩ dX8_feared_2 (fun r u H locs hp hW _ _ => ?_)
  subst hp
  refine lv_as (z := talP (soM σ) (siM σ) z) rfl ?_
  refine lv_topi (fun v_1 ev_1 => ?_)
  refine lv_istore_n (lv' := [(2, .int v_1), (0, .ref (ad 0)), (1, .int z)]) hx hb dX8_feared_5 rfl hl (by decide) rfl (fun ls hl => ?_)
  refine lv_iload_n hx hb dX8_feared_6 rfl (lv_at hl 0 rfl) ?_
  refine lv_if_eq (tgt := 12) hx hb dX8_feared_7 (by decide) (fun c_2 => ?_) (fun c_2 => ?_)
  ·
    have htal : talP (soM σ) (siM σ) z = 0 := (by rw [← ev_1]; exact c_2); obtain ⟨j, kz, hj, hkz, rfl, hsi⟩ := tal_okM hSM htal; have hij : iN (nI j) = j := iN_nI (by omega); have hik : iN (siM σ j) = kz := (congrArg iN hsi).trans (iN_nI (by omega))
    refine lv_iconst (v := 0) hx hb dX8_feared_12 (by decide) ?_
    refine lv_istore_n (lv' := [(3, .int 0), (2, .int v_1), (0, .ref (ad 0)), (1, .int (nI j))]) hx hb dX8_feared_13 rfl hl (by decide) rfl (fun ls hl => ?_)
    refine lv_iconst (v := 0) hx hb dX8_feared_14 (by decide) ?_
    refine lv_istore (lv' := [(4, .int 0), (3, .int 0), (2, .int v_1), (0, .ref (ad 0)), (1, .int (nI j))]) hx hb dX8_feared_15 hl (by decide) rfl (fun ls hl => ?_)
    have L17 : ∀ (k : Nat) (i : Nat) (ρ' : Nat → Nat → Int32) (aa : Int32), (i ≤ seatsN T) → (seatsN T + 1 ≤ i + k) → (aa = fitK (fun v => foS Lx (nuM σ j) kz (upT T v 6 (if T v 6 = 0 then 1 else 0))) i) → ∀ (H : Heap) (locs : List Loc) (ls : Array Slot), MW D cA ad ρ' T σ A s s.heap H locs → lv_has ls 5 [(4, .int (nI i)), (3, .int aa), (0, .ref (ad 0)), (1, .int (nI j))] → W p l e rm_yX8_feared s m ar below meth c H locs 0 0 Q (F0 m 17 ls []) := by
      intro k
      induction k with
      | zero => intro i ρ' aa h1 h2 haa; exact absurd h2 (by omega)
      | succ k ih17 =>
        intro i ρ' aa h1 h2 haa H locs ls hW hl
        refine lv_iload hx hb dX8_feared_17 (lv_at hl 0 rfl) ?_
        refine lv_aload_n hx hb dX8_feared_19 rfl (lv_at hl 2 rfl) ?_
        refine mr_f F hW 0 (by decide) rfl fl_RX8_69 dX8_feared_20 ?_
        refine lv_as (z := nI (seatsN T)) (hsN) ?_
        refine lv_icmp_ge (tgt := 100) hx hb dX8_feared_23 (by decide) (fun c_3 => ?_) (fun c_3 => ?_)
        ·
          obtain rfl : i = seatsN T := by have := mi_le (a := seatsN T) (b := i) c_3 (by omega) (by omega); omega
          refine lv_iload_n hx hb dX8_feared_100 rfl (lv_at hl 1 rfl) ?_
          exact hret aa ρ' _ _ _ _ _ hW rfl rfl (by unfold fearedP; rw [if_pos htal, hij, hik]; exact haa) dX8_feared_101
        ·
          have hlt : i < seatsN T := mi_nle (a := seatsN T) (b := i) c_3 (by omega) (by omega)
          refine lv_aload_n hx hb dX8_feared_26 rfl (lv_at hl 2 rfl) ?_
          refine mr_f F hW 3 (by decide) rfl fl_RX8_16 dX8_feared_27 ?_
          refine lv_iconst (v := 5) hx hb dX8_feared_30 (by decide) ?_
          refine lv_iload hx hb dX8_feared_31 (lv_at hl 0 rfl) ?_
          refine lv_imul hx hb dX8_feared_33 ?_
          refine lv_iconst (v := 4) hx hb dX8_feared_34 (by decide) ?_
          refine lv_iadd hx hb dX8_feared_35 ?_
          refine lv_iconst (v := 1) hx hb dX8_feared_36 (by decide) ?_
          refine lv_aload_n hx hb dX8_feared_37 rfl (lv_at hl 2 rfl) ?_
          refine mr_f F hW 3 (by decide) rfl fl_RX8_16 dX8_feared_38 ?_
          refine lv_iconst (v := 5) hx hb dX8_feared_41 (by decide) ?_
          refine lv_iload hx hb dX8_feared_42 (lv_at hl 0 rfl) ?_
          refine lv_imul hx hb dX8_feared_44 ?_
          refine lv_iconst (v := 4) hx hb dX8_feared_45 (by decide) ?_
          refine lv_iadd hx hb dX8_feared_46 ?_
          refine mr_rows i 4 (by omega) (by decide) (mi_5k i 4) F hW dX8_feared_47 ?_
          refine lv_isub hx hb dX8_feared_48 ?_
          refine lv_as (z := if T i 6 = 0 then 1 else 0) (flip_1 (hT.2.2.2.2 i hlt).2.2.2.2.2.2) ?_
          refine mw_rows i 4 (by omega) (by decide) (mi_5k i 4) F hW dX8_feared_49 (fun H locs hW => ?_)
          refine lv_iload_n hx hb dX8_feared_50 rfl (lv_at hl 1 rfl) ?_
          refine lv_aload_n hx hb dX8_feared_51 rfl (lv_at hl 2 rfl) ?_
          refine lv_iload_n hx hb dX8_feared_52 rfl (lv_at hl 3 rfl) ?_
          refine gw_callVi (As := [.int (nI j)]) (rest := [.int aa]) F hl.1 hW (fun _ _ _ => trivial) gw_T_E (by decide) (rfl : ment ad cA _ _ _ 0 = _) rfl (kX8_unlike (n := n) (j := j) (kz := kz) (Lx := Lx) (ok_upT hT (by omega) (fun _ => okG_6 (hT.2.2.2.2 i hlt) flip_01)) hM hj hkz hsi) pd_yX8_unlike ml_RX8_219 im_yX8_unlike se_yX8_unlike ini_RX8 cd_yX8_unlike ⟨rfl, rfl⟩ ⟨Nat.le_of_ble_eq_true rfl, Nat.le_of_ble_eq_true rfl⟩ rfl rfl (Nat.le_of_ble_eq_true rfl) ⟨Nat.zero_le _, Nat.zero_le _⟩ dX8_feared_53 (fun r ρ_4 H locs hp hW _ _ => ?_)
          subst hp
          refine lv_as (z := foS Lx (nuM σ j) kz (upT T i 6 (if T i 6 = 0 then 1 else 0))) rfl ?_
          refine lv_iconst (v := (-1)) hx hb dX8_feared_56 (by decide) ?_
          refine lv_icmp_ne (tgt := 67) hx hb dX8_feared_57 (by decide) (fun c_5 => ?_) (fun c_5 => ?_)
          ·
            refine lv_iconst (v := 0) hx hb dX8_feared_67 (by decide) ?_
            refine lv_ior hx hb dX8_feared_68 ?_
            refine lv_istore_n (lv' := [(3, .int (aa ||| 0)), (4, .int (nI i)), (0, .ref (ad 0)), (1, .int (nI j))]) hx hb dX8_feared_69 rfl hl (by decide) rfl (fun ls hl => ?_)
            refine lv_aload_n hx hb dX8_feared_70 rfl (lv_at hl 2 rfl) ?_
            refine mr_f F hW 3 (by decide) rfl fl_RX8_16 dX8_feared_71 ?_
            refine lv_iconst (v := 5) hx hb dX8_feared_74 (by decide) ?_
            refine lv_iload hx hb dX8_feared_75 (lv_at hl 1 rfl) ?_
            refine lv_imul hx hb dX8_feared_77 ?_
            refine lv_iconst (v := 4) hx hb dX8_feared_78 (by decide) ?_
            refine lv_iadd hx hb dX8_feared_79 ?_
            refine lv_iconst (v := 1) hx hb dX8_feared_80 (by decide) ?_
            refine lv_aload_n hx hb dX8_feared_81 rfl (lv_at hl 2 rfl) ?_
            refine mr_f F hW 3 (by decide) rfl fl_RX8_16 dX8_feared_82 ?_
            refine lv_iconst (v := 5) hx hb dX8_feared_85 (by decide) ?_
            refine lv_iload hx hb dX8_feared_86 (lv_at hl 1 rfl) ?_
            refine lv_imul hx hb dX8_feared_88 ?_
            refine lv_iconst (v := 4) hx hb dX8_feared_89 (by decide) ?_
            refine lv_iadd hx hb dX8_feared_90 ?_
            refine mr_rows i 4 (by omega) (by decide) (mi_5k i 4) F hW dX8_feared_91 ?_
            refine lv_isub hx hb dX8_feared_92 ?_
            refine lv_as (z := T i 6) (by rw [upT_at]; exact flip_2 (hT.2.2.2.2 i hlt).2.2.2.2.2.2) ?_
            refine mw_rows i 4 (by omega) (by decide) (mi_5k i 4) F hW dX8_feared_93 (fun H locs hW => ?_)
            have hW : MW D cA ad ρ_4 T σ A s s.heap H locs := by rw [upT_upT, upT_eta] at hW; exact hW
            refine lv_iinc (v := nI (i + 1)) (lv' := [(4, .int (nI (i + 1))), (3, .int (aa ||| 0)), (0, .ref (ad 0)), (1, .int (nI j))]) hx hb dX8_feared_94 hl (k := 1) rfl (nI_1 i) (by decide) rfl (fun ls hl => ?_)
            refine lv_goto (tgt := 17) hx hb dX8_feared_97 (by decide) ?_
            exact ih17 (i + 1) ρ_4 _ (by omega) (by omega) (by rw [haa]; exact Int32.or_zero.trans (if_neg c_5).symm) _ _ _ hW (lv_sub hl [0, 1, 2, 3] rfl)
          ·
            refine lv_iconst (v := 1) hx hb dX8_feared_60 (by decide) ?_
            refine lv_iload hx hb dX8_feared_61 (lv_at hl 0 rfl) ?_
            refine lv_ishl hx hb dX8_feared_63 ?_
            refine lv_goto (tgt := 68) hx hb dX8_feared_64 (by decide) ?_
            refine lv_ior hx hb dX8_feared_68 ?_
            refine lv_topi (fun v_6 ev_6 => ?_)
            refine lv_istore_n (lv' := [(3, .int v_6), (4, .int (nI i)), (0, .ref (ad 0)), (1, .int (nI j))]) hx hb dX8_feared_69 rfl hl (by decide) rfl (fun ls hl => ?_)
            refine lv_aload_n hx hb dX8_feared_70 rfl (lv_at hl 2 rfl) ?_
            refine mr_f F hW 3 (by decide) rfl fl_RX8_16 dX8_feared_71 ?_
            refine lv_iconst (v := 5) hx hb dX8_feared_74 (by decide) ?_
            refine lv_iload hx hb dX8_feared_75 (lv_at hl 1 rfl) ?_
            refine lv_imul hx hb dX8_feared_77 ?_
            refine lv_iconst (v := 4) hx hb dX8_feared_78 (by decide) ?_
            refine lv_iadd hx hb dX8_feared_79 ?_
            refine lv_iconst (v := 1) hx hb dX8_feared_80 (by decide) ?_
            refine lv_aload_n hx hb dX8_feared_81 rfl (lv_at hl 2 rfl) ?_
            refine mr_f F hW 3 (by decide) rfl fl_RX8_16 dX8_feared_82 ?_
            refine lv_iconst (v := 5) hx hb dX8_feared_85 (by decide) ?_
            refine lv_iload hx hb dX8_feared_86 (lv_at hl 1 rfl) ?_
            refine lv_imul hx hb dX8_feared_88 ?_
            refine lv_iconst (v := 4) hx hb dX8_feared_89 (by decide) ?_
            refine lv_iadd hx hb dX8_feared_90 ?_
            refine mr_rows i 4 (by omega) (by decide) (mi_5k i 4) F hW dX8_feared_91 ?_
            refine lv_isub hx hb dX8_feared_92 ?_
            refine lv_as (z := T i 6) (by rw [upT_at]; exact flip_2 (hT.2.2.2.2 i hlt).2.2.2.2.2.2) ?_
            refine mw_rows i 4 (by omega) (by decide) (mi_5k i 4) F hW dX8_feared_93 (fun H locs hW => ?_)
            have hW : MW D cA ad ρ_4 T σ A s s.heap H locs := by rw [upT_upT, upT_eta] at hW; exact hW
            refine lv_iinc (v := nI (i + 1)) (lv' := [(4, .int (nI (i + 1))), (3, .int v_6), (0, .ref (ad 0)), (1, .int (nI j))]) hx hb dX8_feared_94 hl (k := 1) rfl (nI_1 i) (by decide) rfl (fun ls hl => ?_)
            refine lv_goto (tgt := 17) hx hb dX8_feared_97 (by decide) ?_
            exact ih17 (i + 1) ρ_4 _ (by omega) (by omega) (by subst ev_6; rw [haa]; exact (if_pos c_5).symm) _ _ _ hW (lv_sub hl [0, 1, 2, 3] rfl)
    exact L17 (seatsN T + 1) 0 _ 0 (Nat.zero_le _) (by omega) (rfl) _ _ _ hW (lv_sub hl [0, 1, 3, 4] rfl)
  ·
    refine lv_iload_n hx hb dX8_feared_10 rfl (lv_at hl 0 rfl) ?_
    exact hret v_1 ρ _ _ _ _ _ hW rfl rfl (by subst ev_1; unfold fearedP; rw [if_neg c_2]) dX8_feared_11
abbrev rm_yX8_laws : Room := { frames := 8, cells := 0, slots := 0, locals := 186 }
set_option maxHeartbeats 800000 in
set_option maxRecDepth 100000 in
theorem kX8_laws {l : Launch} {D : va_G} {cA : ClassId} {ad : Nat → Nat} {ρ T σ : Nat → Nat → Int32} {sz : Nat} {n : Nat} {Lx : Lw} {z : Int32} (hT : okT n T) (hM : okML n σ Lx) (hSM : okSM σ) (hc : σ 0 9 = nI n) : MMi l yX8_laws cX8_laws 6 FieldType.int rm_yX8_laws [.ref (ad 0), .int z] D cA ad ρ T σ sz (fun (r : Int32) (u : Nat → Nat → Int32) => r = lawsP Lx T n (soM σ) (siM σ) (nuM σ) z) (fun u : Nat → Nat → Int32 => ment ad cA u T σ) := by
  refine gw_stI (Ff := fun u : Nat → Nat → Int32 => ment ad cA u T σ) (own := RX8) (by decide +kernel) rfl (Nat.le_of_ble_eq_true rfl) ?_
  intro p e s m ar below meth c A Q F hE hsz hW hret ls hl
  obtain ⟨hx, hb, hml, hown, hts⟩ := id F
  have hl : lv_has ls 6 [(0, .ref (ad 0)), (1, .int z)] := hl
  have hs6 := hT.1
  have hsN := hT.2.1
  obtain ⟨hn6, hM6⟩ := id hM
  refine lv_aload_n hx hb dX8_laws_0 rfl (lv_at hl 0 rfl) ?_
  refine lv_iload_n hx hb dX8_laws_1 rfl (lv_at hl 1 rfl) ?_
  refine gw_callVi (As := [.int z]) (rest := []) F hl.1 hW (fun _ _ _ => trivial) gw_T_E (by decide) (rfl : ment ad cA _ _ _ 0 = _) rfl (kX8_sheetWrong) pd_yX8_sheetWrong ml_RX8_216 im_yX8_sheetWrong se_yX8_sheetWrong ini_RX8 cd_yX8_sheetWrong ⟨rfl, rfl⟩ ⟨Nat.le_of_ble_eq_true rfl, Nat.le_of_ble_eq_true rfl⟩ rfl rfl (Nat.le_of_ble_eq_true rfl) ⟨Nat.zero_le _, Nat.zero_le _⟩ dX8_laws_2 (fun r u H locs hp hW _ _ => ?_)
  subst hp
  refine lv_as (z := talP (soM σ) (siM σ) z) rfl ?_
  refine lv_topi (fun v_1 ev_1 => ?_)
  refine lv_istore_n (lv' := [(2, .int v_1), (0, .ref (ad 0)), (1, .int z)]) hx hb dX8_laws_5 rfl hl (by decide) rfl (fun ls hl => ?_)
  refine lv_iload_n hx hb dX8_laws_6 rfl (lv_at hl 0 rfl) ?_
  refine lv_if_eq (tgt := 12) hx hb dX8_laws_7 (by decide) (fun c_2 => ?_) (fun c_2 => ?_)
  ·
    have htal : talP (soM σ) (siM σ) z = 0 := (by rw [← ev_1]; exact c_2); obtain ⟨j, kz, hj, hkz, rfl, hsi⟩ := tal_okM hSM htal; have hij : iN (nI j) = j := iN_nI (by omega); have hik : iN (siM σ j) = kz := (congrArg iN hsi).trans (iN_nI (by omega))
    refine lv_aload_n hx hb dX8_laws_12 rfl (lv_at hl 1 rfl) ?_
    refine mr_f F hW 10 (by decide) rfl fl_RX8_89 dX8_laws_13 ?_
    refine lv_istore_n (lv' := [(3, .int (T 6 3)), (2, .int v_1), (0, .ref (ad 0)), (1, .int (nI j))]) hx hb dX8_laws_16 rfl hl (by decide) rfl (fun ls hl => ?_)
    refine lv_iconst (v := 0) hx hb dX8_laws_17 (by decide) ?_
    refine lv_istore (lv' := [(4, .int 0), (3, .int (T 6 3)), (2, .int v_1), (0, .ref (ad 0)), (1, .int (nI j))]) hx hb dX8_laws_18 hl (by decide) rfl (fun ls hl => ?_)
    refine lv_iconst (v := 0) hx hb dX8_laws_20 (by decide) ?_
    refine lv_istore (lv' := [(5, .int 0), (4, .int 0), (3, .int (T 6 3)), (2, .int v_1), (0, .ref (ad 0)), (1, .int (nI j))]) hx hb dX8_laws_21 hl (by decide) rfl (fun ls hl => ?_)
    have hW : MW D cA ad ρ (upT T 6 3 (T 6 3)) σ A s s.heap H locs := by rw [upT_eta]; exact hW
    have L23 : ∀ (k : Nat) (i : Nat) (x : Int32) (ρ' : Nat → Nat → Int32) (aa : Int32), (i ≤ n) → (n + 1 ≤ i + k) → (aa = fitK (fun v => foS Lx (nuM σ j) kz (upT T 6 3 (nI v))) i) → ∀ (H : Heap) (locs : List Loc) (ls : Array Slot), MW D cA ad ρ' (upT T 6 3 x) σ A s s.heap H locs → lv_has ls 6 [(5, .int (nI i)), (4, .int aa), (0, .ref (ad 0)), (1, .int (nI j)), (3, .int (T 6 3))] → W p l e rm_yX8_laws s m ar below meth c H locs 0 0 Q (F0 m 23 ls []) := by
      intro k
      induction k with
      | zero => intro i x ρ' aa h1 h2 haa; exact absurd h2 (by omega)
      | succ k ih23 =>
        intro i x ρ' aa h1 h2 haa H locs ls hW hl
        refine lv_iload hx hb dX8_laws_23 (lv_at hl 0 rfl) ?_
        refine lv_aload_n hx hb dX8_laws_25 rfl (lv_at hl 2 rfl) ?_
        refine mr_f F hW 9 (by decide) rfl fl_RX8_86 dX8_laws_26 ?_
        refine lv_as (z := nI n) (hc) ?_
        refine lv_icmp_ge (tgt := 66) hx hb dX8_laws_29 (by decide) (fun c_3 => ?_) (fun c_3 => ?_)
        ·
          obtain rfl : i = n := by have := mi_le (a := n) (b := i) c_3 (by omega) (by omega); omega
          refine lv_aload_n hx hb dX8_laws_66 rfl (lv_at hl 2 rfl) ?_
          refine lv_iload_n hx hb dX8_laws_67 rfl (lv_at hl 4 rfl) ?_
          refine mw_T (j := 3) F hW 10 (by decide) fl_RX8_89 dX8_laws_68 (fun H locs hW => ?_)
          have hW : MW D cA ad ρ' T σ A s s.heap H locs := by rw [upT_upT, upT_eta] at hW; exact hW
          refine lv_iload hx hb dX8_laws_71 (lv_at hl 1 rfl) ?_
          exact hret aa ρ' _ _ _ _ _ hW rfl rfl (by unfold lawsP; rw [if_pos htal, hij, hik]; exact haa) dX8_laws_73
        ·
          have hlt : i < n := mi_nle (a := n) (b := i) c_3 (by omega) (by omega)
          refine lv_aload_n hx hb dX8_laws_32 rfl (lv_at hl 2 rfl) ?_
          refine lv_iload hx hb dX8_laws_33 (lv_at hl 0 rfl) ?_
          refine mw_T (j := 3) F hW 10 (by decide) fl_RX8_89 dX8_laws_35 (fun H locs hW => ?_)
          have hW : MW D cA ad ρ' (upT T 6 3 (nI i)) σ A s s.heap H locs := by rw [upT_upT] at hW; exact hW
          refine lv_iload hx hb dX8_laws_38 (lv_at hl 1 rfl) ?_
          refine lv_aload_n hx hb dX8_laws_40 rfl (lv_at hl 2 rfl) ?_
          refine lv_iload_n hx hb dX8_laws_41 rfl (lv_at hl 3 rfl) ?_
          refine gw_callVi (As := [.int (nI j)]) (rest := [.int aa]) F hl.1 hW (fun _ _ _ => trivial) gw_T_E (by decide) (rfl : ment ad cA _ _ _ 0 = _) rfl (kX8_unlike (n := n) (j := j) (kz := kz) (Lx := Lx) (ok_law hT hlt hn6) hM hj hkz hsi) pd_yX8_unlike ml_RX8_219 im_yX8_unlike se_yX8_unlike ini_RX8 cd_yX8_unlike ⟨rfl, rfl⟩ ⟨Nat.le_of_ble_eq_true rfl, Nat.le_of_ble_eq_true rfl⟩ rfl rfl (Nat.le_of_ble_eq_true rfl) ⟨Nat.zero_le _, Nat.zero_le _⟩ dX8_laws_42 (fun r ρ_4 H locs hp hW _ _ => ?_)
          subst hp
          refine lv_as (z := foS Lx (nuM σ j) kz (upT T 6 3 (nI i))) rfl ?_
          refine lv_iconst (v := (-1)) hx hb dX8_laws_45 (by decide) ?_
          refine lv_icmp_ne (tgt := 56) hx hb dX8_laws_46 (by decide) (fun c_5 => ?_) (fun c_5 => ?_)
          ·
            refine lv_iconst (v := 0) hx hb dX8_laws_56 (by decide) ?_
            refine lv_ior hx hb dX8_laws_57 ?_
            refine lv_istore (lv' := [(4, .int (aa ||| 0)), (5, .int (nI i)), (0, .ref (ad 0)), (1, .int (nI j)), (3, .int (T 6 3))]) hx hb dX8_laws_58 hl (by decide) rfl (fun ls hl => ?_)
            refine lv_iinc (v := nI (i + 1)) (lv' := [(5, .int (nI (i + 1))), (4, .int (aa ||| 0)), (0, .ref (ad 0)), (1, .int (nI j)), (3, .int (T 6 3))]) hx hb dX8_laws_60 hl (k := 1) rfl (nI_1 i) (by decide) rfl (fun ls hl => ?_)
            refine lv_goto (tgt := 23) hx hb dX8_laws_63 (by decide) ?_
            exact ih23 (i + 1) (nI i) ρ_4 _ (by omega) (by omega) (by rw [haa]; exact Int32.or_zero.trans (if_neg c_5).symm) _ _ _ hW (lv_sub hl [0, 1, 2, 3, 4] rfl)
          ·
            refine lv_iconst (v := 1) hx hb dX8_laws_49 (by decide) ?_
            refine lv_iload hx hb dX8_laws_50 (lv_at hl 0 rfl) ?_
            refine lv_ishl hx hb dX8_laws_52 ?_
            refine lv_goto (tgt := 57) hx hb dX8_laws_53 (by decide) ?_
            refine lv_ior hx hb dX8_laws_57 ?_
            refine lv_topi (fun v_6 ev_6 => ?_)
            refine lv_istore (lv' := [(4, .int v_6), (5, .int (nI i)), (0, .ref (ad 0)), (1, .int (nI j)), (3, .int (T 6 3))]) hx hb dX8_laws_58 hl (by decide) rfl (fun ls hl => ?_)
            refine lv_iinc (v := nI (i + 1)) (lv' := [(5, .int (nI (i + 1))), (4, .int v_6), (0, .ref (ad 0)), (1, .int (nI j)), (3, .int (T 6 3))]) hx hb dX8_laws_60 hl (k := 1) rfl (nI_1 i) (by decide) rfl (fun ls hl => ?_)
            refine lv_goto (tgt := 23) hx hb dX8_laws_63 (by decide) ?_
            exact ih23 (i + 1) (nI i) ρ_4 _ (by omega) (by omega) (by subst ev_6; rw [haa]; exact (if_pos c_5).symm) _ _ _ hW (lv_sub hl [0, 1, 2, 3, 4] rfl)
    exact L23 (n + 1) 0 (T 6 3) _ 0 (Nat.zero_le _) (by omega) (rfl) _ _ _ hW (lv_sub hl [0, 1, 4, 5, 2] rfl)
  ·
    refine lv_iload_n hx hb dX8_laws_10 rfl (lv_at hl 0 rfl) ?_
    exact hret v_1 ρ _ _ _ _ _ hW rfl rfl (by subst ev_1; unfold lawsP; rw [if_neg c_2]) dX8_laws_11
