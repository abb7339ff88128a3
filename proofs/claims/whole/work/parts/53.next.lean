/-! ===== the lexer's step ===== -/
def nxA (β : Nat → Int32) (z i : Nat) : Nat := if i < z then (if letS (β i) = 0 then (if digS (β i) = 0 then i + 1 else (numG β z 161 i 0).1) else letG β z 161 i) else i
def nxK (β : Nat → Int32) (z i : Nat) : Int32 := if i < z then (if letS (β i) = 0 then (if digS (β i) = 0 then sigS (β i) else if 4 < nI ((numG β z 161 i 0).1 - i) then 1 else 2) else wordF β i (letG β z 161 i) 12 0) else 0
def nxM (β : Nat → Int32) (z i : Nat) (m : Int32) : Int32 := if i < z then (if letS (β i) = 0 then (if digS (β i) = 0 then m else (numG β z 161 i 0).2) else m) else m
theorem nx_le (β : Nat → Int32) {z i : Nat} (h : i ≤ z) : i ≤ nxA β z i ∧ nxA β z i ≤ z := by
  unfold nxA
  by_cases h1 : i < z
  · rw [if_pos h1]
    by_cases h2 : letS (β i) = 0
    · rw [if_pos h2]
      by_cases h3 : digS (β i) = 0
      · rw [if_pos h3]; omega
      · rw [if_neg h3]; exact numG_le β z 161 i 0 h
    · rw [if_neg h2]; exact letG_le β z 161 i h
  · rw [if_neg h1]; exact ⟨Nat.le_refl _, h⟩
abbrev rm_yX5_wordToken : Room := { frames := 5, cells := 0, slots := 0, locals := 107 }
set_option maxHeartbeats 800000 in
set_option maxRecDepth 100000 in
theorem kX5_wordToken {l : Launch} {D : va_G} {cs : Nat → ClassId} {ad : Nat → Nat} {n : Nat} {ρ σ : Nat → Nat → Int32} {TT τ : Nat → Nat → Nat → Int32} {sz : Nat} {adK adV : Nat → Nat} {z a t : Nat} {k0 m0 : Int32} (hz : σ 1 1 = nI z) (hz1 : z ≤ 160) (haz : a ≤ z) (hta : t ≤ a) : XSi l yX5_wordToken cX5_wordToken 1 FieldType.int rm_yX5_wordToken [.ref (ad 1)] D cs ad n ρ TT τ (tpS σ (nI a) k0 (nI t) m0) sz adK adV (fun (r : Int32) (u : Nat → Nat → Int32) => r = wordF (σ 2) t (letG (σ 2) z 161 a) 12 0 ∧ u = tpS σ (nI (letG (σ 2) z 161 a)) k0 (nI t) m0) (fun u : Nat → Nat → Int32 => xent ad cs n ρ TT τ u) := by
  refine gw_stIs (Ff := fun u : Nat → Nat → Int32 => xent ad cs n ρ TT τ u) (own := RX5) (by decide +kernel) rfl (Nat.le_of_ble_eq_true rfl) ?_
  intro p e s m ar below meth c A Q F hE hsz hA hW hret ls hl
  obtain ⟨hx, hb, hml, hown, hts⟩ := id F
  have hl : lv_has ls 1 [(0, .ref (ad 1))] := hl
  generalize hR0 : letG (σ 2) z 161 a = RES
  have L0 : ∀ (k : Nat) (i f : Nat), (a ≤ i) → (i ≤ z) → (z + 1 ≤ i + k) → (z + 1 ≤ i + f) → (letG (σ 2) z f i = RES) → ∀ (H : Heap) (locs : List Loc) (ls : Array Slot), XW D cs ad n ρ TT τ (tpS σ (nI i) k0 (nI t) m0) A s s.heap H locs → lv_has ls 1 [(0, .ref (ad 1))] → W p l e rm_yX5_wordToken s m ar below meth c H locs 0 0 Q (F0 m 0 ls []) := by
    intro k
    induction k with
    | zero => intro i f h0 h1 h2 h3 hRR; exact absurd h2 (by omega)
    | succ k ih0 =>
      intro i f h0 h1 h2 h3 hRR H locs ls hW hl
      refine lv_aload_n hx hb dX5_wordToken_0 rfl (lv_at hl 0 rfl) ?_
      refine xr_P F hW 2 (by decide) rfl fl_RX5_19 dX5_wordToken_1 ?_
      refine lv_as (z := nI i) rfl ?_
      refine lv_aload_n hx hb dX5_wordToken_4 rfl (lv_at hl 0 rfl) ?_
      refine xr_P F hW 1 (by decide) rfl fl_RX5_15 dX5_wordToken_5 ?_
      refine lv_as (z := nI z) hz ?_
      refine lv_icmp_ge (tgt := 39) hx hb dX5_wordToken_8 (by decide) (fun c_1 => ?_) (fun c_1 => ?_)
      ·
        obtain ⟨f', rfl⟩ : ∃ x, f = x + 1 := ⟨f - 1, by omega⟩; have hge : ¬ i < z := (by have := mi_le c_1 (by omega) (by omega); omega); have hRE : RES = i := (by rw [← hRR]; exact if_neg hge)
        refine lv_aload_n hx hb dX5_wordToken_39 rfl (lv_at hl 0 rfl) ?_
        refine va_ldcS hx hb (own := RX5) (index := 49) (q := adK 0) (tx := "shy") hown (hE.2.2.2.2 0 (by decide)) dX5_wordToken_40 ?_
        refine gw_callVi (As := [.ref (adK 0)]) (rest := []) F hl.1 hW (xs_hE hE hA hsz hW) XS_E (by omega) xe_1 rfl (kX5_spells (adK := adK) (adV := adV) (σ := σ) (z := z) (a := i) (t := t) (i0 := 0) hz hz1 (by omega) (by omega) (by decide)) pd_yX5_spells ml_RX5_51 im_yX5_spells se_yX5_spells ini_RX5 cd_yX5_spells ⟨rfl, rfl⟩ ⟨Nat.le_of_ble_eq_true rfl, Nat.le_of_ble_eq_true rfl⟩ rfl rfl (Nat.le_of_ble_eq_true rfl) ⟨Nat.zero_le _, Nat.zero_le _⟩ dX5_wordToken_42 (fun r u H locs hp hW _ _ => ?_)
        subst hp
        refine lv_as (z := spS (σ 2) t i 0) rfl ?_
        refine lv_if_eq (tgt := 52) hx hb dX5_wordToken_45 (by decide) (fun c_2 => ?_) (fun c_2 => ?_)
        ·
          refine lv_aload_n hx hb dX5_wordToken_52 rfl (lv_at hl 0 rfl) ?_
          refine va_ldcS hx hb (own := RX5) (index := 55) (q := adK 1) (tx := "bored") hown (hE.2.2.2.2 1 (by decide)) dX5_wordToken_53 ?_
          refine gw_callVi (As := [.ref (adK 1)]) (rest := []) F hl.1 hW (xs_hE hE hA hsz hW) XS_E (by omega) xe_1 rfl (kX5_spells (adK := adK) (adV := adV) (σ := σ) (z := z) (a := i) (t := t) (i0 := 1) hz hz1 (by omega) (by omega) (by decide)) pd_yX5_spells ml_RX5_51 im_yX5_spells se_yX5_spells ini_RX5 cd_yX5_spells ⟨rfl, rfl⟩ ⟨Nat.le_of_ble_eq_true rfl, Nat.le_of_ble_eq_true rfl⟩ rfl rfl (Nat.le_of_ble_eq_true rfl) ⟨Nat.zero_le _, Nat.zero_le _⟩ dX5_wordToken_55 (fun r u H locs hp hW _ _ => ?_)
          subst hp
          refine lv_as (z := spS (σ 2) t i 1) rfl ?_
          refine lv_if_eq (tgt := 66) hx hb dX5_wordToken_58 (by decide) (fun c_3 => ?_) (fun c_3 => ?_)
          ·
            refine lv_aload_n hx hb dX5_wordToken_66 rfl (lv_at hl 0 rfl) ?_
            refine va_ldcS hx hb (own := RX5) (index := 57) (q := adK 2) (tx := "ate") hown (hE.2.2.2.2 2 (by decide)) dX5_wordToken_67 ?_
            refine gw_callVi (As := [.ref (adK 2)]) (rest := []) F hl.1 hW (xs_hE hE hA hsz hW) XS_E (by omega) xe_1 rfl (kX5_spells (adK := adK) (adV := adV) (σ := σ) (z := z) (a := i) (t := t) (i0 := 2) hz hz1 (by omega) (by omega) (by decide)) pd_yX5_spells ml_RX5_51 im_yX5_spells se_yX5_spells ini_RX5 cd_yX5_spells ⟨rfl, rfl⟩ ⟨Nat.le_of_ble_eq_true rfl, Nat.le_of_ble_eq_true rfl⟩ rfl rfl (Nat.le_of_ble_eq_true rfl) ⟨Nat.zero_le _, Nat.zero_le _⟩ dX5_wordToken_69 (fun r u H locs hp hW _ _ => ?_)
            subst hp
            refine lv_as (z := spS (σ 2) t i 2) rfl ?_
            refine lv_if_eq (tgt := 80) hx hb dX5_wordToken_72 (by decide) (fun c_4 => ?_) (fun c_4 => ?_)
            ·
              refine lv_aload_n hx hb dX5_wordToken_80 rfl (lv_at hl 0 rfl) ?_
              refine va_ldcS hx hb (own := RX5) (index := 59) (q := adK 3) (tx := "minute") hown (hE.2.2.2.2 3 (by decide)) dX5_wordToken_81 ?_
              refine gw_callVi (As := [.ref (adK 3)]) (rest := []) F hl.1 hW (xs_hE hE hA hsz hW) XS_E (by omega) xe_1 rfl (kX5_spells (adK := adK) (adV := adV) (σ := σ) (z := z) (a := i) (t := t) (i0 := 3) hz hz1 (by omega) (by omega) (by decide)) pd_yX5_spells ml_RX5_51 im_yX5_spells se_yX5_spells ini_RX5 cd_yX5_spells ⟨rfl, rfl⟩ ⟨Nat.le_of_ble_eq_true rfl, Nat.le_of_ble_eq_true rfl⟩ rfl rfl (Nat.le_of_ble_eq_true rfl) ⟨Nat.zero_le _, Nat.zero_le _⟩ dX5_wordToken_83 (fun r u H locs hp hW _ _ => ?_)
              subst hp
              refine lv_as (z := spS (σ 2) t i 3) rfl ?_
              refine lv_if_eq (tgt := 94) hx hb dX5_wordToken_86 (by decide) (fun c_5 => ?_) (fun c_5 => ?_)
              ·
                refine lv_aload_n hx hb dX5_wordToken_94 rfl (lv_at hl 0 rfl) ?_
                refine va_ldcS hx hb (own := RX5) (index := 61) (q := adK 4) (tx := "wrongs") hown (hE.2.2.2.2 4 (by decide)) dX5_wordToken_95 ?_
                refine gw_callVi (As := [.ref (adK 4)]) (rest := []) F hl.1 hW (xs_hE hE hA hsz hW) XS_E (by omega) xe_1 rfl (kX5_spells (adK := adK) (adV := adV) (σ := σ) (z := z) (a := i) (t := t) (i0 := 4) hz hz1 (by omega) (by omega) (by decide)) pd_yX5_spells ml_RX5_51 im_yX5_spells se_yX5_spells ini_RX5 cd_yX5_spells ⟨rfl, rfl⟩ ⟨Nat.le_of_ble_eq_true rfl, Nat.le_of_ble_eq_true rfl⟩ rfl rfl (Nat.le_of_ble_eq_true rfl) ⟨Nat.zero_le _, Nat.zero_le _⟩ dX5_wordToken_97 (fun r u H locs hp hW _ _ => ?_)
                subst hp
                refine lv_as (z := spS (σ 2) t i 4) rfl ?_
                refine lv_if_eq (tgt := 108) hx hb dX5_wordToken_100 (by decide) (fun c_6 => ?_) (fun c_6 => ?_)
                ·
                  refine lv_aload_n hx hb dX5_wordToken_108 rfl (lv_at hl 0 rfl) ?_
                  refine va_ldcS hx hb (own := RX5) (index := 63) (q := adK 5) (tx := "more") hown (hE.2.2.2.2 5 (by decide)) dX5_wordToken_109 ?_
                  refine gw_callVi (As := [.ref (adK 5)]) (rest := []) F hl.1 hW (xs_hE hE hA hsz hW) XS_E (by omega) xe_1 rfl (kX5_spells (adK := adK) (adV := adV) (σ := σ) (z := z) (a := i) (t := t) (i0 := 5) hz hz1 (by omega) (by omega) (by decide)) pd_yX5_spells ml_RX5_51 im_yX5_spells se_yX5_spells ini_RX5 cd_yX5_spells ⟨rfl, rfl⟩ ⟨Nat.le_of_ble_eq_true rfl, Nat.le_of_ble_eq_true rfl⟩ rfl rfl (Nat.le_of_ble_eq_true rfl) ⟨Nat.zero_le _, Nat.zero_le _⟩ dX5_wordToken_111 (fun r u H locs hp hW _ _ => ?_)
                  subst hp
                  refine lv_as (z := spS (σ 2) t i 5) rfl ?_
                  refine lv_if_eq (tgt := 122) hx hb dX5_wordToken_114 (by decide) (fun c_7 => ?_) (fun c_7 => ?_)
                  ·
                    refine lv_aload_n hx hb dX5_wordToken_122 rfl (lv_at hl 0 rfl) ?_
                    refine va_ldcS hx hb (own := RX5) (index := 65) (q := adK 6) (tx := "or") hown (hE.2.2.2.2 6 (by decide)) dX5_wordToken_123 ?_
                    refine gw_callVi (As := [.ref (adK 6)]) (rest := []) F hl.1 hW (xs_hE hE hA hsz hW) XS_E (by omega) xe_1 rfl (kX5_spells (adK := adK) (adV := adV) (σ := σ) (z := z) (a := i) (t := t) (i0 := 6) hz hz1 (by omega) (by omega) (by decide)) pd_yX5_spells ml_RX5_51 im_yX5_spells se_yX5_spells ini_RX5 cd_yX5_spells ⟨rfl, rfl⟩ ⟨Nat.le_of_ble_eq_true rfl, Nat.le_of_ble_eq_true rfl⟩ rfl rfl (Nat.le_of_ble_eq_true rfl) ⟨Nat.zero_le _, Nat.zero_le _⟩ dX5_wordToken_125 (fun r u H locs hp hW _ _ => ?_)
                    subst hp
                    refine lv_as (z := spS (σ 2) t i 6) rfl ?_
                    refine lv_if_eq (tgt := 136) hx hb dX5_wordToken_128 (by decide) (fun c_8 => ?_) (fun c_8 => ?_)
                    ·
                      refine lv_aload_n hx hb dX5_wordToken_136 rfl (lv_at hl 0 rfl) ?_
                      refine va_ldcS hx hb (own := RX5) (index := 67) (q := adK 7) (tx := "and") hown (hE.2.2.2.2 7 (by decide)) dX5_wordToken_137 ?_
                      refine gw_callVi (As := [.ref (adK 7)]) (rest := []) F hl.1 hW (xs_hE hE hA hsz hW) XS_E (by omega) xe_1 rfl (kX5_spells (adK := adK) (adV := adV) (σ := σ) (z := z) (a := i) (t := t) (i0 := 7) hz hz1 (by omega) (by omega) (by decide)) pd_yX5_spells ml_RX5_51 im_yX5_spells se_yX5_spells ini_RX5 cd_yX5_spells ⟨rfl, rfl⟩ ⟨Nat.le_of_ble_eq_true rfl, Nat.le_of_ble_eq_true rfl⟩ rfl rfl (Nat.le_of_ble_eq_true rfl) ⟨Nat.zero_le _, Nat.zero_le _⟩ dX5_wordToken_139 (fun r u H locs hp hW _ _ => ?_)
                      subst hp
                      refine lv_as (z := spS (σ 2) t i 7) rfl ?_
                      refine lv_if_eq (tgt := 150) hx hb dX5_wordToken_142 (by decide) (fun c_9 => ?_) (fun c_9 => ?_)
                      ·
                        refine lv_aload_n hx hb dX5_wordToken_150 rfl (lv_at hl 0 rfl) ?_
                        refine va_ldcS hx hb (own := RX5) (index := 69) (q := adK 8) (tx := "not") hown (hE.2.2.2.2 8 (by decide)) dX5_wordToken_151 ?_
                        refine gw_callVi (As := [.ref (adK 8)]) (rest := []) F hl.1 hW (xs_hE hE hA hsz hW) XS_E (by omega) xe_1 rfl (kX5_spells (adK := adK) (adV := adV) (σ := σ) (z := z) (a := i) (t := t) (i0 := 8) hz hz1 (by omega) (by omega) (by decide)) pd_yX5_spells ml_RX5_51 im_yX5_spells se_yX5_spells ini_RX5 cd_yX5_spells ⟨rfl, rfl⟩ ⟨Nat.le_of_ble_eq_true rfl, Nat.le_of_ble_eq_true rfl⟩ rfl rfl (Nat.le_of_ble_eq_true rfl) ⟨Nat.zero_le _, Nat.zero_le _⟩ dX5_wordToken_153 (fun r u H locs hp hW _ _ => ?_)
                        subst hp
                        refine lv_as (z := spS (σ 2) t i 8) rfl ?_
                        refine lv_if_eq (tgt := 164) hx hb dX5_wordToken_156 (by decide) (fun c_10 => ?_) (fun c_10 => ?_)
                        ·
                          refine lv_aload_n hx hb dX5_wordToken_164 rfl (lv_at hl 0 rfl) ?_
                          refine va_ldcS hx hb (own := RX5) (index := 71) (q := adK 9) (tx := "dares") hown (hE.2.2.2.2 9 (by decide)) dX5_wordToken_165 ?_
                          refine gw_callVi (As := [.ref (adK 9)]) (rest := []) F hl.1 hW (xs_hE hE hA hsz hW) XS_E (by omega) xe_1 rfl (kX5_spells (adK := adK) (adV := adV) (σ := σ) (z := z) (a := i) (t := t) (i0 := 9) hz hz1 (by omega) (by omega) (by decide)) pd_yX5_spells ml_RX5_51 im_yX5_spells se_yX5_spells ini_RX5 cd_yX5_spells ⟨rfl, rfl⟩ ⟨Nat.le_of_ble_eq_true rfl, Nat.le_of_ble_eq_true rfl⟩ rfl rfl (Nat.le_of_ble_eq_true rfl) ⟨Nat.zero_le _, Nat.zero_le _⟩ dX5_wordToken_167 (fun r u H locs hp hW _ _ => ?_)
                          subst hp
                          refine lv_as (z := spS (σ 2) t i 9) rfl ?_
                          refine lv_if_eq (tgt := 178) hx hb dX5_wordToken_170 (by decide) (fun c_11 => ?_) (fun c_11 => ?_)
                          ·
                            refine lv_aload_n hx hb dX5_wordToken_178 rfl (lv_at hl 0 rfl) ?_
                            refine va_ldcS hx hb (own := RX5) (index := 73) (q := adK 10) (tx := "eats") hown (hE.2.2.2.2 10 (by decide)) dX5_wordToken_179 ?_
                            refine gw_callVi (As := [.ref (adK 10)]) (rest := []) F hl.1 hW (xs_hE hE hA hsz hW) XS_E (by omega) xe_1 rfl (kX5_spells (adK := adK) (adV := adV) (σ := σ) (z := z) (a := i) (t := t) (i0 := 10) hz hz1 (by omega) (by omega) (by decide)) pd_yX5_spells ml_RX5_51 im_yX5_spells se_yX5_spells ini_RX5 cd_yX5_spells ⟨rfl, rfl⟩ ⟨Nat.le_of_ble_eq_true rfl, Nat.le_of_ble_eq_true rfl⟩ rfl rfl (Nat.le_of_ble_eq_true rfl) ⟨Nat.zero_le _, Nat.zero_le _⟩ dX5_wordToken_181 (fun r u H locs hp hW _ _ => ?_)
                            subst hp
                            refine lv_as (z := spS (σ 2) t i 10) rfl ?_
                            refine lv_if_eq (tgt := 192) hx hb dX5_wordToken_184 (by decide) (fun c_12 => ?_) (fun c_12 => ?_)
                            ·
                              refine lv_aload_n hx hb dX5_wordToken_192 rfl (lv_at hl 0 rfl) ?_
                              refine va_ldcS hx hb (own := RX5) (index := 75) (q := adK 11) (tx := "tells") hown (hE.2.2.2.2 11 (by decide)) dX5_wordToken_193 ?_
                              refine gw_callVi (As := [.ref (adK 11)]) (rest := []) F hl.1 hW (xs_hE hE hA hsz hW) XS_E (by omega) xe_1 rfl (kX5_spells (adK := adK) (adV := adV) (σ := σ) (z := z) (a := i) (t := t) (i0 := 11) hz hz1 (by omega) (by omega) (by decide)) pd_yX5_spells ml_RX5_51 im_yX5_spells se_yX5_spells ini_RX5 cd_yX5_spells ⟨rfl, rfl⟩ ⟨Nat.le_of_ble_eq_true rfl, Nat.le_of_ble_eq_true rfl⟩ rfl rfl (Nat.le_of_ble_eq_true rfl) ⟨Nat.zero_le _, Nat.zero_le _⟩ dX5_wordToken_195 (fun r u H locs hp hW _ _ => ?_)
                              subst hp
                              refine lv_as (z := spS (σ 2) t i 11) rfl ?_
                              refine lv_if_eq (tgt := 206) hx hb dX5_wordToken_198 (by decide) (fun c_13 => ?_) (fun c_13 => ?_)
                              ·
                                refine lv_iconst (v := 1) hx hb dX5_wordToken_206 (by decide) ?_
                                exact hret 1 (tpS σ (nI i) k0 (nI t) m0) _ _ _ _ _ hW rfl rfl (by rw [hR0, hRE]; exact ⟨((wordF_n (f := 11) (i := 0) c_2).trans ((wordF_n (f := 10) (i := 1) c_3).trans ((wordF_n (f := 9) (i := 2) c_4).trans ((wordF_n (f := 8) (i := 3) c_5).trans ((wordF_n (f := 7) (i := 4) c_6).trans ((wordF_n (f := 6) (i := 5) c_7).trans ((wordF_n (f := 5) (i := 6) c_8).trans ((wordF_n (f := 4) (i := 7) c_9).trans ((wordF_n (f := 3) (i := 8) c_10).trans ((wordF_n (f := 2) (i := 9) c_11).trans ((wordF_n (f := 1) (i := 10) c_12).trans ((wordF_n (f := 0) (i := 11) c_13).trans rfl)))))))))))).symm, rfl⟩) dX5_wordToken_207
                              ·
                                refine lv_bipush (v := (-12)) hx hb dX5_wordToken_201 (by decide) ?_
                                refine lv_goto (tgt := 207) hx hb dX5_wordToken_203 (by decide) ?_
                                exact hret (-12) (tpS σ (nI i) k0 (nI t) m0) _ _ _ _ _ hW rfl rfl (by rw [hR0, hRE]; exact ⟨((wordF_n (f := 11) (i := 0) c_2).trans ((wordF_n (f := 10) (i := 1) c_3).trans ((wordF_n (f := 9) (i := 2) c_4).trans ((wordF_n (f := 8) (i := 3) c_5).trans ((wordF_n (f := 7) (i := 4) c_6).trans ((wordF_n (f := 6) (i := 5) c_7).trans ((wordF_n (f := 5) (i := 6) c_8).trans ((wordF_n (f := 4) (i := 7) c_9).trans ((wordF_n (f := 3) (i := 8) c_10).trans ((wordF_n (f := 2) (i := 9) c_11).trans ((wordF_n (f := 1) (i := 10) c_12).trans ((wordF_y (f := 0) (i := 11) c_13).trans (by decide))))))))))))).symm, rfl⟩) dX5_wordToken_207
                            ·
                              refine lv_bipush (v := (-11)) hx hb dX5_wordToken_187 (by decide) ?_
                              refine lv_goto (tgt := 207) hx hb dX5_wordToken_189 (by decide) ?_
                              exact hret (-11) (tpS σ (nI i) k0 (nI t) m0) _ _ _ _ _ hW rfl rfl (by rw [hR0, hRE]; exact ⟨((wordF_n (f := 11) (i := 0) c_2).trans ((wordF_n (f := 10) (i := 1) c_3).trans ((wordF_n (f := 9) (i := 2) c_4).trans ((wordF_n (f := 8) (i := 3) c_5).trans ((wordF_n (f := 7) (i := 4) c_6).trans ((wordF_n (f := 6) (i := 5) c_7).trans ((wordF_n (f := 5) (i := 6) c_8).trans ((wordF_n (f := 4) (i := 7) c_9).trans ((wordF_n (f := 3) (i := 8) c_10).trans ((wordF_n (f := 2) (i := 9) c_11).trans ((wordF_y (f := 1) (i := 10) c_12).trans (by decide)))))))))))).symm, rfl⟩) dX5_wordToken_207
                          ·
                            refine lv_bipush (v := (-10)) hx hb dX5_wordToken_173 (by decide) ?_
                            refine lv_goto (tgt := 207) hx hb dX5_wordToken_175 (by decide) ?_
                            exact hret (-10) (tpS σ (nI i) k0 (nI t) m0) _ _ _ _ _ hW rfl rfl (by rw [hR0, hRE]; exact ⟨((wordF_n (f := 11) (i := 0) c_2).trans ((wordF_n (f := 10) (i := 1) c_3).trans ((wordF_n (f := 9) (i := 2) c_4).trans ((wordF_n (f := 8) (i := 3) c_5).trans ((wordF_n (f := 7) (i := 4) c_6).trans ((wordF_n (f := 6) (i := 5) c_7).trans ((wordF_n (f := 5) (i := 6) c_8).trans ((wordF_n (f := 4) (i := 7) c_9).trans ((wordF_n (f := 3) (i := 8) c_10).trans ((wordF_y (f := 2) (i := 9) c_11).trans (by decide))))))))))).symm, rfl⟩) dX5_wordToken_207
                        ·
                          refine lv_bipush (v := (-9)) hx hb dX5_wordToken_159 (by decide) ?_
                          refine lv_goto (tgt := 207) hx hb dX5_wordToken_161 (by decide) ?_
                          exact hret (-9) (tpS σ (nI i) k0 (nI t) m0) _ _ _ _ _ hW rfl rfl (by rw [hR0, hRE]; exact ⟨((wordF_n (f := 11) (i := 0) c_2).trans ((wordF_n (f := 10) (i := 1) c_3).trans ((wordF_n (f := 9) (i := 2) c_4).trans ((wordF_n (f := 8) (i := 3) c_5).trans ((wordF_n (f := 7) (i := 4) c_6).trans ((wordF_n (f := 6) (i := 5) c_7).trans ((wordF_n (f := 5) (i := 6) c_8).trans ((wordF_n (f := 4) (i := 7) c_9).trans ((wordF_y (f := 3) (i := 8) c_10).trans (by decide)))))))))).symm, rfl⟩) dX5_wordToken_207
                      ·
                        refine lv_bipush (v := (-8)) hx hb dX5_wordToken_145 (by decide) ?_
                        refine lv_goto (tgt := 207) hx hb dX5_wordToken_147 (by decide) ?_
                        exact hret (-8) (tpS σ (nI i) k0 (nI t) m0) _ _ _ _ _ hW rfl rfl (by rw [hR0, hRE]; exact ⟨((wordF_n (f := 11) (i := 0) c_2).trans ((wordF_n (f := 10) (i := 1) c_3).trans ((wordF_n (f := 9) (i := 2) c_4).trans ((wordF_n (f := 8) (i := 3) c_5).trans ((wordF_n (f := 7) (i := 4) c_6).trans ((wordF_n (f := 6) (i := 5) c_7).trans ((wordF_n (f := 5) (i := 6) c_8).trans ((wordF_y (f := 4) (i := 7) c_9).trans (by decide))))))))).symm, rfl⟩) dX5_wordToken_207
                    ·
                      refine lv_bipush (v := (-7)) hx hb dX5_wordToken_131 (by decide) ?_
                      refine lv_goto (tgt := 207) hx hb dX5_wordToken_133 (by decide) ?_
                      exact hret (-7) (tpS σ (nI i) k0 (nI t) m0) _ _ _ _ _ hW rfl rfl (by rw [hR0, hRE]; exact ⟨((wordF_n (f := 11) (i := 0) c_2).trans ((wordF_n (f := 10) (i := 1) c_3).trans ((wordF_n (f := 9) (i := 2) c_4).trans ((wordF_n (f := 8) (i := 3) c_5).trans ((wordF_n (f := 7) (i := 4) c_6).trans ((wordF_n (f := 6) (i := 5) c_7).trans ((wordF_y (f := 5) (i := 6) c_8).trans (by decide)))))))).symm, rfl⟩) dX5_wordToken_207
                  ·
                    refine lv_bipush (v := (-6)) hx hb dX5_wordToken_117 (by decide) ?_
                    refine lv_goto (tgt := 207) hx hb dX5_wordToken_119 (by decide) ?_
                    exact hret (-6) (tpS σ (nI i) k0 (nI t) m0) _ _ _ _ _ hW rfl rfl (by rw [hR0, hRE]; exact ⟨((wordF_n (f := 11) (i := 0) c_2).trans ((wordF_n (f := 10) (i := 1) c_3).trans ((wordF_n (f := 9) (i := 2) c_4).trans ((wordF_n (f := 8) (i := 3) c_5).trans ((wordF_n (f := 7) (i := 4) c_6).trans ((wordF_y (f := 6) (i := 5) c_7).trans (by decide))))))).symm, rfl⟩) dX5_wordToken_207
                ·
                  refine lv_bipush (v := (-5)) hx hb dX5_wordToken_103 (by decide) ?_
                  refine lv_goto (tgt := 207) hx hb dX5_wordToken_105 (by decide) ?_
                  exact hret (-5) (tpS σ (nI i) k0 (nI t) m0) _ _ _ _ _ hW rfl rfl (by rw [hR0, hRE]; exact ⟨((wordF_n (f := 11) (i := 0) c_2).trans ((wordF_n (f := 10) (i := 1) c_3).trans ((wordF_n (f := 9) (i := 2) c_4).trans ((wordF_n (f := 8) (i := 3) c_5).trans ((wordF_y (f := 7) (i := 4) c_6).trans (by decide)))))).symm, rfl⟩) dX5_wordToken_207
              ·
                refine lv_bipush (v := (-4)) hx hb dX5_wordToken_89 (by decide) ?_
                refine lv_goto (tgt := 207) hx hb dX5_wordToken_91 (by decide) ?_
                exact hret (-4) (tpS σ (nI i) k0 (nI t) m0) _ _ _ _ _ hW rfl rfl (by rw [hR0, hRE]; exact ⟨((wordF_n (f := 11) (i := 0) c_2).trans ((wordF_n (f := 10) (i := 1) c_3).trans ((wordF_n (f := 9) (i := 2) c_4).trans ((wordF_y (f := 8) (i := 3) c_5).trans (by decide))))).symm, rfl⟩) dX5_wordToken_207
            ·
              refine lv_bipush (v := (-3)) hx hb dX5_wordToken_75 (by decide) ?_
              refine lv_goto (tgt := 207) hx hb dX5_wordToken_77 (by decide) ?_
              exact hret (-3) (tpS σ (nI i) k0 (nI t) m0) _ _ _ _ _ hW rfl rfl (by rw [hR0, hRE]; exact ⟨((wordF_n (f := 11) (i := 0) c_2).trans ((wordF_n (f := 10) (i := 1) c_3).trans ((wordF_y (f := 9) (i := 2) c_4).trans (by decide)))).symm, rfl⟩) dX5_wordToken_207
          ·
            refine lv_bipush (v := (-2)) hx hb dX5_wordToken_61 (by decide) ?_
            refine lv_goto (tgt := 207) hx hb dX5_wordToken_63 (by decide) ?_
            exact hret (-2) (tpS σ (nI i) k0 (nI t) m0) _ _ _ _ _ hW rfl rfl (by rw [hR0, hRE]; exact ⟨((wordF_n (f := 11) (i := 0) c_2).trans ((wordF_y (f := 10) (i := 1) c_3).trans (by decide))).symm, rfl⟩) dX5_wordToken_207
        ·
          refine lv_iconst (v := (-1)) hx hb dX5_wordToken_48 (by decide) ?_
          refine lv_goto (tgt := 207) hx hb dX5_wordToken_49 (by decide) ?_
          exact hret (-1) (tpS σ (nI i) k0 (nI t) m0) _ _ _ _ _ hW rfl rfl (by rw [hR0, hRE]; exact ⟨((wordF_y (f := 11) (i := 0) c_2).trans (by decide)).symm, rfl⟩) dX5_wordToken_207
      ·
        obtain ⟨f', rfl⟩ : ∃ x, f = x + 1 := ⟨f - 1, by omega⟩; have hlt : i < z := mi_nle c_1 (by omega) (by omega)
        refine lv_aload_n hx hb dX5_wordToken_11 rfl (lv_at hl 0 rfl) ?_
        refine xr_P F hW 0 (by decide) rfl fl_RX5_9 dX5_wordToken_12 ?_
        refine lv_aload_n hx hb dX5_wordToken_15 rfl (lv_at hl 0 rfl) ?_
        refine xr_P F hW 2 (by decide) rfl fl_RX5_19 dX5_wordToken_16 ?_
        refine lv_as (z := nI i) rfl ?_
        refine xr_Be F hW (vp_in_nI (by omega) (by decide)) dX5_wordToken_19 ?_
        refine lv_as (z := σ 2 i) (by rw [nI_clamp (by omega)]; rfl) ?_
        refine gw_callP (As := [.int (σ 2 i)]) (rest := []) F hl.1 (kX5_isLetter) pd_yX5_isLetter ml_RX5_31 st_yX5_isLetter ini_RX5 cd_yX5_isLetter ⟨rfl, rfl⟩ ⟨Nat.le_of_ble_eq_true rfl, Nat.le_of_ble_eq_true rfl⟩ rfl rfl (Nat.le_of_ble_eq_true rfl) ⟨Nat.zero_le _, Nat.zero_le _⟩ dX5_wordToken_20 ?_
        refine lv_as (z := letS (σ 2 i)) rfl ?_
        refine lv_if_eq (tgt := 39) hx hb dX5_wordToken_23 (by decide) (fun c_14 => ?_) (fun c_14 => ?_)
        ·
          have hRE : RES = i := by rw [← hRR]; exact (if_pos hlt).trans (if_pos c_14)
          refine lv_aload_n hx hb dX5_wordToken_39 rfl (lv_at hl 0 rfl) ?_
          refine va_ldcS hx hb (own := RX5) (index := 49) (q := adK 0) (tx := "shy") hown (hE.2.2.2.2 0 (by decide)) dX5_wordToken_40 ?_
          refine gw_callVi (As := [.ref (adK 0)]) (rest := []) F hl.1 hW (xs_hE hE hA hsz hW) XS_E (by omega) xe_1 rfl (kX5_spells (adK := adK) (adV := adV) (σ := σ) (z := z) (a := i) (t := t) (i0 := 0) hz hz1 (by omega) (by omega) (by decide)) pd_yX5_spells ml_RX5_51 im_yX5_spells se_yX5_spells ini_RX5 cd_yX5_spells ⟨rfl, rfl⟩ ⟨Nat.le_of_ble_eq_true rfl, Nat.le_of_ble_eq_true rfl⟩ rfl rfl (Nat.le_of_ble_eq_true rfl) ⟨Nat.zero_le _, Nat.zero_le _⟩ dX5_wordToken_42 (fun r u H locs hp hW _ _ => ?_)
          subst hp
          refine lv_as (z := spS (σ 2) t i 0) rfl ?_
          refine lv_if_eq (tgt := 52) hx hb dX5_wordToken_45 (by decide) (fun c_15 => ?_) (fun c_15 => ?_)
          ·
            refine lv_aload_n hx hb dX5_wordToken_52 rfl (lv_at hl 0 rfl) ?_
            refine va_ldcS hx hb (own := RX5) (index := 55) (q := adK 1) (tx := "bored") hown (hE.2.2.2.2 1 (by decide)) dX5_wordToken_53 ?_
            refine gw_callVi (As := [.ref (adK 1)]) (rest := []) F hl.1 hW (xs_hE hE hA hsz hW) XS_E (by omega) xe_1 rfl (kX5_spells (adK := adK) (adV := adV) (σ := σ) (z := z) (a := i) (t := t) (i0 := 1) hz hz1 (by omega) (by omega) (by decide)) pd_yX5_spells ml_RX5_51 im_yX5_spells se_yX5_spells ini_RX5 cd_yX5_spells ⟨rfl, rfl⟩ ⟨Nat.le_of_ble_eq_true rfl, Nat.le_of_ble_eq_true rfl⟩ rfl rfl (Nat.le_of_ble_eq_true rfl) ⟨Nat.zero_le _, Nat.zero_le _⟩ dX5_wordToken_55 (fun r u H locs hp hW _ _ => ?_)
            subst hp
            refine lv_as (z := spS (σ 2) t i 1) rfl ?_
            refine lv_if_eq (tgt := 66) hx hb dX5_wordToken_58 (by decide) (fun c_16 => ?_) (fun c_16 => ?_)
            ·
              refine lv_aload_n hx hb dX5_wordToken_66 rfl (lv_at hl 0 rfl) ?_
              refine va_ldcS hx hb (own := RX5) (index := 57) (q := adK 2) (tx := "ate") hown (hE.2.2.2.2 2 (by decide)) dX5_wordToken_67 ?_
              refine gw_callVi (As := [.ref (adK 2)]) (rest := []) F hl.1 hW (xs_hE hE hA hsz hW) XS_E (by omega) xe_1 rfl (kX5_spells (adK := adK) (adV := adV) (σ := σ) (z := z) (a := i) (t := t) (i0 := 2) hz hz1 (by omega) (by omega) (by decide)) pd_yX5_spells ml_RX5_51 im_yX5_spells se_yX5_spells ini_RX5 cd_yX5_spells ⟨rfl, rfl⟩ ⟨Nat.le_of_ble_eq_true rfl, Nat.le_of_ble_eq_true rfl⟩ rfl rfl (Nat.le_of_ble_eq_true rfl) ⟨Nat.zero_le _, Nat.zero_le _⟩ dX5_wordToken_69 (fun r u H locs hp hW _ _ => ?_)
              subst hp
              refine lv_as (z := spS (σ 2) t i 2) rfl ?_
              refine lv_if_eq (tgt := 80) hx hb dX5_wordToken_72 (by decide) (fun c_17 => ?_) (fun c_17 => ?_)
              ·
                refine lv_aload_n hx hb dX5_wordToken_80 rfl (lv_at hl 0 rfl) ?_
                refine va_ldcS hx hb (own := RX5) (index := 59) (q := adK 3) (tx := "minute") hown (hE.2.2.2.2 3 (by decide)) dX5_wordToken_81 ?_
                refine gw_callVi (As := [.ref (adK 3)]) (rest := []) F hl.1 hW (xs_hE hE hA hsz hW) XS_E (by omega) xe_1 rfl (kX5_spells (adK := adK) (adV := adV) (σ := σ) (z := z) (a := i) (t := t) (i0 := 3) hz hz1 (by omega) (by omega) (by decide)) pd_yX5_spells ml_RX5_51 im_yX5_spells se_yX5_spells ini_RX5 cd_yX5_spells ⟨rfl, rfl⟩ ⟨Nat.le_of_ble_eq_true rfl, Nat.le_of_ble_eq_true rfl⟩ rfl rfl (Nat.le_of_ble_eq_true rfl) ⟨Nat.zero_le _, Nat.zero_le _⟩ dX5_wordToken_83 (fun r u H locs hp hW _ _ => ?_)
                subst hp
                refine lv_as (z := spS (σ 2) t i 3) rfl ?_
                refine lv_if_eq (tgt := 94) hx hb dX5_wordToken_86 (by decide) (fun c_18 => ?_) (fun c_18 => ?_)
                ·
                  refine lv_aload_n hx hb dX5_wordToken_94 rfl (lv_at hl 0 rfl) ?_
                  refine va_ldcS hx hb (own := RX5) (index := 61) (q := adK 4) (tx := "wrongs") hown (hE.2.2.2.2 4 (by decide)) dX5_wordToken_95 ?_
                  refine gw_callVi (As := [.ref (adK 4)]) (rest := []) F hl.1 hW (xs_hE hE hA hsz hW) XS_E (by omega) xe_1 rfl (kX5_spells (adK := adK) (adV := adV) (σ := σ) (z := z) (a := i) (t := t) (i0 := 4) hz hz1 (by omega) (by omega) (by decide)) pd_yX5_spells ml_RX5_51 im_yX5_spells se_yX5_spells ini_RX5 cd_yX5_spells ⟨rfl, rfl⟩ ⟨Nat.le_of_ble_eq_true rfl, Nat.le_of_ble_eq_true rfl⟩ rfl rfl (Nat.le_of_ble_eq_true rfl) ⟨Nat.zero_le _, Nat.zero_le _⟩ dX5_wordToken_97 (fun r u H locs hp hW _ _ => ?_)
                  subst hp
                  refine lv_as (z := spS (σ 2) t i 4) rfl ?_
                  refine lv_if_eq (tgt := 108) hx hb dX5_wordToken_100 (by decide) (fun c_19 => ?_) (fun c_19 => ?_)
                  ·
                    refine lv_aload_n hx hb dX5_wordToken_108 rfl (lv_at hl 0 rfl) ?_
                    refine va_ldcS hx hb (own := RX5) (index := 63) (q := adK 5) (tx := "more") hown (hE.2.2.2.2 5 (by decide)) dX5_wordToken_109 ?_
                    refine gw_callVi (As := [.ref (adK 5)]) (rest := []) F hl.1 hW (xs_hE hE hA hsz hW) XS_E (by omega) xe_1 rfl (kX5_spells (adK := adK) (adV := adV) (σ := σ) (z := z) (a := i) (t := t) (i0 := 5) hz hz1 (by omega) (by omega) (by decide)) pd_yX5_spells ml_RX5_51 im_yX5_spells se_yX5_spells ini_RX5 cd_yX5_spells ⟨rfl, rfl⟩ ⟨Nat.le_of_ble_eq_true rfl, Nat.le_of_ble_eq_true rfl⟩ rfl rfl (Nat.le_of_ble_eq_true rfl) ⟨Nat.zero_le _, Nat.zero_le _⟩ dX5_wordToken_111 (fun r u H locs hp hW _ _ => ?_)
                    subst hp
                    refine lv_as (z := spS (σ 2) t i 5) rfl ?_
                    refine lv_if_eq (tgt := 122) hx hb dX5_wordToken_114 (by decide) (fun c_20 => ?_) (fun c_20 => ?_)
                    ·
                      refine lv_aload_n hx hb dX5_wordToken_122 rfl (lv_at hl 0 rfl) ?_
                      refine va_ldcS hx hb (own := RX5) (index := 65) (q := adK 6) (tx := "or") hown (hE.2.2.2.2 6 (by decide)) dX5_wordToken_123 ?_
                      refine gw_callVi (As := [.ref (adK 6)]) (rest := []) F hl.1 hW (xs_hE hE hA hsz hW) XS_E (by omega) xe_1 rfl (kX5_spells (adK := adK) (adV := adV) (σ := σ) (z := z) (a := i) (t := t) (i0 := 6) hz hz1 (by omega) (by omega) (by decide)) pd_yX5_spells ml_RX5_51 im_yX5_spells se_yX5_spells ini_RX5 cd_yX5_spells ⟨rfl, rfl⟩ ⟨Nat.le_of_ble_eq_true rfl, Nat.le_of_ble_eq_true rfl⟩ rfl rfl (Nat.le_of_ble_eq_true rfl) ⟨Nat.zero_le _, Nat.zero_le _⟩ dX5_wordToken_125 (fun r u H locs hp hW _ _ => ?_)
                      subst hp
                      refine lv_as (z := spS (σ 2) t i 6) rfl ?_
                      refine lv_if_eq (tgt := 136) hx hb dX5_wordToken_128 (by decide) (fun c_21 => ?_) (fun c_21 => ?_)
                      ·
                        refine lv_aload_n hx hb dX5_wordToken_136 rfl (lv_at hl 0 rfl) ?_
                        refine va_ldcS hx hb (own := RX5) (index := 67) (q := adK 7) (tx := "and") hown (hE.2.2.2.2 7 (by decide)) dX5_wordToken_137 ?_
                        refine gw_callVi (As := [.ref (adK 7)]) (rest := []) F hl.1 hW (xs_hE hE hA hsz hW) XS_E (by omega) xe_1 rfl (kX5_spells (adK := adK) (adV := adV) (σ := σ) (z := z) (a := i) (t := t) (i0 := 7) hz hz1 (by omega) (by omega) (by decide)) pd_yX5_spells ml_RX5_51 im_yX5_spells se_yX5_spells ini_RX5 cd_yX5_spells ⟨rfl, rfl⟩ ⟨Nat.le_of_ble_eq_true rfl, Nat.le_of_ble_eq_true rfl⟩ rfl rfl (Nat.le_of_ble_eq_true rfl) ⟨Nat.zero_le _, Nat.zero_le _⟩ dX5_wordToken_139 (fun r u H locs hp hW _ _ => ?_)
                        subst hp
                        refine lv_as (z := spS (σ 2) t i 7) rfl ?_
                        refine lv_if_eq (tgt := 150) hx hb dX5_wordToken_142 (by decide) (fun c_22 => ?_) (fun c_22 => ?_)
                        ·
                          refine lv_aload_n hx hb dX5_wordToken_150 rfl (lv_at hl 0 rfl) ?_
                          refine va_ldcS hx hb (own := RX5) (index := 69) (q := adK 8) (tx := "not") hown (hE.2.2.2.2 8 (by decide)) dX5_wordToken_151 ?_
                          refine gw_callVi (As := [.ref (adK 8)]) (rest := []) F hl.1 hW (xs_hE hE hA hsz hW) XS_E (by omega) xe_1 rfl (kX5_spells (adK := adK) (adV := adV) (σ := σ) (z := z) (a := i) (t := t) (i0 := 8) hz hz1 (by omega) (by omega) (by decide)) pd_yX5_spells ml_RX5_51 im_yX5_spells se_yX5_spells ini_RX5 cd_yX5_spells ⟨rfl, rfl⟩ ⟨Nat.le_of_ble_eq_true rfl, Nat.le_of_ble_eq_true rfl⟩ rfl rfl (Nat.le_of_ble_eq_true rfl) ⟨Nat.zero_le _, Nat.zero_le _⟩ dX5_wordToken_153 (fun r u H locs hp hW _ _ => ?_)
                          subst hp
                          refine lv_as (z := spS (σ 2) t i 8) rfl ?_
                          refine lv_if_eq (tgt := 164) hx hb dX5_wordToken_156 (by decide) (fun c_23 => ?_) (fun c_23 => ?_)
                          ·
                            refine lv_aload_n hx hb dX5_wordToken_164 rfl (lv_at hl 0 rfl) ?_
                            refine va_ldcS hx hb (own := RX5) (index := 71) (q := adK 9) (tx := "dares") hown (hE.2.2.2.2 9 (by decide)) dX5_wordToken_165 ?_
                            refine gw_callVi (As := [.ref (adK 9)]) (rest := []) F hl.1 hW (xs_hE hE hA hsz hW) XS_E (by omega) xe_1 rfl (kX5_spells (adK := adK) (adV := adV) (σ := σ) (z := z) (a := i) (t := t) (i0 := 9) hz hz1 (by omega) (by omega) (by decide)) pd_yX5_spells ml_RX5_51 im_yX5_spells se_yX5_spells ini_RX5 cd_yX5_spells ⟨rfl, rfl⟩ ⟨Nat.le_of_ble_eq_true rfl, Nat.le_of_ble_eq_true rfl⟩ rfl rfl (Nat.le_of_ble_eq_true rfl) ⟨Nat.zero_le _, Nat.zero_le _⟩ dX5_wordToken_167 (fun r u H locs hp hW _ _ => ?_)
                            subst hp
                            refine lv_as (z := spS (σ 2) t i 9) rfl ?_
                            refine lv_if_eq (tgt := 178) hx hb dX5_wordToken_170 (by decide) (fun c_24 => ?_) (fun c_24 => ?_)
                            ·
                              refine lv_aload_n hx hb dX5_wordToken_178 rfl (lv_at hl 0 rfl) ?_
                              refine va_ldcS hx hb (own := RX5) (index := 73) (q := adK 10) (tx := "eats") hown (hE.2.2.2.2 10 (by decide)) dX5_wordToken_179 ?_
                              refine gw_callVi (As := [.ref (adK 10)]) (rest := []) F hl.1 hW (xs_hE hE hA hsz hW) XS_E (by omega) xe_1 rfl (kX5_spells (adK := adK) (adV := adV) (σ := σ) (z := z) (a := i) (t := t) (i0 := 10) hz hz1 (by omega) (by omega) (by decide)) pd_yX5_spells ml_RX5_51 im_yX5_spells se_yX5_spells ini_RX5 cd_yX5_spells ⟨rfl, rfl⟩ ⟨Nat.le_of_ble_eq_true rfl, Nat.le_of_ble_eq_true rfl⟩ rfl rfl (Nat.le_of_ble_eq_true rfl) ⟨Nat.zero_le _, Nat.zero_le _⟩ dX5_wordToken_181 (fun r u H locs hp hW _ _ => ?_)
                              subst hp
                              refine lv_as (z := spS (σ 2) t i 10) rfl ?_
                              refine lv_if_eq (tgt := 192) hx hb dX5_wordToken_184 (by decide) (fun c_25 => ?_) (fun c_25 => ?_)
                              ·
                                refine lv_aload_n hx hb dX5_wordToken_192 rfl (lv_at hl 0 rfl) ?_
                                refine va_ldcS hx hb (own := RX5) (index := 75) (q := adK 11) (tx := "tells") hown (hE.2.2.2.2 11 (by decide)) dX5_wordToken_193 ?_
                                refine gw_callVi (As := [.ref (adK 11)]) (rest := []) F hl.1 hW (xs_hE hE hA hsz hW) XS_E (by omega) xe_1 rfl (kX5_spells (adK := adK) (adV := adV) (σ := σ) (z := z) (a := i) (t := t) (i0 := 11) hz hz1 (by omega) (by omega) (by decide)) pd_yX5_spells ml_RX5_51 im_yX5_spells se_yX5_spells ini_RX5 cd_yX5_spells ⟨rfl, rfl⟩ ⟨Nat.le_of_ble_eq_true rfl, Nat.le_of_ble_eq_true rfl⟩ rfl rfl (Nat.le_of_ble_eq_true rfl) ⟨Nat.zero_le _, Nat.zero_le _⟩ dX5_wordToken_195 (fun r u H locs hp hW _ _ => ?_)
                                subst hp
                                refine lv_as (z := spS (σ 2) t i 11) rfl ?_
                                refine lv_if_eq (tgt := 206) hx hb dX5_wordToken_198 (by decide) (fun c_26 => ?_) (fun c_26 => ?_)
                                ·
                                  refine lv_iconst (v := 1) hx hb dX5_wordToken_206 (by decide) ?_
                                  exact hret 1 (tpS σ (nI i) k0 (nI t) m0) _ _ _ _ _ hW rfl rfl (by rw [hR0, hRE]; exact ⟨((wordF_n (f := 11) (i := 0) c_15).trans ((wordF_n (f := 10) (i := 1) c_16).trans ((wordF_n (f := 9) (i := 2) c_17).trans ((wordF_n (f := 8) (i := 3) c_18).trans ((wordF_n (f := 7) (i := 4) c_19).trans ((wordF_n (f := 6) (i := 5) c_20).trans ((wordF_n (f := 5) (i := 6) c_21).trans ((wordF_n (f := 4) (i := 7) c_22).trans ((wordF_n (f := 3) (i := 8) c_23).trans ((wordF_n (f := 2) (i := 9) c_24).trans ((wordF_n (f := 1) (i := 10) c_25).trans ((wordF_n (f := 0) (i := 11) c_26).trans rfl)))))))))))).symm, rfl⟩) dX5_wordToken_207
                                ·
                                  refine lv_bipush (v := (-12)) hx hb dX5_wordToken_201 (by decide) ?_
                                  refine lv_goto (tgt := 207) hx hb dX5_wordToken_203 (by decide) ?_
                                  exact hret (-12) (tpS σ (nI i) k0 (nI t) m0) _ _ _ _ _ hW rfl rfl (by rw [hR0, hRE]; exact ⟨((wordF_n (f := 11) (i := 0) c_15).trans ((wordF_n (f := 10) (i := 1) c_16).trans ((wordF_n (f := 9) (i := 2) c_17).trans ((wordF_n (f := 8) (i := 3) c_18).trans ((wordF_n (f := 7) (i := 4) c_19).trans ((wordF_n (f := 6) (i := 5) c_20).trans ((wordF_n (f := 5) (i := 6) c_21).trans ((wordF_n (f := 4) (i := 7) c_22).trans ((wordF_n (f := 3) (i := 8) c_23).trans ((wordF_n (f := 2) (i := 9) c_24).trans ((wordF_n (f := 1) (i := 10) c_25).trans ((wordF_y (f := 0) (i := 11) c_26).trans (by decide))))))))))))).symm, rfl⟩) dX5_wordToken_207
                              ·
                                refine lv_bipush (v := (-11)) hx hb dX5_wordToken_187 (by decide) ?_
                                refine lv_goto (tgt := 207) hx hb dX5_wordToken_189 (by decide) ?_
                                exact hret (-11) (tpS σ (nI i) k0 (nI t) m0) _ _ _ _ _ hW rfl rfl (by rw [hR0, hRE]; exact ⟨((wordF_n (f := 11) (i := 0) c_15).trans ((wordF_n (f := 10) (i := 1) c_16).trans ((wordF_n (f := 9) (i := 2) c_17).trans ((wordF_n (f := 8) (i := 3) c_18).trans ((wordF_n (f := 7) (i := 4) c_19).trans ((wordF_n (f := 6) (i := 5) c_20).trans ((wordF_n (f := 5) (i := 6) c_21).trans ((wordF_n (f := 4) (i := 7) c_22).trans ((wordF_n (f := 3) (i := 8) c_23).trans ((wordF_n (f := 2) (i := 9) c_24).trans ((wordF_y (f := 1) (i := 10) c_25).trans (by decide)))))))))))).symm, rfl⟩) dX5_wordToken_207
                            ·
                              refine lv_bipush (v := (-10)) hx hb dX5_wordToken_173 (by decide) ?_
                              refine lv_goto (tgt := 207) hx hb dX5_wordToken_175 (by decide) ?_
                              exact hret (-10) (tpS σ (nI i) k0 (nI t) m0) _ _ _ _ _ hW rfl rfl (by rw [hR0, hRE]; exact ⟨((wordF_n (f := 11) (i := 0) c_15).trans ((wordF_n (f := 10) (i := 1) c_16).trans ((wordF_n (f := 9) (i := 2) c_17).trans ((wordF_n (f := 8) (i := 3) c_18).trans ((wordF_n (f := 7) (i := 4) c_19).trans ((wordF_n (f := 6) (i := 5) c_20).trans ((wordF_n (f := 5) (i := 6) c_21).trans ((wordF_n (f := 4) (i := 7) c_22).trans ((wordF_n (f := 3) (i := 8) c_23).trans ((wordF_y (f := 2) (i := 9) c_24).trans (by decide))))))))))).symm, rfl⟩) dX5_wordToken_207
                          ·
                            refine lv_bipush (v := (-9)) hx hb dX5_wordToken_159 (by decide) ?_
                            refine lv_goto (tgt := 207) hx hb dX5_wordToken_161 (by decide) ?_
                            exact hret (-9) (tpS σ (nI i) k0 (nI t) m0) _ _ _ _ _ hW rfl rfl (by rw [hR0, hRE]; exact ⟨((wordF_n (f := 11) (i := 0) c_15).trans ((wordF_n (f := 10) (i := 1) c_16).trans ((wordF_n (f := 9) (i := 2) c_17).trans ((wordF_n (f := 8) (i := 3) c_18).trans ((wordF_n (f := 7) (i := 4) c_19).trans ((wordF_n (f := 6) (i := 5) c_20).trans ((wordF_n (f := 5) (i := 6) c_21).trans ((wordF_n (f := 4) (i := 7) c_22).trans ((wordF_y (f := 3) (i := 8) c_23).trans (by decide)))))))))).symm, rfl⟩) dX5_wordToken_207
                        ·
                          refine lv_bipush (v := (-8)) hx hb dX5_wordToken_145 (by decide) ?_
                          refine lv_goto (tgt := 207) hx hb dX5_wordToken_147 (by decide) ?_
                          exact hret (-8) (tpS σ (nI i) k0 (nI t) m0) _ _ _ _ _ hW rfl rfl (by rw [hR0, hRE]; exact ⟨((wordF_n (f := 11) (i := 0) c_15).trans ((wordF_n (f := 10) (i := 1) c_16).trans ((wordF_n (f := 9) (i := 2) c_17).trans ((wordF_n (f := 8) (i := 3) c_18).trans ((wordF_n (f := 7) (i := 4) c_19).trans ((wordF_n (f := 6) (i := 5) c_20).trans ((wordF_n (f := 5) (i := 6) c_21).trans ((wordF_y (f := 4) (i := 7) c_22).trans (by decide))))))))).symm, rfl⟩) dX5_wordToken_207
                      ·
                        refine lv_bipush (v := (-7)) hx hb dX5_wordToken_131 (by decide) ?_
                        refine lv_goto (tgt := 207) hx hb dX5_wordToken_133 (by decide) ?_
                        exact hret (-7) (tpS σ (nI i) k0 (nI t) m0) _ _ _ _ _ hW rfl rfl (by rw [hR0, hRE]; exact ⟨((wordF_n (f := 11) (i := 0) c_15).trans ((wordF_n (f := 10) (i := 1) c_16).trans ((wordF_n (f := 9) (i := 2) c_17).trans ((wordF_n (f := 8) (i := 3) c_18).trans ((wordF_n (f := 7) (i := 4) c_19).trans ((wordF_n (f := 6) (i := 5) c_20).trans ((wordF_y (f := 5) (i := 6) c_21).trans (by decide)))))))).symm, rfl⟩) dX5_wordToken_207
                    ·
                      refine lv_bipush (v := (-6)) hx hb dX5_wordToken_117 (by decide) ?_
                      refine lv_goto (tgt := 207) hx hb dX5_wordToken_119 (by decide) ?_
                      exact hret (-6) (tpS σ (nI i) k0 (nI t) m0) _ _ _ _ _ hW rfl rfl (by rw [hR0, hRE]; exact ⟨((wordF_n (f := 11) (i := 0) c_15).trans ((wordF_n (f := 10) (i := 1) c_16).trans ((wordF_n (f := 9) (i := 2) c_17).trans ((wordF_n (f := 8) (i := 3) c_18).trans ((wordF_n (f := 7) (i := 4) c_19).trans ((wordF_y (f := 6) (i := 5) c_20).trans (by decide))))))).symm, rfl⟩) dX5_wordToken_207
                  ·
                    refine lv_bipush (v := (-5)) hx hb dX5_wordToken_103 (by decide) ?_
                    refine lv_goto (tgt := 207) hx hb dX5_wordToken_105 (by decide) ?_
                    exact hret (-5) (tpS σ (nI i) k0 (nI t) m0) _ _ _ _ _ hW rfl rfl (by rw [hR0, hRE]; exact ⟨((wordF_n (f := 11) (i := 0) c_15).trans ((wordF_n (f := 10) (i := 1) c_16).trans ((wordF_n (f := 9) (i := 2) c_17).trans ((wordF_n (f := 8) (i := 3) c_18).trans ((wordF_y (f := 7) (i := 4) c_19).trans (by decide)))))).symm, rfl⟩) dX5_wordToken_207
                ·
                  refine lv_bipush (v := (-4)) hx hb dX5_wordToken_89 (by decide) ?_
                  refine lv_goto (tgt := 207) hx hb dX5_wordToken_91 (by decide) ?_
                  exact hret (-4) (tpS σ (nI i) k0 (nI t) m0) _ _ _ _ _ hW rfl rfl (by rw [hR0, hRE]; exact ⟨((wordF_n (f := 11) (i := 0) c_15).trans ((wordF_n (f := 10) (i := 1) c_16).trans ((wordF_n (f := 9) (i := 2) c_17).trans ((wordF_y (f := 8) (i := 3) c_18).trans (by decide))))).symm, rfl⟩) dX5_wordToken_207
              ·
                refine lv_bipush (v := (-3)) hx hb dX5_wordToken_75 (by decide) ?_
                refine lv_goto (tgt := 207) hx hb dX5_wordToken_77 (by decide) ?_
                exact hret (-3) (tpS σ (nI i) k0 (nI t) m0) _ _ _ _ _ hW rfl rfl (by rw [hR0, hRE]; exact ⟨((wordF_n (f := 11) (i := 0) c_15).trans ((wordF_n (f := 10) (i := 1) c_16).trans ((wordF_y (f := 9) (i := 2) c_17).trans (by decide)))).symm, rfl⟩) dX5_wordToken_207
            ·
              refine lv_bipush (v := (-2)) hx hb dX5_wordToken_61 (by decide) ?_
              refine lv_goto (tgt := 207) hx hb dX5_wordToken_63 (by decide) ?_
              exact hret (-2) (tpS σ (nI i) k0 (nI t) m0) _ _ _ _ _ hW rfl rfl (by rw [hR0, hRE]; exact ⟨((wordF_n (f := 11) (i := 0) c_15).trans ((wordF_y (f := 10) (i := 1) c_16).trans (by decide))).symm, rfl⟩) dX5_wordToken_207
          ·
            refine lv_iconst (v := (-1)) hx hb dX5_wordToken_48 (by decide) ?_
            refine lv_goto (tgt := 207) hx hb dX5_wordToken_49 (by decide) ?_
            exact hret (-1) (tpS σ (nI i) k0 (nI t) m0) _ _ _ _ _ hW rfl rfl (by rw [hR0, hRE]; exact ⟨((wordF_y (f := 11) (i := 0) c_15).trans (by decide)).symm, rfl⟩) dX5_wordToken_207
        ·
          refine lv_aload_n hx hb dX5_wordToken_26 rfl (lv_at hl 0 rfl) ?_
          refine lv_dup hx hb dX5_wordToken_27 rfl ?_
          refine xr_P F hW 2 (by decide) rfl fl_RX5_19 dX5_wordToken_28 ?_
          refine lv_as (z := nI i) rfl ?_
          refine lv_iconst (v := 1) hx hb dX5_wordToken_31 (by decide) ?_
          refine lv_iadd hx hb dX5_wordToken_32 ?_
          refine lv_as (z := nI (i + 1)) (nI_1 i) ?_
          refine xw_P F hW 2 (by decide) fl_RX5_19 rfl (ty := .int) rfl rfl rfl rfl dX5_wordToken_33 (fun H locs hW => ?_)
          have hW : XW D cs ad n ρ TT τ (tpS σ (nI (i + 1)) k0 (nI t) m0) A s s.heap H locs := by rw [tp_2] at hW; exact hW
          refine lv_goto (tgt := 0) hx hb dX5_wordToken_36 (by decide) ?_
          exact ih0 (i + 1) f' (by omega) (by omega) (by omega) (by omega) (by rw [← hRR]; exact ((if_pos hlt).trans (if_neg c_14)).symm) _ _ _ hW (lv_sub hl [0] rfl)
  exact L0 (z + 1) a 161 (Nat.le_refl _) (haz) (by omega) (by omega) (hR0) _ _ _ hW (lv_sub hl [0] rfl)
abbrev rm_yX5_next : Room := { frames := 6, cells := 0, slots := 0, locals := 127 }
set_option maxHeartbeats 800000 in
set_option maxRecDepth 100000 in
theorem kX5_next {l : Launch} {D : va_G} {cs : Nat → ClassId} {ad : Nat → Nat} {n : Nat} {ρ σ : Nat → Nat → Int32} {TT τ : Nat → Nat → Nat → Int32} {sz : Nat} {adK adV : Nat → Nat} {z a : Nat} {k0 t0 m0 : Int32} (hz : σ 1 1 = nI z) (hz1 : z ≤ 160) (haz : a ≤ z) : XSv l yX5_next cX5_next 1 rm_yX5_next [.ref (ad 1)] D cs ad n ρ TT τ (tpS σ (nI a) k0 t0 m0) sz adK adV (fun (u : Nat → Nat → Int32) => u = tpS σ (nI (nxA (σ 2) z (skpG (σ 2) z 161 a))) (nxK (σ 2) z (skpG (σ 2) z 161 a)) (nI (skpG (σ 2) z 161 a)) (nxM (σ 2) z (skpG (σ 2) z 161 a) m0)) (fun u : Nat → Nat → Int32 => xent ad cs n ρ TT τ u) := by
  refine gw_stVs (Ff := fun u : Nat → Nat → Int32 => xent ad cs n ρ TT τ u) (own := RX5) (by decide +kernel) rfl (Nat.le_of_ble_eq_true rfl) ?_
  intro p e s m ar below meth c A Q F hE hsz hA hW hret ls hl
  obtain ⟨hx, hb, hml, hown, hts⟩ := id F
  have hl : lv_has ls 1 [(0, .ref (ad 1))] := hl
  generalize hR0 : skpG (σ 2) z 161 a = RES
  have L0 : ∀ (k : Nat) (i f : Nat), (a ≤ i) → (i ≤ z) → (z + 1 ≤ i + k) → (z + 1 ≤ i + f) → (skpG (σ 2) z f i = RES) → ∀ (H : Heap) (locs : List Loc) (ls : Array Slot), XW D cs ad n ρ TT τ (tpS σ (nI i) k0 t0 m0) A s s.heap H locs → lv_has ls 1 [(0, .ref (ad 1))] → W p l e rm_yX5_next s m ar below meth c H locs 0 0 Q (F0 m 0 ls []) := by
    intro k
    induction k with
    | zero => intro i f h0 h1 h2 h3 hRR; exact absurd h2 (by omega)
    | succ k ih0 =>
      intro i f h0 h1 h2 h3 hRR H locs ls hW hl
      refine lv_aload_n hx hb dX5_next_0 rfl (lv_at hl 0 rfl) ?_
      refine xr_P F hW 2 (by decide) rfl fl_RX5_19 dX5_next_1 ?_
      refine lv_as (z := nI i) rfl ?_
      refine lv_aload_n hx hb dX5_next_4 rfl (lv_at hl 0 rfl) ?_
      refine xr_P F hW 1 (by decide) rfl fl_RX5_15 dX5_next_5 ?_
      refine lv_as (z := nI z) hz ?_
      refine lv_icmp_ge (tgt := 52) hx hb dX5_next_8 (by decide) (fun c_1 => ?_) (fun c_1 => ?_)
      ·
        obtain ⟨f', rfl⟩ : ∃ x, f = x + 1 := ⟨f - 1, by omega⟩; have hge : ¬ i < z := (by have := mi_le c_1 (by omega) (by omega); omega); have hRE : RES = i := (by rw [← hRR]; exact if_neg hge)
        refine lv_aload_n hx hb dX5_next_52 rfl (lv_at hl 0 rfl) ?_
        refine lv_aload_n hx hb dX5_next_53 rfl (lv_at hl 0 rfl) ?_
        refine xr_P F hW 2 (by decide) rfl fl_RX5_19 dX5_next_54 ?_
        refine lv_as (z := nI i) rfl ?_
        refine xw_P F hW 4 (by decide) fl_RX5_25 rfl (ty := .int) rfl rfl rfl rfl dX5_next_57 (fun H locs hW => ?_)
        have hW : XW D cs ad n ρ TT τ (tpS σ (nI i) k0 (nI i) m0) A s s.heap H locs := by rw [tp_4] at hW; exact hW
        refine lv_aload_n hx hb dX5_next_60 rfl (lv_at hl 0 rfl) ?_
        refine xr_P F hW 2 (by decide) rfl fl_RX5_19 dX5_next_61 ?_
        refine lv_as (z := nI i) rfl ?_
        refine lv_aload_n hx hb dX5_next_64 rfl (lv_at hl 0 rfl) ?_
        refine xr_P F hW 1 (by decide) rfl fl_RX5_15 dX5_next_65 ?_
        refine lv_as (z := nI z) hz ?_
        refine lv_icmp_lt (tgt := 79) hx hb dX5_next_68 (by decide) (fun c_2 => ?_) (fun c_2 => ?_)
        ·
          exact absurd (mi_lt c_2 (by omega) (by omega)) hge
        ·
          refine lv_aload_n hx hb dX5_next_71 rfl (lv_at hl 0 rfl) ?_
          refine lv_iconst (v := 0) hx hb dX5_next_72 (by decide) ?_
          refine xw_P F hW 3 (by decide) fl_RX5_28 rfl (ty := .int) rfl rfl rfl rfl dX5_next_73 (fun H locs hW => ?_)
          have hW : XW D cs ad n ρ TT τ (tpS σ (nI i) 0 (nI i) m0) A s s.heap H locs := by rw [tp_3] at hW; exact hW
          refine lv_goto (tgt := 157) hx hb dX5_next_76 (by decide) ?_
          exact hret (tpS σ (nI i) 0 (nI i) m0) _ _ _ _ _ hW rfl (by rw [hR0, hRE]; unfold nxA nxK nxM; rw [if_neg hge, if_neg hge, if_neg hge]) dX5_next_157
      ·
        obtain ⟨f', rfl⟩ : ∃ x, f = x + 1 := ⟨f - 1, by omega⟩; have hlt : i < z := mi_nle c_1 (by omega) (by omega)
        refine lv_aload_n hx hb dX5_next_11 rfl (lv_at hl 0 rfl) ?_
        refine xr_P F hW 0 (by decide) rfl fl_RX5_9 dX5_next_12 ?_
        refine lv_aload_n hx hb dX5_next_15 rfl (lv_at hl 0 rfl) ?_
        refine xr_P F hW 2 (by decide) rfl fl_RX5_19 dX5_next_16 ?_
        refine lv_as (z := nI i) rfl ?_
        refine xr_Be F hW (vp_in_nI (by omega) (by decide)) dX5_next_19 ?_
        refine lv_as (z := σ 2 i) (by rw [nI_clamp (by omega)]; rfl) ?_
        refine lv_bipush (v := 32) hx hb dX5_next_20 (by decide) ?_
        refine lv_icmp_eq (tgt := 39) hx hb dX5_next_22 (by decide) (fun c_3 => ?_) (fun c_3 => ?_)
        ·
          refine lv_aload_n hx hb dX5_next_39 rfl (lv_at hl 0 rfl) ?_
          refine lv_dup hx hb dX5_next_40 rfl ?_
          refine xr_P F hW 2 (by decide) rfl fl_RX5_19 dX5_next_41 ?_
          refine lv_as (z := nI i) rfl ?_
          refine lv_iconst (v := 1) hx hb dX5_next_44 (by decide) ?_
          refine lv_iadd hx hb dX5_next_45 ?_
          refine lv_as (z := nI (i + 1)) (nI_1 i) ?_
          refine xw_P F hW 2 (by decide) fl_RX5_19 rfl (ty := .int) rfl rfl rfl rfl dX5_next_46 (fun H locs hW => ?_)
          have hW : XW D cs ad n ρ TT τ (tpS σ (nI (i + 1)) k0 t0 m0) A s s.heap H locs := by rw [tp_2] at hW; exact hW
          refine lv_goto (tgt := 0) hx hb dX5_next_49 (by decide) ?_
          exact ih0 (i + 1) f' (by omega) (by omega) (by omega) (by omega) (by rw [← hRR]; exact ((if_pos hlt).trans (if_pos (Or.inl c_3))).symm) _ _ _ hW (lv_sub hl [0] rfl)
        ·
          refine lv_aload_n hx hb dX5_next_25 rfl (lv_at hl 0 rfl) ?_
          refine xr_P F hW 0 (by decide) rfl fl_RX5_9 dX5_next_26 ?_
          refine lv_aload_n hx hb dX5_next_29 rfl (lv_at hl 0 rfl) ?_
          refine xr_P F hW 2 (by decide) rfl fl_RX5_19 dX5_next_30 ?_
          refine lv_as (z := nI i) rfl ?_
          refine xr_Be F hW (vp_in_nI (by omega) (by decide)) dX5_next_33 ?_
          refine lv_as (z := σ 2 i) (by rw [nI_clamp (by omega)]; rfl) ?_
          refine lv_bipush (v := 10) hx hb dX5_next_34 (by decide) ?_
          refine lv_icmp_ne (tgt := 52) hx hb dX5_next_36 (by decide) (fun c_4 => ?_) (fun c_4 => ?_)
          ·
            have hRE : RES = i := by rw [← hRR]; exact (if_pos hlt).trans (if_neg (fun z => z.elim c_3 c_4))
            refine lv_aload_n hx hb dX5_next_52 rfl (lv_at hl 0 rfl) ?_
            refine lv_aload_n hx hb dX5_next_53 rfl (lv_at hl 0 rfl) ?_
            refine xr_P F hW 2 (by decide) rfl fl_RX5_19 dX5_next_54 ?_
            refine lv_as (z := nI i) rfl ?_
            refine xw_P F hW 4 (by decide) fl_RX5_25 rfl (ty := .int) rfl rfl rfl rfl dX5_next_57 (fun H locs hW => ?_)
            have hW : XW D cs ad n ρ TT τ (tpS σ (nI i) k0 (nI i) m0) A s s.heap H locs := by rw [tp_4] at hW; exact hW
            refine lv_aload_n hx hb dX5_next_60 rfl (lv_at hl 0 rfl) ?_
            refine xr_P F hW 2 (by decide) rfl fl_RX5_19 dX5_next_61 ?_
            refine lv_as (z := nI i) rfl ?_
            refine lv_aload_n hx hb dX5_next_64 rfl (lv_at hl 0 rfl) ?_
            refine xr_P F hW 1 (by decide) rfl fl_RX5_15 dX5_next_65 ?_
            refine lv_as (z := nI z) hz ?_
            refine lv_icmp_lt (tgt := 79) hx hb dX5_next_68 (by decide) (fun c_5 => ?_) (fun c_5 => ?_)
            ·
              refine lv_aload_n hx hb dX5_next_79 rfl (lv_at hl 0 rfl) ?_
              refine xr_P F hW 0 (by decide) rfl fl_RX5_9 dX5_next_80 ?_
              refine lv_aload_n hx hb dX5_next_83 rfl (lv_at hl 0 rfl) ?_
              refine xr_P F hW 2 (by decide) rfl fl_RX5_19 dX5_next_84 ?_
              refine lv_as (z := nI i) rfl ?_
              refine xr_Be F hW (vp_in_nI (by omega) (by decide)) dX5_next_87 ?_
              refine lv_as (z := σ 2 i) (by rw [nI_clamp (by omega)]; rfl) ?_
              refine gw_callP (As := [.int (σ 2 i)]) (rest := []) F hl.1 (kX5_isLetter) pd_yX5_isLetter ml_RX5_31 st_yX5_isLetter ini_RX5 cd_yX5_isLetter ⟨rfl, rfl⟩ ⟨Nat.le_of_ble_eq_true rfl, Nat.le_of_ble_eq_true rfl⟩ rfl rfl (Nat.le_of_ble_eq_true rfl) ⟨Nat.zero_le _, Nat.zero_le _⟩ dX5_next_88 ?_
              refine lv_as (z := letS (σ 2 i)) rfl ?_
              refine lv_if_eq (tgt := 105) hx hb dX5_next_91 (by decide) (fun c_6 => ?_) (fun c_6 => ?_)
              ·
                refine lv_aload_n hx hb dX5_next_105 rfl (lv_at hl 0 rfl) ?_
                refine xr_P F hW 0 (by decide) rfl fl_RX5_9 dX5_next_106 ?_
                refine lv_aload_n hx hb dX5_next_109 rfl (lv_at hl 0 rfl) ?_
                refine xr_P F hW 2 (by decide) rfl fl_RX5_19 dX5_next_110 ?_
                refine lv_as (z := nI i) rfl ?_
                refine xr_Be F hW (vp_in_nI (by omega) (by decide)) dX5_next_113 ?_
                refine lv_as (z := σ 2 i) (by rw [nI_clamp (by omega)]; rfl) ?_
                refine gw_callP (As := [.int (σ 2 i)]) (rest := []) F hl.1 (kX5_isDigit) pd_yX5_isDigit ml_RX5_39 st_yX5_isDigit ini_RX5 cd_yX5_isDigit ⟨rfl, rfl⟩ ⟨Nat.le_of_ble_eq_true rfl, Nat.le_of_ble_eq_true rfl⟩ rfl rfl (Nat.le_of_ble_eq_true rfl) ⟨Nat.zero_le _, Nat.zero_le _⟩ dX5_next_114 ?_
                refine lv_as (z := digS (σ 2 i)) rfl ?_
                refine lv_if_eq (tgt := 131) hx hb dX5_next_117 (by decide) (fun c_7 => ?_) (fun c_7 => ?_)
                ·
                  refine lv_aload_n hx hb dX5_next_131 rfl (lv_at hl 0 rfl) ?_
                  refine lv_aload_n hx hb dX5_next_132 rfl (lv_at hl 0 rfl) ?_
                  refine xr_P F hW 0 (by decide) rfl fl_RX5_9 dX5_next_133 ?_
                  refine lv_aload_n hx hb dX5_next_136 rfl (lv_at hl 0 rfl) ?_
                  refine xr_P F hW 2 (by decide) rfl fl_RX5_19 dX5_next_137 ?_
                  refine lv_as (z := nI i) rfl ?_
                  refine xr_Be F hW (vp_in_nI (by omega) (by decide)) dX5_next_140 ?_
                  refine lv_as (z := σ 2 i) (by rw [nI_clamp (by omega)]; rfl) ?_
                  refine gw_callP (As := [.int (σ 2 i)]) (rest := [.ref (ad 1)]) F hl.1 (kX5_signToken) pd_yX5_signToken ml_RX5_45 st_yX5_signToken ini_RX5 cd_yX5_signToken ⟨rfl, rfl⟩ ⟨Nat.le_of_ble_eq_true rfl, Nat.le_of_ble_eq_true rfl⟩ rfl rfl (Nat.le_of_ble_eq_true rfl) ⟨Nat.zero_le _, Nat.zero_le _⟩ dX5_next_141 ?_
                  refine lv_as (z := sigS (σ 2 i)) rfl ?_
                  refine xw_P F hW 3 (by decide) fl_RX5_28 rfl (ty := .int) rfl rfl rfl rfl dX5_next_144 (fun H locs hW => ?_)
                  have hW : XW D cs ad n ρ TT τ (tpS σ (nI i) (sigS (σ 2 i)) (nI i) m0) A s s.heap H locs := by rw [tp_3] at hW; exact hW
                  refine lv_aload_n hx hb dX5_next_147 rfl (lv_at hl 0 rfl) ?_
                  refine lv_dup hx hb dX5_next_148 rfl ?_
                  refine xr_P F hW 2 (by decide) rfl fl_RX5_19 dX5_next_149 ?_
                  refine lv_as (z := nI i) rfl ?_
                  refine lv_iconst (v := 1) hx hb dX5_next_152 (by decide) ?_
                  refine lv_iadd hx hb dX5_next_153 ?_
                  refine lv_as (z := nI (i + 1)) (nI_1 i) ?_
                  refine xw_P F hW 2 (by decide) fl_RX5_19 rfl (ty := .int) rfl rfl rfl rfl dX5_next_154 (fun H locs hW => ?_)
                  have hW : XW D cs ad n ρ TT τ (tpS σ (nI (i + 1)) (sigS (σ 2 i)) (nI i) m0) A s s.heap H locs := by rw [tp_2] at hW; exact hW
                  exact hret (tpS σ (nI (i + 1)) (sigS (σ 2 i)) (nI i) m0) _ _ _ _ _ hW rfl (by rw [hR0, hRE]; unfold nxA nxK nxM; rw [if_pos hlt, if_pos c_6, if_pos c_7, if_pos hlt, if_pos c_6, if_pos c_7, if_pos hlt, if_pos c_6, if_pos c_7]) dX5_next_157
                ·
                  refine lv_aload_n hx hb dX5_next_120 rfl (lv_at hl 0 rfl) ?_
                  refine lv_aload_n hx hb dX5_next_121 rfl (lv_at hl 0 rfl) ?_
                  refine gw_callVi (As := []) (rest := [.ref (ad 1)]) F hl.1 hW (xs_hE hE hA hsz hW) XS_E (by omega) xe_1 rfl (kX5_numberToken (adK := adK) (adV := adV) (σ := σ) (z := z) (a := i) (t := i) hz hz1 h1 (Nat.le_refl _)) pd_yX5_numberToken ml_RX5_42 im_yX5_numberToken se_yX5_numberToken ini_RX5 cd_yX5_numberToken ⟨rfl, rfl⟩ ⟨Nat.le_of_ble_eq_true rfl, Nat.le_of_ble_eq_true rfl⟩ rfl rfl (Nat.le_of_ble_eq_true rfl) ⟨Nat.zero_le _, Nat.zero_le _⟩ dX5_next_122 (fun r u H locs hp hW _ _ => ?_)
                  obtain ⟨rfl, rfl⟩ := hp
                  refine xw_P F hW 3 (by decide) fl_RX5_28 rfl (ty := .int) rfl rfl rfl rfl dX5_next_125 (fun H locs hW => ?_)
                  have hW : XW D cs ad n ρ TT τ (tpS σ (nI ((numG (σ 2) z 161 i 0).1)) (if 4 < nI ((numG (σ 2) z 161 i 0).1 - i) then 1 else 2) (nI i) ((numG (σ 2) z 161 i 0).2)) A s s.heap H locs := by rw [tp_3] at hW; exact hW
                  refine lv_goto (tgt := 157) hx hb dX5_next_128 (by decide) ?_
                  exact hret (tpS σ (nI ((numG (σ 2) z 161 i 0).1)) (if 4 < nI ((numG (σ 2) z 161 i 0).1 - i) then 1 else 2) (nI i) ((numG (σ 2) z 161 i 0).2)) _ _ _ _ _ hW rfl (by rw [hR0, hRE]; unfold nxA nxK nxM; rw [if_pos hlt, if_pos c_6, if_neg c_7, if_pos hlt, if_pos c_6, if_neg c_7, if_pos hlt, if_pos c_6, if_neg c_7]) dX5_next_157
              ·
                refine lv_aload_n hx hb dX5_next_94 rfl (lv_at hl 0 rfl) ?_
                refine lv_aload_n hx hb dX5_next_95 rfl (lv_at hl 0 rfl) ?_
                refine gw_callVi (As := []) (rest := [.ref (ad 1)]) F hl.1 hW (xs_hE hE hA hsz hW) XS_E (by omega) xe_1 rfl (kX5_wordToken (adK := adK) (adV := adV) (σ := σ) (z := z) (a := i) (t := i) hz hz1 h1 (Nat.le_refl _)) pd_yX5_wordToken ml_RX5_35 im_yX5_wordToken se_yX5_wordToken ini_RX5 cd_yX5_wordToken ⟨rfl, rfl⟩ ⟨Nat.le_of_ble_eq_true rfl, Nat.le_of_ble_eq_true rfl⟩ rfl rfl (Nat.le_of_ble_eq_true rfl) ⟨Nat.zero_le _, Nat.zero_le _⟩ dX5_next_96 (fun r u H locs hp hW _ _ => ?_)
                obtain ⟨rfl, rfl⟩ := hp
                refine xw_P F hW 3 (by decide) fl_RX5_28 rfl (ty := .int) rfl rfl rfl rfl dX5_next_99 (fun H locs hW => ?_)
                have hW : XW D cs ad n ρ TT τ (tpS σ (nI (letG (σ 2) z 161 i)) (wordF (σ 2) i (letG (σ 2) z 161 i) 12 0) (nI i) m0) A s s.heap H locs := by rw [tp_3] at hW; exact hW
                refine lv_goto (tgt := 157) hx hb dX5_next_102 (by decide) ?_
                exact hret (tpS σ (nI (letG (σ 2) z 161 i)) (wordF (σ 2) i (letG (σ 2) z 161 i) 12 0) (nI i) m0) _ _ _ _ _ hW rfl (by rw [hR0, hRE]; unfold nxA nxK nxM; rw [if_pos hlt, if_neg c_6, if_pos hlt, if_neg c_6, if_pos hlt, if_neg c_6]) dX5_next_157
            ·
              exact absurd (mi_nlt c_5 (by omega) (by omega)) (by omega)
          ·
            refine lv_aload_n hx hb dX5_next_39 rfl (lv_at hl 0 rfl) ?_
            refine lv_dup hx hb dX5_next_40 rfl ?_
            refine xr_P F hW 2 (by decide) rfl fl_RX5_19 dX5_next_41 ?_
            refine lv_as (z := nI i) rfl ?_
            refine lv_iconst (v := 1) hx hb dX5_next_44 (by decide) ?_
            refine lv_iadd hx hb dX5_next_45 ?_
            refine lv_as (z := nI (i + 1)) (nI_1 i) ?_
            refine xw_P F hW 2 (by decide) fl_RX5_19 rfl (ty := .int) rfl rfl rfl rfl dX5_next_46 (fun H locs hW => ?_)
            have hW : XW D cs ad n ρ TT τ (tpS σ (nI (i + 1)) k0 t0 m0) A s s.heap H locs := by rw [tp_2] at hW; exact hW
            refine lv_goto (tgt := 0) hx hb dX5_next_49 (by decide) ?_
            exact ih0 (i + 1) f' (by omega) (by omega) (by omega) (by omega) (by rw [← hRR]; exact ((if_pos hlt).trans (if_pos (Or.inr c_4))).symm) _ _ _ hW (lv_sub hl [0] rfl)
  exact L0 (z + 1) a 161 (Nat.le_refl _) (haz) (by omega) (by omega) (hR0) _ _ _ hW (lv_sub hl [0] rfl)
