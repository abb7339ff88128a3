/-! ===== copy ===== -/
theorem xn_row {n : Nat} {cs : Nat → ClassId} {ad : Nat → Nat} {ρ σ : Nat → Nat → Int32} {TT τ : Nat → Nat → Nat → Int32} {g : Nat → Int32} {o : Nat} (h5 : 5 < o) : ∀ q, q ≠ o → xent ad cs n ρ TT τ (va_up σ o g) q = xent ad cs n ρ TT τ σ q := by
  intro q hq
  have h1 : va_up σ o g q = σ q := va_up_ne _ _ hq
  have hz : ∀ z, z < 6 → va_up σ o g z = σ z := fun z hz => va_up_ne _ _ (by omega)
  unfold xent
  rw [h1, hz 0 (by decide), hz 1 (by decide), hz 2 (by decide), hz 3 (by decide), hz 4 (by decide), hz 5 (by decide)]
theorem xr_copy {p : Program} {l : Launch} {e : Env} {R : Room} {s : State} {m : MethodId} {args : Array Value} {below : List Frame} {meth : Method} {c : Code} {H : Heap} {locs : List Loc} {cells slots : Nat} {Q : State → Prop} {cc : ByteArray} {pc nL idx n : Nat} {ls : Array Slot} {D : va_G} {A : Nat → Prop} {cs : Nat → ClassId} {ad : Nat → Nat} {own : String} {ρ σ : Nat → Nat → Int32} {TT τ : Nat → Nat → Nat → Int32} {j1 j2 : Nat} {sp dp k : Int32}
    (F : CallFix p m c cc nL s args TBL own) (hn : ls.size = nL) (hW : XW D cs ad n ρ TT τ σ A s s.heap H locs) (hj1 : j1 < 4) (hj2 : j2 < 4) (hlink : Cond.methodLink own idx arraycopyName ∈ TBL) (h1 : ¬ sp < 0) (h2 : ¬ dp < 0) (h3 : ¬ k < 0) (h4 : sp.toNatClampNeg + k.toNatClampNeg ≤ 40) (h5 : dp.toNatClampNeg + k.toNatClampNeg ≤ 40)
    (hframes : 1 ≤ R.frames) (hlocals : nativeFrameWords "java/lang/System" "arraycopy" 5 + 11 ≤ R.locals) (hdg : decode cc pc = .ok (.invokestatic idx, 3))
    (kk : ∀ (H1 : Heap) (locs1 : List Loc), XW D cs ad n ρ TT τ (va_up σ (34 + j2 + 4) (va_cpy (σ (34 + j1 + 4)) (σ (34 + j2 + 4)) sp.toNatClampNeg dp.toNatClampNeg k.toNatClampNeg)) A s s.heap H1 locs1 → W p l e R s m args below meth c H1 locs1 cells slots Q (F0 m (pc + 3) ls [])) :
    W p l e R s m args below meth c H locs cells slots Q (F0 m pc ls (.int k :: .int dp :: .ref (ad (34 + j2 + 4)) :: .int sp :: .ref (ad (34 + j1 + 4)) :: [])) := by
  obtain ⟨hx, hb, hml, hown, hts⟩ := F
  have g1 := (gw_get (N := 42 + 3 * n) (ad := ad) (f := xent ad cs n ρ TT τ σ) (o := 34 + j1 + 4) (by omega)).trans (congrArg (fun z => some (ad (34 + j1 + 4), z)) (xe_N hj1))
  have g2 := (gw_get (N := 42 + 3 * n) (ad := ad) (f := xent ad cs n ρ TT τ σ) (o := 34 + j2 + 4) (by omega)).trans (congrArg (fun z => some (ad (34 + j2 + 4), z)) (xe_N hj2))
  refine va_copyi hx hb (hml.trans hn.symm) hown (hts _ hlink) (hts _ nat_java_lang_System_arraycopy_Ljava_lang_Object_ILjava_lang_Object_II_V_MethodName) (hts _ st_java_lang_System_arraycopy_Ljava_lang_Object_ILjava_lang_Object_II_V_MethodName) (hts _ ini_RJ10) hW.2.1 hW.1 hW.2.2.1 hW.2.2.2.1 (34 + j1 + 4) (34 + j2 + 4) 0 0 g1 g2 rfl rfl rfl h1 h2 h3 h4 h5 (fun _ _ => rfl) hframes (by simpa using hlocals) hdg ?_
  intro H1 locs1 hP hD hS
  have hset := gw_set (N := 42 + 3 * n) (ad := ad) (f := xent ad cs n ρ TT τ σ) (g := xent ad cs n ρ TT τ (va_up σ (34 + j2 + 4) (va_cpy (σ (34 + j1 + 4)) (σ (34 + j2 + 4)) sp.toNatClampNeg dp.toNatClampNeg k.toNatClampNeg))) (o := 34 + j2 + 4) (by omega) ((xe_N hj2).trans (by rw [va_up_self])) (xn_row (by omega))
  rw [hset] at hP hD
  exact kk H1 locs1 ⟨hP, hW.2.1, hD, hS, hW.2.2.2.2⟩
theorem cp_at {i m : Int32} {k : Nat} (hk : k ≤ 40) (hm : ¬ m < 0) (hi : ¬ i < 0) (h : ¬ nI k - m < i) : i.toNatClampNeg + m.toNatClampNeg ≤ k := by
  obtain ⟨a, ha, rfl⟩ := nI_of hm
  obtain ⟨b, hb, rfl⟩ := nI_of hi
  rw [nI_clamp hb, nI_clamp ha]
  rw [Int32.lt_iff_toInt_lt, Int32.toInt_sub, nI_toInt (show k < 2 ^ 31 by omega), nI_toInt ha, nI_toInt hb, Int.bmod_eq_of_le (by omega) (by omega)] at h
  omega
def cpyS (σ : Nat → Nat → Int32) (j1 j2 : Nat) (i1 i2 k : Int32) : Nat → Nat → Int32 := va_up σ (34 + j2 + 4) (va_cpy (σ (34 + j1 + 4)) (σ (34 + j2 + 4)) (iN i1) (iN i2) (iN k))
def copyP (σ : Nat → Nat → Int32) (z i y o k : Int32) : Int32 × (Nat → Nat → Int32) := if shP z = 0 then (-2, σ) else if shP y = 0 then (-2, σ) else if soX σ (iN z) = -1 then (-11, σ) else if soX σ (iN y) = -1 then (-11, σ) else if soX σ (iN z) = soX σ (iN y) then (if k < 0 then (-12, σ) else if i < 0 then (-12, σ) else if siX σ (iN z) - k < i then (-12, σ) else if o < 0 then (-12, σ) else if siX σ (iN y) - k < o then (-12, σ) else (k, cpyS σ (iN z) (iN y) i o k)) else (-13, σ)
abbrev rm_yX7_copy : Room := { frames := 1, cells := 0, slots := 0, locals := 40 }
set_option maxHeartbeats 800000 in
set_option maxRecDepth 100000 in
theorem kX7_copy {l : Launch} {D : va_G} {cs : Nat → ClassId} {ad : Nat → Nat} {n : Nat} {ρ σ : Nat → Nat → Int32} {TT τ : Nat → Nat → Nat → Int32} {sz : Nat} {z i0 y o0 k0 : Int32} (hSh : okS σ) : XMi l yX7_copy cX7_copy 8 FieldType.int rm_yX7_copy [.ref (ad 0), .int z, .int i0, .int y, .int o0, .int k0] D cs ad n ρ TT τ σ sz (fun (r : Int32) (u : Nat → Nat → Int32) => r = (copyP σ z i0 y o0 k0).1 ∧ u = (copyP σ z i0 y o0 k0).2) (fun u : Nat → Nat → Int32 => xent ad cs n ρ TT τ u) := by
  refine gw_stI (Ff := fun u : Nat → Nat → Int32 => xent ad cs n ρ TT τ u) (own := RX7) (by decide +kernel) rfl (Nat.le_of_ble_eq_true rfl) ?_
  intro p e s m ar below meth c A Q F hE hsz hW hret ls hl
  obtain ⟨hx, hb, hml, hown, hts⟩ := id F
  have hl : lv_has ls 8 [(0, .ref (ad 0)), (1, .int z), (2, .int i0), (3, .int y), (4, .int o0), (5, .int k0)] := hl
  refine lv_iload_n hx hb dX7_copy_0 rfl (lv_at hl 1 rfl) ?_
  refine gw_callP (As := [.int z]) (rest := []) F hl.1 (kX7_isSheet) pd_yX7_isSheet ml_RX7_251 st_yX7_isSheet ini_RX7 cd_yX7_isSheet ⟨rfl, rfl⟩ ⟨Nat.le_of_ble_eq_true rfl, Nat.le_of_ble_eq_true rfl⟩ rfl rfl (Nat.le_of_ble_eq_true rfl) ⟨Nat.zero_le _, Nat.zero_le _⟩ dX7_copy_1 ?_
  refine lv_as (z := shP z) rfl ?_
  refine lv_if_eq (tgt := 14) hx hb dX7_copy_4 (by decide) (fun c_1 => ?_) (fun c_1 => ?_)
  ·
    refine lv_bipush (v := (-2)) hx hb dX7_copy_14 (by decide) ?_
    exact hret (-2) σ _ _ _ _ _ hW rfl rfl (by unfold copyP; rw [if_pos c_1]; exact ⟨rfl, rfl⟩) dX7_copy_16
  ·
    obtain ⟨q, hq, rfl⟩ := sh_nat c_1; have hiq : iN (nI q) = q := iN_nI (by omega)
    refine lv_iload_n hx hb dX7_copy_7 rfl (lv_at hl 3 rfl) ?_
    refine gw_callP (As := [.int y]) (rest := []) F hl.1 (kX7_isSheet) pd_yX7_isSheet ml_RX7_251 st_yX7_isSheet ini_RX7 cd_yX7_isSheet ⟨rfl, rfl⟩ ⟨Nat.le_of_ble_eq_true rfl, Nat.le_of_ble_eq_true rfl⟩ rfl rfl (Nat.le_of_ble_eq_true rfl) ⟨Nat.zero_le _, Nat.zero_le _⟩ dX7_copy_8 ?_
    refine lv_as (z := shP y) rfl ?_
    refine lv_if_ne (tgt := 17) hx hb dX7_copy_11 (by decide) (fun c_2 => ?_) (fun c_2 => ?_)
    ·
      obtain ⟨q2, hq2, rfl⟩ := sh_nat c_2; have hiq2 : iN (nI q2) = q2 := iN_nI (by omega)
      refine lv_aload_n hx hb dX7_copy_17 rfl (lv_at hl 0 rfl) ?_
      refine xr_O F hW 9 (by decide) rfl fl_RX7_62 dX7_copy_18 ?_
      refine lv_iload_n hx hb dX7_copy_21 rfl (lv_at hl 1 rfl) ?_
      refine xr_San (q := q) rfl (by omega) F hW dX7_copy_22 ?_
      refine lv_astore (lv' := [(6, .ref (ad (34 + q))), (0, .ref (ad 0)), (1, .int (nI q)), (2, .int i0), (3, .int (nI q2)), (4, .int o0), (5, .int k0)]) hx hb dX7_copy_23 hl (by decide) rfl (fun ls hl => ?_)
      refine lv_aload_n hx hb dX7_copy_25 rfl (lv_at hl 1 rfl) ?_
      refine xr_O F hW 9 (by decide) rfl fl_RX7_62 dX7_copy_26 ?_
      refine lv_iload_n hx hb dX7_copy_29 rfl (lv_at hl 4 rfl) ?_
      refine xr_San (q := q2) rfl (by omega) F hW dX7_copy_30 ?_
      refine lv_astore (lv' := [(7, .ref (ad (34 + q2))), (6, .ref (ad (34 + q))), (0, .ref (ad 0)), (1, .int (nI q)), (2, .int i0), (3, .int (nI q2)), (4, .int o0), (5, .int k0)]) hx hb dX7_copy_31 hl (by decide) rfl (fun ls hl => ?_)
      refine lv_aload hx hb dX7_copy_33 (lv_at hl 1 rfl) ?_
      refine xr_S (j := q) (by omega) F hW 1 (by decide) rfl fl_RX7_272 dX7_copy_35 ?_
      refine lv_iconst (v := (-1)) hx hb dX7_copy_38 (by decide) ?_
      refine lv_icmp_eq (tgt := 51) hx hb dX7_copy_39 (by decide) (fun c_3 => ?_) (fun c_3 => ?_)
      ·
        refine lv_bipush (v := (-11)) hx hb dX7_copy_51 (by decide) ?_
        exact hret (-11) σ _ _ _ _ _ hW rfl rfl (by unfold copyP; rw [if_neg c_1, if_neg c_2, hiq, hiq2, if_pos (show soX σ q = -1 from c_3)]; exact ⟨rfl, rfl⟩) dX7_copy_53
      ·
        refine lv_aload hx hb dX7_copy_42 (lv_at hl 0 rfl) ?_
        refine xr_S (j := q2) (by omega) F hW 1 (by decide) rfl fl_RX7_272 dX7_copy_44 ?_
        refine lv_iconst (v := (-1)) hx hb dX7_copy_47 (by decide) ?_
        refine lv_icmp_ne (tgt := 54) hx hb dX7_copy_48 (by decide) (fun c_4 => ?_) (fun c_4 => ?_)
        ·
          refine lv_aload hx hb dX7_copy_54 (lv_at hl 1 rfl) ?_
          refine xr_S (j := q) (by omega) F hW 1 (by decide) rfl fl_RX7_272 dX7_copy_56 ?_
          refine lv_aload hx hb dX7_copy_59 (lv_at hl 0 rfl) ?_
          refine xr_S (j := q2) (by omega) F hW 1 (by decide) rfl fl_RX7_272 dX7_copy_61 ?_
          refine lv_icmp_eq (tgt := 70) hx hb dX7_copy_64 (by decide) (fun c_5 => ?_) (fun c_5 => ?_)
          ·
            refine lv_iload hx hb dX7_copy_70 (lv_at hl 7 rfl) ?_
            refine lv_if_lt (tgt := 109) hx hb dX7_copy_72 (by decide) (fun c_6 => ?_) (fun c_6 => ?_)
            ·
              refine lv_bipush (v := (-12)) hx hb dX7_copy_109 (by decide) ?_
              exact hret (-12) σ _ _ _ _ _ hW rfl rfl (by unfold copyP; rw [if_neg c_1, if_neg c_2, hiq, hiq2, if_neg (show ¬ soX σ q = -1 from c_3), if_neg (show ¬ soX σ q2 = -1 from c_4), if_pos (show soX σ q = soX σ q2 from c_5), if_pos c_6]; exact ⟨rfl, rfl⟩) dX7_copy_111
            ·
              refine lv_iload_n hx hb dX7_copy_75 rfl (lv_at hl 4 rfl) ?_
              refine lv_if_lt (tgt := 109) hx hb dX7_copy_76 (by decide) (fun c_7 => ?_) (fun c_7 => ?_)
              ·
                refine lv_bipush (v := (-12)) hx hb dX7_copy_109 (by decide) ?_
                exact hret (-12) σ _ _ _ _ _ hW rfl rfl (by unfold copyP; rw [if_neg c_1, if_neg c_2, hiq, hiq2, if_neg (show ¬ soX σ q = -1 from c_3), if_neg (show ¬ soX σ q2 = -1 from c_4), if_pos (show soX σ q = soX σ q2 from c_5), if_neg c_6, if_pos c_7]; exact ⟨rfl, rfl⟩) dX7_copy_111
              ·
                refine lv_iload_n hx hb dX7_copy_79 rfl (lv_at hl 4 rfl) ?_
                refine lv_aload hx hb dX7_copy_80 (lv_at hl 1 rfl) ?_
                refine xr_S (j := q) (by omega) F hW 2 (by decide) rfl fl_RX7_275 dX7_copy_82 ?_
                refine lv_iload hx hb dX7_copy_85 (lv_at hl 7 rfl) ?_
                refine lv_isub hx hb dX7_copy_87 ?_
                refine lv_icmp_gt (tgt := 109) hx hb dX7_copy_88 (by decide) (fun c_8 => ?_) (fun c_8 => ?_)
                ·
                  refine lv_bipush (v := (-12)) hx hb dX7_copy_109 (by decide) ?_
                  exact hret (-12) σ _ _ _ _ _ hW rfl rfl (by unfold copyP; rw [if_neg c_1, if_neg c_2, hiq, hiq2, if_neg (show ¬ soX σ q = -1 from c_3), if_neg (show ¬ soX σ q2 = -1 from c_4), if_pos (show soX σ q = soX σ q2 from c_5), if_neg c_6, if_neg c_7, if_pos (show siX σ q - k0 < i0 from c_8)]; exact ⟨rfl, rfl⟩) dX7_copy_111
                ·
                  obtain ⟨k1, hk1, hkz1⟩ := hSh q hq; have c88n : ¬ nI k1 - k0 < i0 := by rw [← hkz1]; exact c_8
                  refine lv_iload hx hb dX7_copy_91 (lv_at hl 6 rfl) ?_
                  refine lv_if_lt (tgt := 109) hx hb dX7_copy_93 (by decide) (fun c_9 => ?_) (fun c_9 => ?_)
                  ·
                    refine lv_bipush (v := (-12)) hx hb dX7_copy_109 (by decide) ?_
                    exact hret (-12) σ _ _ _ _ _ hW rfl rfl (by unfold copyP; rw [if_neg c_1, if_neg c_2, hiq, hiq2, if_neg (show ¬ soX σ q = -1 from c_3), if_neg (show ¬ soX σ q2 = -1 from c_4), if_pos (show soX σ q = soX σ q2 from c_5), if_neg c_6, if_neg c_7, if_neg (show ¬ siX σ q - k0 < i0 from c_8), if_pos c_9]; exact ⟨rfl, rfl⟩) dX7_copy_111
                  ·
                    refine lv_iload hx hb dX7_copy_96 (lv_at hl 6 rfl) ?_
                    refine lv_aload hx hb dX7_copy_98 (lv_at hl 0 rfl) ?_
                    refine xr_S (j := q2) (by omega) F hW 2 (by decide) rfl fl_RX7_275 dX7_copy_100 ?_
                    refine lv_iload hx hb dX7_copy_103 (lv_at hl 7 rfl) ?_
                    refine lv_isub hx hb dX7_copy_105 ?_
                    refine lv_icmp_le (tgt := 112) hx hb dX7_copy_106 (by decide) (fun c_10 => ?_) (fun c_10 => ?_)
                    ·
                      obtain ⟨k2, hk2, hkz2⟩ := hSh q2 hq2; have c106n : ¬ nI k2 - k0 < o0 := by rw [← hkz2]; exact Int32.not_lt.mpr c_10
                      refine lv_aload hx hb dX7_copy_112 (lv_at hl 1 rfl) ?_
                      refine xr_S (j := q) (by omega) F hW 0 (by decide) rfl fl_RX7_276 dX7_copy_114 ?_
                      refine lv_iload_n hx hb dX7_copy_117 rfl (lv_at hl 4 rfl) ?_
                      refine lv_aload hx hb dX7_copy_118 (lv_at hl 0 rfl) ?_
                      refine xr_S (j := q2) (by omega) F hW 0 (by decide) rfl fl_RX7_276 dX7_copy_120 ?_
                      refine lv_iload hx hb dX7_copy_123 (lv_at hl 6 rfl) ?_
                      refine lv_iload hx hb dX7_copy_125 (lv_at hl 7 rfl) ?_
                      refine xr_copy (j1 := q) (j2 := q2) F hl.1 hW (by omega) (by omega) ml_RX7_279 c_7 c_9 c_6 (by have := cp_at hk1 c_6 c_7 c88n; omega) (by have := cp_at hk2 c_6 c_9 c106n; omega) (Nat.le_of_ble_eq_true rfl) (by decide) dX7_copy_127 (fun H locs hW => ?_)
                      refine lv_iload hx hb dX7_copy_130 (lv_at hl 7 rfl) ?_
                      exact hret k0 (cpyS σ q q2 i0 o0 k0) _ _ _ _ _ hW rfl rfl (by unfold copyP; rw [if_neg c_1, if_neg c_2, hiq, hiq2, if_neg (show ¬ soX σ q = -1 from c_3), if_neg (show ¬ soX σ q2 = -1 from c_4), if_pos (show soX σ q = soX σ q2 from c_5), if_neg c_6, if_neg c_7, if_neg (show ¬ siX σ q - k0 < i0 from c_8), if_neg c_9, if_neg (show ¬ siX σ q2 - k0 < o0 from Int32.not_lt.mpr c_10)]; exact ⟨rfl, rfl⟩) dX7_copy_132
                    ·
                      refine lv_bipush (v := (-12)) hx hb dX7_copy_109 (by decide) ?_
                      exact hret (-12) σ _ _ _ _ _ hW rfl rfl (by unfold copyP; rw [if_neg c_1, if_neg c_2, hiq, hiq2, if_neg (show ¬ soX σ q = -1 from c_3), if_neg (show ¬ soX σ q2 = -1 from c_4), if_pos (show soX σ q = soX σ q2 from c_5), if_neg c_6, if_neg c_7, if_neg (show ¬ siX σ q - k0 < i0 from c_8), if_neg c_9, if_pos (show siX σ q2 - k0 < o0 from Int32.not_le.mp c_10)]; exact ⟨rfl, rfl⟩) dX7_copy_111
          ·
            refine lv_bipush (v := (-13)) hx hb dX7_copy_67 (by decide) ?_
            exact hret (-13) σ _ _ _ _ _ hW rfl rfl (by unfold copyP; rw [if_neg c_1, if_neg c_2, hiq, hiq2, if_neg (show ¬ soX σ q = -1 from c_3), if_neg (show ¬ soX σ q2 = -1 from c_4), if_neg (show ¬ soX σ q = soX σ q2 from c_5)]; exact ⟨rfl, rfl⟩) dX7_copy_69
        ·
          refine lv_bipush (v := (-11)) hx hb dX7_copy_51 (by decide) ?_
          exact hret (-11) σ _ _ _ _ _ hW rfl rfl (by unfold copyP; rw [if_neg c_1, if_neg c_2, hiq, hiq2, if_neg (show ¬ soX σ q = -1 from c_3), if_pos (show soX σ q2 = -1 from c_4)]; exact ⟨rfl, rfl⟩) dX7_copy_53
    ·
      refine lv_bipush (v := (-2)) hx hb dX7_copy_14 (by decide) ?_
      exact hret (-2) σ _ _ _ _ _ hW rfl rfl (by unfold copyP; rw [if_neg c_1, if_pos c_2]; exact ⟨rfl, rfl⟩) dX7_copy_16
