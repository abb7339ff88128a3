/-! ===== the reference: dinner, feed, image, back, taken ===== -/
theorem dan_step {T : Tb} {i : Nat} (h : T i 6 = 0 ∨ T i 6 = 1) : dangerK T i ||| (T i 6) <<< (nI i &&& 31) = dangerK T (i + 1) := by
  show _ = (if T i 6 = 0 then _ else _)
  rcases h with e | e
  · rw [if_pos e, e, show ∀ z : Int32, (0 : Int32) <<< z = 0 from fun z => by
      apply Int32.toBitVec_inj.1
      rw [Int32.toBitVec_shiftLeft]; simp]
    exact Int32.or_zero
  · rw [if_neg (by rw [e]; decide), e]; rfl
theorem and_all {x z : Int32} (h : x &&& 1023 = x) : x &&& (1023 &&& z) = x &&& z := by rw [← Int32.and_assoc, h]
theorem all_sub (Lx : Lw) (T : Tb) : ∀ k, allK Lx T k &&& 1023 = allK Lx T k
  | 0 => by show (1023 : Int32) &&& 1023 = 1023; decide
  | k + 1 => by
    show (allK Lx T k &&& (mindS Lx T k ^^^ -1)) &&& 1023 = allK Lx T k &&& (mindS Lx T k ^^^ -1)
    rw [Int32.and_assoc, Int32.and_comm (mindS Lx T k ^^^ -1), ← Int32.and_assoc, all_sub Lx T k]
/-- the tapes alike, z bytes on them -/
def TpE (z : Nat) (χ σ : Nat → Nat → Int32) : Prop := z ≤ 160 ∧ χ 1 1 = nI z ∧ σ 0 6 = nI z ∧ ∀ j, j < z → χ 2 j = σ 4 j
def TpF (σ u : Nat → Nat → Int32) : Prop := ∀ o k, o ≠ 4 → ¬ (o = 0 ∧ k = 6) → u o k = σ o k
theorem tp_step {w : Nat} {χ σ : Nat → Nat → Int32} {b : Int32} (h : TpE w χ σ) (hw : w < 160) : TpE (w + 1) (addS χ b) (upR (upR σ 4 w b) 0 6 (nI (w + 1))) := by
  obtain ⟨_, h1, h2, h3⟩ := h
  have e : addS χ b = upR (upR χ 2 w b) 1 1 (nI (w + 1)) := by
    unfold addS
    rw [h1, if_neg (nI_pos (by omega)), if_neg (fun q => by have := mi_le (a := 160) (b := w) q (by decide) (by omega); omega), iN_nI (by omega), nI_1]
  rw [e]
  refine ⟨by omega, by rw [upR_self]; exact pk_us, by rw [upR_self]; exact pk_us, fun j hj => ?_⟩
  rw [up_ne2 (show (2 : Nat) ≠ 1 by decide), upR_self, up_ne2 (show (4 : Nat) ≠ 0 by decide), upR_self]
  by_cases q : j = w
  · subst q; rw [pk_us, pk_us]
  · rw [pk_un q, pk_un q]; exact h3 j (by omega)
theorem tp_fr {w : Nat} {σ u : Nat → Nat → Int32} {b v : Int32} (h : TpF σ u) : TpF σ (upR (upR u 4 w b) 0 6 v) := by
  intro o k ho hk
  by_cases h0 : o = 0
  · subst h0
    rw [upR_self, pk_un (fun q => hk ⟨rfl, q⟩), up_ne2 (by decide)]; exact h 0 k ho hk
  · rw [up_ne2 h0, up_ne2 ho]; exact h o k ho hk
/-- the image -/
def ImM (T : Tb) (u : Nat → Nat → Int32) : Prop := u 0 11 = 1 ∧ (∀ j, j < 30 → u 7 j = keepF T j) ∧ u 8 0 = T 6 1 ∧ u 8 1 = T 6 2 ∧ u 8 2 = T 6 3
def ImF (σ u : Nat → Nat → Int32) : Prop := ∀ o k, o ≠ 7 → o ≠ 8 → ¬ (o = 0 ∧ k = 11) → u o k = σ o k
def backT (T : Tb) (σ : Nat → Nat → Int32) : Tb := upT (upT (upT (layK T (σ 7) 30) 6 1 (σ 8 0)) 6 2 (σ 8 1)) 6 3 (σ 8 2)
def undS (x w : Int32) : Int32 := if w = 0 then 1 else if x = w then 1 else if w = 1 then (if x = 3 then 1 else 0) else if w = 2 then (if x = 4 then 1 else 0) else 0
theorem kind_und : ∀ j, j < 6 → ∀ w, w < 6 → kindF (nI w) 6 (nI j) = undS (nI j) (nI w) := by decide +kernel
abbrev rm_yX8_dinner : Room := { frames := 7, cells := 0, slots := 0, locals := 160 }
set_option maxHeartbeats 800000 in
set_option maxRecDepth 100000 in
theorem kX8_dinner {l : Launch} {D : va_G} {cA : ClassId} {ad : Nat → Nat} {ρ T σ : Nat → Nat → Int32} {sz : Nat} {n : Nat} {Lx : Lw} {w : Int32} (hT : okT n T) (hM : okML n σ Lx) : MMi l yX8_dinner cX8_dinner 7 FieldType.int rm_yX8_dinner [.ref (ad 0), .int w] D cA ad ρ T σ sz (fun (r : Int32) (u : Nat → Nat → Int32) => r = dinnerP Lx T w ∧ Kp ρ u) (fun u : Nat → Nat → Int32 => ment ad cA u T σ) := by
  refine gw_stI (Ff := fun u : Nat → Nat → Int32 => ment ad cA u T σ) (own := RX8) (by decide +kernel) rfl (Nat.le_of_ble_eq_true rfl) ?_
  intro p e s m ar below meth c A Q F hE hsz hW hret ls hl
  obtain ⟨hx, hb, hml, hown, hts⟩ := id F
  have hl : lv_has ls 7 [(0, .ref (ad 0)), (1, .int w)] := hl
  have hs6 := hT.1
  have hsN := hT.2.1
  refine lv_iconst (v := 0) hx hb dX8_dinner_0 (by decide) ?_
  refine lv_istore_n (lv' := [(2, .int 0), (0, .ref (ad 0)), (1, .int w)]) hx hb dX8_dinner_1 rfl hl (by decide) rfl (fun ls hl => ?_)
  refine lv_iconst (v := 0) hx hb dX8_dinner_2 (by decide) ?_
  refine lv_istore_n (lv' := [(3, .int 0), (2, .int 0), (0, .ref (ad 0)), (1, .int w)]) hx hb dX8_dinner_3 rfl hl (by decide) rfl (fun ls hl => ?_)
  refine lv_sipush (v := 1023) hx hb dX8_dinner_4 (by decide) ?_
  refine lv_istore (lv' := [(4, .int 1023), (3, .int 0), (2, .int 0), (0, .ref (ad 0)), (1, .int w)]) hx hb dX8_dinner_7 hl (by decide) rfl (fun ls hl => ?_)
  refine lv_iconst (v := 0) hx hb dX8_dinner_9 (by decide) ?_
  refine lv_istore (lv' := [(5, .int 0), (4, .int 1023), (3, .int 0), (2, .int 0), (0, .ref (ad 0)), (1, .int w)]) hx hb dX8_dinner_10 hl (by decide) rfl (fun ls hl => ?_)
  have L12 : ∀ (k : Nat) (i : Nat) (ρ' : Nat → Nat → Int32) (dd aa bb : Int32), (i ≤ seatsN T) → (seatsN T + 1 ≤ i + k) → (Kp ρ ρ') → (dd = dangerK T i) → (aa = anyK Lx T i) → (bb = allK Lx T i) → ∀ (H : Heap) (locs : List Loc) (ls : Array Slot), MW D cA ad ρ' T σ A s s.heap H locs → lv_has ls 7 [(5, .int (nI i)), (2, .int dd), (3, .int aa), (4, .int bb), (0, .ref (ad 0)), (1, .int w)] → W p l e rm_yX8_dinner s m ar below meth c H locs 0 0 Q (F0 m 12 ls []) := by
    intro k
    induction k with
    | zero => intro i ρ' dd aa bb h1 h2 hkp hdd haa hbb; exact absurd h2 (by omega)
    | succ k ih12 =>
      intro i ρ' dd aa bb h1 h2 hkp hdd haa hbb H locs ls hW hl
      refine lv_iload hx hb dX8_dinner_12 (lv_at hl 0 rfl) ?_
      refine lv_aload_n hx hb dX8_dinner_14 rfl (lv_at hl 4 rfl) ?_
      refine mr_f F hW 0 (by decide) rfl fl_RX8_69 dX8_dinner_15 ?_
      refine lv_as (z := nI (seatsN T)) (hsN) ?_
      refine lv_icmp_ge (tgt := 70) hx hb dX8_dinner_18 (by decide) (fun c_1 => ?_) (fun c_1 => ?_)
      ·
        obtain rfl : i = seatsN T := by have := mi_le (a := seatsN T) (b := i) c_1 (by omega) (by omega); omega
        refine lv_iload_n hx hb dX8_dinner_70 rfl (lv_at hl 5 rfl) ?_
        by_cases c_2 : w = 0
        ·
          refine lv_tableIn (off := 33) (tgt := 104) hx hb dX8_dinner_71 (by rw [c_2]; decide) (by rw [c_2]; decide) (by rw [c_2]; rfl) (by decide) ?_
          refine lv_aload_n hx hb dX8_dinner_104 rfl (lv_at hl 4 rfl) ?_
          refine gw_callVi (As := []) (rest := []) F hl.1 hW (fun _ _ _ => trivial) gw_T_E (by decide) (rfl : ment ad cA _ _ _ 0 = _) rfl (kX8_stuckSet (n := n) (Lx := Lx) hT hM) pd_yX8_stuckSet ml_RX8_79 im_yX8_stuckSet se_yX8_stuckSet ini_RX8 cd_yX8_stuckSet ⟨rfl, rfl⟩ ⟨Nat.le_of_ble_eq_true rfl, Nat.le_of_ble_eq_true rfl⟩ rfl rfl (Nat.le_of_ble_eq_true rfl) ⟨Nat.zero_le _, Nat.zero_le _⟩ dX8_dinner_105 (fun r ρ_4 H locs hp hW _ _ => ?_)
          obtain ⟨rfl, hk_3⟩ := hp
          refine lv_as (z := stuckBS Lx T) rfl ?_
          exact hret (stuckBS Lx T) ρ_4 _ _ _ _ _ hW rfl rfl (by exact ⟨by unfold dinnerP; rw [if_pos c_2], (Kp.trans hkp hk_3)⟩) dX8_dinner_108
        ·
          by_cases c_5 : w = 1
          ·
            refine lv_tableIn (off := 38) (tgt := 109) hx hb dX8_dinner_71 (by rw [c_5]; decide) (by rw [c_5]; decide) (by rw [c_5]; rfl) (by decide) ?_
            refine lv_iload_n hx hb dX8_dinner_109 rfl (lv_at hl 1 rfl) ?_
            exact hret dd ρ' _ _ _ _ _ hW rfl rfl (by exact ⟨by unfold dinnerP; rw [if_neg c_2, if_pos c_5]; exact hdd, hkp⟩) dX8_dinner_110
          ·
            by_cases c_6 : w = 2
            ·
              refine lv_tableIn (off := 40) (tgt := 111) hx hb dX8_dinner_71 (by rw [c_6]; decide) (by rw [c_6]; decide) (by rw [c_6]; rfl) (by decide) ?_
              refine lv_iload_n hx hb dX8_dinner_111 rfl (lv_at hl 2 rfl) ?_
              exact hret aa ρ' _ _ _ _ _ hW rfl rfl (by exact ⟨by unfold dinnerP; rw [if_neg c_2, if_neg c_5, if_pos c_6]; exact haa, hkp⟩) dX8_dinner_112
            ·
              by_cases c_7 : w = 3
              ·
                refine lv_tableIn (off := 42) (tgt := 113) hx hb dX8_dinner_71 (by rw [c_7]; decide) (by rw [c_7]; decide) (by rw [c_7]; rfl) (by decide) ?_
                refine lv_iload hx hb dX8_dinner_113 (lv_at hl 3 rfl) ?_
                exact hret bb ρ' _ _ _ _ _ hW rfl rfl (by exact ⟨by unfold dinnerP; rw [if_neg c_2, if_neg c_5, if_neg c_6, if_pos c_7]; exact hbb, hkp⟩) dX8_dinner_115
              ·
                by_cases c_8 : w = 4
                ·
                  refine lv_tableIn (off := 45) (tgt := 116) hx hb dX8_dinner_71 (by rw [c_8]; decide) (by rw [c_8]; decide) (by rw [c_8]; rfl) (by decide) ?_
                  refine lv_aload_n hx hb dX8_dinner_116 rfl (lv_at hl 4 rfl) ?_
                  refine gw_callVi (As := []) (rest := []) F hl.1 hW (fun _ _ _ => trivial) gw_T_E (by decide) (rfl : ment ad cA _ _ _ 0 = _) rfl (kX8_ateAll (n := n) hT) pd_yX8_ateAll ml_RX8_182 im_yX8_ateAll se_yX8_ateAll ini_RX8 cd_yX8_ateAll ⟨rfl, rfl⟩ ⟨Nat.le_of_ble_eq_true rfl, Nat.le_of_ble_eq_true rfl⟩ rfl rfl (Nat.le_of_ble_eq_true rfl) ⟨Nat.zero_le _, Nat.zero_le _⟩ dX8_dinner_117 (fun r u H locs hp hW _ _ => ?_)
                  subst hp
                  refine lv_as (z := ateS T) rfl ?_
                  exact hret (ateS T) ρ' _ _ _ _ _ hW rfl rfl (by exact ⟨by unfold dinnerP; rw [if_neg c_2, if_neg c_5, if_neg c_6, if_neg c_7, if_pos c_8], hkp⟩) dX8_dinner_120
                ·
                  refine lv_tableOut (tgt := 121) hx hb dX8_dinner_71 (tb_out5_0 c_2 c_5 c_6 c_7 c_8) (by decide) ?_
                  refine lv_bipush (v := (-2)) hx hb dX8_dinner_121 (by decide) ?_
                  exact hret (-2) ρ' _ _ _ _ _ hW rfl rfl (by exact ⟨by unfold dinnerP; rw [if_neg c_2, if_neg c_5, if_neg c_6, if_neg c_7, if_neg c_8], hkp⟩) dX8_dinner_123
      ·
        have hlt : i < seatsN T := mi_nle (a := seatsN T) (b := i) c_1 (by omega) (by omega)
        refine lv_iload_n hx hb dX8_dinner_21 rfl (lv_at hl 1 rfl) ?_
        refine lv_aload_n hx hb dX8_dinner_22 rfl (lv_at hl 4 rfl) ?_
        refine mr_f F hW 3 (by decide) rfl fl_RX8_16 dX8_dinner_23 ?_
        refine lv_iconst (v := 5) hx hb dX8_dinner_26 (by decide) ?_
        refine lv_iload hx hb dX8_dinner_27 (lv_at hl 0 rfl) ?_
        refine lv_imul hx hb dX8_dinner_29 ?_
        refine lv_iconst (v := 4) hx hb dX8_dinner_30 (by decide) ?_
        refine lv_iadd hx hb dX8_dinner_31 ?_
        refine mr_rows i 4 (by omega) (by decide) (mi_5k i 4) F hW dX8_dinner_32 ?_
        refine lv_iload hx hb dX8_dinner_33 (lv_at hl 0 rfl) ?_
        refine lv_ishl hx hb dX8_dinner_35 ?_
        refine lv_ior hx hb dX8_dinner_36 ?_
        refine lv_topi (fun v_9 ev_9 => ?_)
        refine lv_istore_n (lv' := [(2, .int v_9), (5, .int (nI i)), (3, .int aa), (4, .int bb), (0, .ref (ad 0)), (1, .int w)]) hx hb dX8_dinner_37 rfl hl (by decide) rfl (fun ls hl => ?_)
        refine lv_sipush (v := 1023) hx hb dX8_dinner_38 (by decide) ?_
        refine lv_aload_n hx hb dX8_dinner_41 rfl (lv_at hl 4 rfl) ?_
        refine lv_iload hx hb dX8_dinner_42 (lv_at hl 1 rfl) ?_
        refine gw_callVi (As := [.int (nI i)]) (rest := [.int 1023]) F hl.1 hW (fun _ _ _ => trivial) gw_T_E (by decide) (rfl : ment ad cA _ _ _ 0 = _) rfl (kX8_mindSet (n := n) (q := i) (Lx := Lx) hT hM hlt) pd_yX8_mindSet ml_RX8_167 im_yX8_mindSet se_yX8_mindSet ini_RX8 cd_yX8_mindSet ⟨rfl, rfl⟩ ⟨Nat.le_of_ble_eq_true rfl, Nat.le_of_ble_eq_true rfl⟩ rfl rfl (Nat.le_of_ble_eq_true rfl) ⟨Nat.zero_le _, Nat.zero_le _⟩ dX8_dinner_44 (fun r ρ_11 H locs hp hW _ _ => ?_)
        obtain ⟨rfl, hk_10⟩ := hp
        refine lv_as (z := mindS Lx T i) rfl ?_
        refine lv_iconst (v := (-1)) hx hb dX8_dinner_47 (by decide) ?_
        refine lv_ixor hx hb dX8_dinner_48 ?_
        refine lv_iand hx hb dX8_dinner_49 ?_
        refine lv_topi (fun v_12 ev_12 => ?_)
        refine lv_istore (lv' := [(6, .int v_12), (2, .int v_9), (5, .int (nI i)), (3, .int aa), (4, .int bb), (0, .ref (ad 0)), (1, .int w)]) hx hb dX8_dinner_50 hl (by decide) rfl (fun ls hl => ?_)
        refine lv_iload_n hx hb dX8_dinner_52 rfl (lv_at hl 3 rfl) ?_
        refine lv_iload hx hb dX8_dinner_53 (lv_at hl 0 rfl) ?_
        refine lv_ior hx hb dX8_dinner_55 ?_
        refine lv_istore_n (lv' := [(3, .int (aa ||| v_12)), (6, .int v_12), (2, .int v_9), (5, .int (nI i)), (4, .int bb), (0, .ref (ad 0)), (1, .int w)]) hx hb dX8_dinner_56 rfl hl (by decide) rfl (fun ls hl => ?_)
        refine lv_iload hx hb dX8_dinner_57 (lv_at hl 4 rfl) ?_
        refine lv_iload hx hb dX8_dinner_59 (lv_at hl 1 rfl) ?_
        refine lv_iand hx hb dX8_dinner_61 ?_
        refine lv_istore (lv' := [(4, .int (bb &&& v_12)), (3, .int (aa ||| v_12)), (6, .int v_12), (2, .int v_9), (5, .int (nI i)), (0, .ref (ad 0)), (1, .int w)]) hx hb dX8_dinner_62 hl (by decide) rfl (fun ls hl => ?_)
        refine lv_iinc (v := nI (i + 1)) (lv' := [(5, .int (nI (i + 1))), (4, .int (bb &&& v_12)), (3, .int (aa ||| v_12)), (6, .int v_12), (2, .int v_9), (0, .ref (ad 0)), (1, .int w)]) hx hb dX8_dinner_64 hl (k := 4) rfl (nI_1 i) (by decide) rfl (fun ls hl => ?_)
        refine lv_goto (tgt := 12) hx hb dX8_dinner_67 (by decide) ?_
        exact ih12 (i + 1) ρ_11 _ _ _ (by omega) (by omega) ((Kp.trans hkp hk_10)) (by subst ev_12 ev_9; rw [hdd]; exact dan_step (hT.2.2.2.2 i hlt).2.2.2.2.2.2) (by subst ev_12 ev_9; rw [haa]; rfl) (by subst ev_12 ev_9; rw [hbb]; exact and_all (all_sub Lx T i)) _ _ _ hW (lv_sub hl [0, 4, 2, 1, 5, 6] rfl)
  exact L12 (seatsN T + 1) 0 _ 0 0 1023 (Nat.zero_le _) (by omega) (Kp.rf) (rfl) (rfl) (rfl) _ _ _ hW (lv_sub hl [0, 3, 2, 1, 4, 5] rfl)
abbrev rm_yX8_feed : Room := { frames := 2, cells := 0, slots := 0, locals := 42 }
set_option maxHeartbeats 800000 in
set_option maxRecDepth 100000 in
theorem kX8_feed {l : Launch} {D : va_G} {cA : ClassId} {ad : Nat → Nat} {ρ T σ : Nat → Nat → Int32} {sz : Nat} {χ : Nat → Nat → Int32} {z : Nat} {m0 a0 b0 c0 d0 f0 : Int32} (hTp : TpE z χ σ) : MMi l yX8_feed cX8_feed 8 FieldType.int rm_yX8_feed [.ref (ad 0), .int m0, .int a0, .int b0, .int c0, .int d0, .int f0] D cA ad ρ T σ sz (fun (r : Int32) (u : Nat → Nat → Int32) => r = (feedP χ m0 a0 b0 c0 d0 f0).1 ∧ (∃ z1, TpE z1 (feedP χ m0 a0 b0 c0 d0 f0).2 u) ∧ TpF σ u) (fun u : Nat → Nat → Int32 => ment ad cA ρ T u) := by
  refine gw_stI (Ff := fun u : Nat → Nat → Int32 => ment ad cA ρ T u) (own := RX8) (by decide +kernel) rfl (Nat.le_of_ble_eq_true rfl) ?_
  intro p e s m ar below meth c A Q F hE hsz hW hret ls hl
  obtain ⟨hx, hb, hml, hown, hts⟩ := id F
  have hl : lv_has ls 8 [(0, .ref (ad 0)), (1, .int m0), (2, .int a0), (3, .int b0), (4, .int c0), (5, .int d0), (6, .int f0)] := hl
  refine lv_iload_n hx hb dX8_feed_0 rfl (lv_at hl 1 rfl) ?_
  refine lv_iconst (v := 1) hx hb dX8_feed_1 (by decide) ?_
  refine lv_iconst (v := 5) hx hb dX8_feed_2 (by decide) ?_
  refine gw_callP (As := [.int m0, .int 1, .int 5]) (rest := []) F hl.1 (kX8_in) pd_yX8_in ml_RX8_72 st_yX8_in ini_RX8 cd_yX8_in ⟨rfl, rfl⟩ ⟨Nat.le_of_ble_eq_true rfl, Nat.le_of_ble_eq_true rfl⟩ rfl rfl (Nat.le_of_ble_eq_true rfl) ⟨Nat.zero_le _, Nat.zero_le _⟩ dX8_feed_3 ?_
  refine lv_as (z := inP m0 1 5) rfl ?_
  refine lv_if_eq (tgt := 47) hx hb dX8_feed_6 (by decide) (fun c_1 => ?_) (fun c_1 => ?_)
  ·
    refine lv_bipush (v := (-2)) hx hb dX8_feed_47 (by decide) ?_
    exact hret (-2) σ _ _ _ _ _ hW rfl rfl (by unfold feedP; simp only [in_ite]; rw [if_pos c_1]; exact ⟨rfl, ⟨_, hTp⟩, fun _ _ _ _ => rfl⟩) dX8_feed_49
  ·
    have c6n := in_y c_1; obtain ⟨mq, hmq, rfl⟩ : ∃ w, w ≤ 5 ∧ m0 = nI w := nI_of2 rfl (fun z => c6n.1 (Int32.lt_of_lt_of_le z (by decide))) (by rw [i32_le]; exact c6n.2); have himq : iN (nI mq) = mq := iN_nI (by omega)
    refine lv_iload_n hx hb dX8_feed_9 rfl (lv_at hl 2 rfl) ?_
    refine gw_callP (As := [.int a0]) (rest := []) F hl.1 (kX8_isByte) pd_yX8_isByte ml_RX8_92 st_yX8_isByte ini_RX8 cd_yX8_isByte ⟨rfl, rfl⟩ ⟨Nat.le_of_ble_eq_true rfl, Nat.le_of_ble_eq_true rfl⟩ rfl rfl (Nat.le_of_ble_eq_true rfl) ⟨Nat.zero_le _, Nat.zero_le _⟩ dX8_feed_10 ?_
    refine lv_as (z := byteP a0) rfl ?_
    refine lv_if_eq (tgt := 47) hx hb dX8_feed_13 (by decide) (fun c_2 => ?_) (fun c_2 => ?_)
    ·
      refine lv_bipush (v := (-2)) hx hb dX8_feed_47 (by decide) ?_
      exact hret (-2) σ _ _ _ _ _ hW rfl rfl (by unfold feedP; simp only [in_ite]; rw [if_neg c_1, if_pos c_2]; exact ⟨rfl, ⟨_, hTp⟩, fun _ _ _ _ => rfl⟩) dX8_feed_49
    ·
      refine lv_iload_n hx hb dX8_feed_16 rfl (lv_at hl 3 rfl) ?_
      refine gw_callP (As := [.int b0]) (rest := []) F hl.1 (kX8_isByte) pd_yX8_isByte ml_RX8_92 st_yX8_isByte ini_RX8 cd_yX8_isByte ⟨rfl, rfl⟩ ⟨Nat.le_of_ble_eq_true rfl, Nat.le_of_ble_eq_true rfl⟩ rfl rfl (Nat.le_of_ble_eq_true rfl) ⟨Nat.zero_le _, Nat.zero_le _⟩ dX8_feed_17 ?_
      refine lv_as (z := byteP b0) rfl ?_
      refine lv_if_eq (tgt := 47) hx hb dX8_feed_20 (by decide) (fun c_3 => ?_) (fun c_3 => ?_)
      ·
        refine lv_bipush (v := (-2)) hx hb dX8_feed_47 (by decide) ?_
        exact hret (-2) σ _ _ _ _ _ hW rfl rfl (by unfold feedP; simp only [in_ite]; rw [if_neg c_1, if_neg c_2, if_pos c_3]; exact ⟨rfl, ⟨_, hTp⟩, fun _ _ _ _ => rfl⟩) dX8_feed_49
      ·
        refine lv_iload hx hb dX8_feed_23 (lv_at hl 4 rfl) ?_
        refine gw_callP (As := [.int c0]) (rest := []) F hl.1 (kX8_isByte) pd_yX8_isByte ml_RX8_92 st_yX8_isByte ini_RX8 cd_yX8_isByte ⟨rfl, rfl⟩ ⟨Nat.le_of_ble_eq_true rfl, Nat.le_of_ble_eq_true rfl⟩ rfl rfl (Nat.le_of_ble_eq_true rfl) ⟨Nat.zero_le _, Nat.zero_le _⟩ dX8_feed_25 ?_
        refine lv_as (z := byteP c0) rfl ?_
        refine lv_if_eq (tgt := 47) hx hb dX8_feed_28 (by decide) (fun c_4 => ?_) (fun c_4 => ?_)
        ·
          refine lv_bipush (v := (-2)) hx hb dX8_feed_47 (by decide) ?_
          exact hret (-2) σ _ _ _ _ _ hW rfl rfl (by unfold feedP; simp only [in_ite]; rw [if_neg c_1, if_neg c_2, if_neg c_3, if_pos c_4]; exact ⟨rfl, ⟨_, hTp⟩, fun _ _ _ _ => rfl⟩) dX8_feed_49
        ·
          refine lv_iload hx hb dX8_feed_31 (lv_at hl 5 rfl) ?_
          refine gw_callP (As := [.int d0]) (rest := []) F hl.1 (kX8_isByte) pd_yX8_isByte ml_RX8_92 st_yX8_isByte ini_RX8 cd_yX8_isByte ⟨rfl, rfl⟩ ⟨Nat.le_of_ble_eq_true rfl, Nat.le_of_ble_eq_true rfl⟩ rfl rfl (Nat.le_of_ble_eq_true rfl) ⟨Nat.zero_le _, Nat.zero_le _⟩ dX8_feed_33 ?_
          refine lv_as (z := byteP d0) rfl ?_
          refine lv_if_eq (tgt := 47) hx hb dX8_feed_36 (by decide) (fun c_5 => ?_) (fun c_5 => ?_)
          ·
            refine lv_bipush (v := (-2)) hx hb dX8_feed_47 (by decide) ?_
            exact hret (-2) σ _ _ _ _ _ hW rfl rfl (by unfold feedP; simp only [in_ite]; rw [if_neg c_1, if_neg c_2, if_neg c_3, if_neg c_4, if_pos c_5]; exact ⟨rfl, ⟨_, hTp⟩, fun _ _ _ _ => rfl⟩) dX8_feed_49
          ·
            refine lv_iload hx hb dX8_feed_39 (lv_at hl 6 rfl) ?_
            refine gw_callP (As := [.int f0]) (rest := []) F hl.1 (kX8_isByte) pd_yX8_isByte ml_RX8_92 st_yX8_isByte ini_RX8 cd_yX8_isByte ⟨rfl, rfl⟩ ⟨Nat.le_of_ble_eq_true rfl, Nat.le_of_ble_eq_true rfl⟩ rfl rfl (Nat.le_of_ble_eq_true rfl) ⟨Nat.zero_le _, Nat.zero_le _⟩ dX8_feed_41 ?_
            refine lv_as (z := byteP f0) rfl ?_
            refine lv_if_ne (tgt := 50) hx hb dX8_feed_44 (by decide) (fun c_6 => ?_) (fun c_6 => ?_)
            ·
              refine lv_aload_n hx hb dX8_feed_50 rfl (lv_at hl 0 rfl) ?_
              refine mr_f F hW 6 (by decide) rfl fl_RX8_61 dX8_feed_51 ?_
              refine lv_iload_n hx hb dX8_feed_54 rfl (lv_at hl 1 rfl) ?_
              refine lv_iadd hx hb dX8_feed_55 ?_
              refine lv_sipush (v := 160) hx hb dX8_feed_56 (by decide) ?_
              refine lv_icmp_le (tgt := 65) hx hb dX8_feed_59 (by decide) (fun c_7 => ?_) (fun c_7 => ?_)
              ·
                have hzm : z + mq ≤ 160 := (by have h59 := c_7; rw [hTp.2.2.1, nI_add] at h59; have hz16 := hTp.1; exact mi_le (b := 160) h59 (by omega) (by decide))
                refine lv_iconst (v := 0) hx hb dX8_feed_65 (by decide) ?_
                refine lv_istore (lv' := [(7, .int 0), (0, .ref (ad 0)), (1, .int (nI mq)), (2, .int a0), (3, .int b0), (4, .int c0), (5, .int d0), (6, .int f0)]) hx hb dX8_feed_66 hl (by decide) rfl (fun ls hl => ?_)
                have L68 : ∀ (k : Nat) (i : Nat) (σ' : Nat → Nat → Int32), (i ≤ mq) → (mq + 1 ≤ i + k) → (TpE (z + i) (feedK χ a0 b0 c0 d0 f0 i) σ') → (TpF σ σ') → ∀ (H : Heap) (locs : List Loc) (ls : Array Slot), MW D cA ad ρ T σ' A s s.heap H locs → lv_has ls 8 [(7, .int (nI i)), (0, .ref (ad 0)), (1, .int (nI mq)), (2, .int a0), (3, .int b0), (4, .int c0), (5, .int d0), (6, .int f0)] → W p l e rm_yX8_feed s m ar below meth c H locs 0 0 Q (F0 m 68 ls []) := by
                  intro k
                  induction k with
                  | zero => intro i σ' h1 h2 hTI hTF; exact absurd h2 (by omega)
                  | succ k ih68 =>
                    intro i σ' h1 h2 hTI hTF H locs ls hW hl
                    refine lv_iload hx hb dX8_feed_68 (lv_at hl 0 rfl) ?_
                    refine lv_iload_n hx hb dX8_feed_70 rfl (lv_at hl 2 rfl) ?_
                    refine lv_icmp_ge (tgt := 142) hx hb dX8_feed_71 (by decide) (fun c_8 => ?_) (fun c_8 => ?_)
                    ·
                      obtain rfl : mq = i := by have := mi_le c_8 (by omega) (by omega); omega
                      refine lv_aload_n hx hb dX8_feed_142 rfl (lv_at hl 1 rfl) ?_
                      refine mr_f F hW 6 (by decide) rfl fl_RX8_61 dX8_feed_143 ?_
                      exact hret (σ' 0 6) σ' _ _ _ _ _ hW rfl rfl (by unfold feedP; simp only [in_ite]; rw [if_neg c_1, if_neg c_2, if_neg c_3, if_neg c_4, if_neg c_5, if_neg c_6, if_neg (Int32.not_lt.mpr (by rw [hTp.2.1, ← hTp.2.2.1]; exact c_7)), himq]; exact ⟨hTI.2.2.1.trans hTI.2.1.symm, ⟨_, hTI⟩, hTF⟩) dX8_feed_146
                    ·
                      have hlt : i < mq := mi_nle c_8 (by omega) (by omega); have h06 := hTI.2.2.1
                      refine lv_aload_n hx hb dX8_feed_74 rfl (lv_at hl 1 rfl) ?_
                      refine mr_f F hW 5 (by decide) rfl fl_RX8_19 dX8_feed_75 ?_
                      refine lv_aload_n hx hb dX8_feed_78 rfl (lv_at hl 1 rfl) ?_
                      refine mr_f F hW 6 (by decide) rfl fl_RX8_61 dX8_feed_79 ?_
                      refine lv_as (z := nI (z + i)) h06 ?_
                      refine lv_iload hx hb dX8_feed_82 (lv_at hl 0 rfl) ?_
                      refine lv_if_ne (tgt := 91) hx hb dX8_feed_84 (by decide) (fun c_9 => ?_) (fun c_9 => ?_)
                      ·
                        refine lv_iload hx hb dX8_feed_91 (lv_at hl 0 rfl) ?_
                        refine lv_iconst (v := 1) hx hb dX8_feed_93 (by decide) ?_
                        refine lv_icmp_ne (tgt := 101) hx hb dX8_feed_94 (by decide) (fun c_10 => ?_) (fun c_10 => ?_)
                        ·
                          refine lv_iload hx hb dX8_feed_101 (lv_at hl 0 rfl) ?_
                          refine lv_iconst (v := 2) hx hb dX8_feed_103 (by decide) ?_
                          refine lv_icmp_ne (tgt := 112) hx hb dX8_feed_104 (by decide) (fun c_11 => ?_) (fun c_11 => ?_)
                          ·
                            refine lv_iload hx hb dX8_feed_112 (lv_at hl 0 rfl) ?_
                            refine lv_iconst (v := 3) hx hb dX8_feed_114 (by decide) ?_
                            refine lv_icmp_ne (tgt := 123) hx hb dX8_feed_115 (by decide) (fun c_12 => ?_) (fun c_12 => ?_)
                            ·
                              refine lv_iload hx hb dX8_feed_123 (lv_at hl 7 rfl) ?_
                              refine mw_tape F hW (vp_in_nI (by omega) (by decide)) dX8_feed_125 (fun H locs hW => ?_)
                              have hW : MW D cA ad ρ T (upR σ' 4 (z + i) f0) A s s.heap H locs := by rw [nI_clamp (show z + i < 2 ^ 31 by omega)] at hW; exact hW
                              refine lv_aload_n hx hb dX8_feed_126 rfl (lv_at hl 1 rfl) ?_
                              refine lv_dup hx hb dX8_feed_127 rfl ?_
                              refine mr_f F hW 6 (by decide) rfl fl_RX8_61 dX8_feed_128 ?_
                              refine lv_as (z := nI (z + i)) (by rw [up_ne2 (by decide)]; exact h06) ?_
                              refine lv_iconst (v := 1) hx hb dX8_feed_131 (by decide) ?_
                              refine lv_iadd hx hb dX8_feed_132 ?_
                              refine lv_as (z := nI (z + i + 1)) (nI_1 _) ?_
                              refine mw_σ F hW 6 (by decide) fl_RX8_61 rfl (ty := .int) rfl rfl rfl rfl dX8_feed_133 (fun H locs hW => ?_)
                              refine lv_iinc (v := nI (i + 1)) (lv' := [(7, .int (nI (i + 1))), (0, .ref (ad 0)), (1, .int (nI mq)), (2, .int a0), (3, .int b0), (4, .int c0), (5, .int d0), (6, .int f0)]) hx hb dX8_feed_136 hl (k := 0) rfl (nI_1 i) (by decide) rfl (fun ls hl => ?_)
                              refine lv_goto (tgt := 68) hx hb dX8_feed_139 (by decide) ?_
                              exact ih68 (i + 1) _ (by omega) (by omega) (by have hpk : pickF a0 b0 c0 d0 f0 (nI i) = f0 := (by unfold pickF; rw [if_neg c_9, if_neg c_10, if_neg c_11, if_neg c_12]); have hfd : feedK χ a0 b0 c0 d0 f0 (i + 1) = addS (feedK χ a0 b0 c0 d0 f0 i) (pickF a0 b0 c0 d0 f0 (nI i)) := rfl; rw [hpk] at hfd; rw [hfd]; exact tp_step (w := z + i) hTI (by omega)) (tp_fr hTF) _ _ _ hW (lv_sub hl [0, 1, 2, 3, 4, 5, 6, 7] rfl)
                            ·
                              refine lv_iload hx hb dX8_feed_118 (lv_at hl 6 rfl) ?_
                              refine lv_goto (tgt := 125) hx hb dX8_feed_120 (by decide) ?_
                              refine mw_tape F hW (vp_in_nI (by omega) (by decide)) dX8_feed_125 (fun H locs hW => ?_)
                              have hW : MW D cA ad ρ T (upR σ' 4 (z + i) d0) A s s.heap H locs := by rw [nI_clamp (show z + i < 2 ^ 31 by omega)] at hW; exact hW
                              refine lv_aload_n hx hb dX8_feed_126 rfl (lv_at hl 1 rfl) ?_
                              refine lv_dup hx hb dX8_feed_127 rfl ?_
                              refine mr_f F hW 6 (by decide) rfl fl_RX8_61 dX8_feed_128 ?_
                              refine lv_as (z := nI (z + i)) (by rw [up_ne2 (by decide)]; exact h06) ?_
                              refine lv_iconst (v := 1) hx hb dX8_feed_131 (by decide) ?_
                              refine lv_iadd hx hb dX8_feed_132 ?_
                              refine lv_as (z := nI (z + i + 1)) (nI_1 _) ?_
                              refine mw_σ F hW 6 (by decide) fl_RX8_61 rfl (ty := .int) rfl rfl rfl rfl dX8_feed_133 (fun H locs hW => ?_)
                              refine lv_iinc (v := nI (i + 1)) (lv' := [(7, .int (nI (i + 1))), (0, .ref (ad 0)), (1, .int (nI mq)), (2, .int a0), (3, .int b0), (4, .int c0), (5, .int d0), (6, .int f0)]) hx hb dX8_feed_136 hl (k := 0) rfl (nI_1 i) (by decide) rfl (fun ls hl => ?_)
                              refine lv_goto (tgt := 68) hx hb dX8_feed_139 (by decide) ?_
                              exact ih68 (i + 1) _ (by omega) (by omega) (by have hpk : pickF a0 b0 c0 d0 f0 (nI i) = d0 := (by unfold pickF; rw [if_neg c_9, if_neg c_10, if_neg c_11, if_pos c_12]); have hfd : feedK χ a0 b0 c0 d0 f0 (i + 1) = addS (feedK χ a0 b0 c0 d0 f0 i) (pickF a0 b0 c0 d0 f0 (nI i)) := rfl; rw [hpk] at hfd; rw [hfd]; exact tp_step (w := z + i) hTI (by omega)) (tp_fr hTF) _ _ _ hW (lv_sub hl [0, 1, 2, 3, 4, 5, 6, 7] rfl)
                          ·
                            refine lv_iload hx hb dX8_feed_107 (lv_at hl 5 rfl) ?_
                            refine lv_goto (tgt := 125) hx hb dX8_feed_109 (by decide) ?_
                            refine mw_tape F hW (vp_in_nI (by omega) (by decide)) dX8_feed_125 (fun H locs hW => ?_)
                            have hW : MW D cA ad ρ T (upR σ' 4 (z + i) c0) A s s.heap H locs := by rw [nI_clamp (show z + i < 2 ^ 31 by omega)] at hW; exact hW
                            refine lv_aload_n hx hb dX8_feed_126 rfl (lv_at hl 1 rfl) ?_
                            refine lv_dup hx hb dX8_feed_127 rfl ?_
                            refine mr_f F hW 6 (by decide) rfl fl_RX8_61 dX8_feed_128 ?_
                            refine lv_as (z := nI (z + i)) (by rw [up_ne2 (by decide)]; exact h06) ?_
                            refine lv_iconst (v := 1) hx hb dX8_feed_131 (by decide) ?_
                            refine lv_iadd hx hb dX8_feed_132 ?_
                            refine lv_as (z := nI (z + i + 1)) (nI_1 _) ?_
                            refine mw_σ F hW 6 (by decide) fl_RX8_61 rfl (ty := .int) rfl rfl rfl rfl dX8_feed_133 (fun H locs hW => ?_)
                            refine lv_iinc (v := nI (i + 1)) (lv' := [(7, .int (nI (i + 1))), (0, .ref (ad 0)), (1, .int (nI mq)), (2, .int a0), (3, .int b0), (4, .int c0), (5, .int d0), (6, .int f0)]) hx hb dX8_feed_136 hl (k := 0) rfl (nI_1 i) (by decide) rfl (fun ls hl => ?_)
                            refine lv_goto (tgt := 68) hx hb dX8_feed_139 (by decide) ?_
                            exact ih68 (i + 1) _ (by omega) (by omega) (by have hpk : pickF a0 b0 c0 d0 f0 (nI i) = c0 := (by unfold pickF; rw [if_neg c_9, if_neg c_10, if_pos c_11]); have hfd : feedK χ a0 b0 c0 d0 f0 (i + 1) = addS (feedK χ a0 b0 c0 d0 f0 i) (pickF a0 b0 c0 d0 f0 (nI i)) := rfl; rw [hpk] at hfd; rw [hfd]; exact tp_step (w := z + i) hTI (by omega)) (tp_fr hTF) _ _ _ hW (lv_sub hl [0, 1, 2, 3, 4, 5, 6, 7] rfl)
                        ·
                          refine lv_iload_n hx hb dX8_feed_97 rfl (lv_at hl 4 rfl) ?_
                          refine lv_goto (tgt := 125) hx hb dX8_feed_98 (by decide) ?_
                          refine mw_tape F hW (vp_in_nI (by omega) (by decide)) dX8_feed_125 (fun H locs hW => ?_)
                          have hW : MW D cA ad ρ T (upR σ' 4 (z + i) b0) A s s.heap H locs := by rw [nI_clamp (show z + i < 2 ^ 31 by omega)] at hW; exact hW
                          refine lv_aload_n hx hb dX8_feed_126 rfl (lv_at hl 1 rfl) ?_
                          refine lv_dup hx hb dX8_feed_127 rfl ?_
                          refine mr_f F hW 6 (by decide) rfl fl_RX8_61 dX8_feed_128 ?_
                          refine lv_as (z := nI (z + i)) (by rw [up_ne2 (by decide)]; exact h06) ?_
                          refine lv_iconst (v := 1) hx hb dX8_feed_131 (by decide) ?_
                          refine lv_iadd hx hb dX8_feed_132 ?_
                          refine lv_as (z := nI (z + i + 1)) (nI_1 _) ?_
                          refine mw_σ F hW 6 (by decide) fl_RX8_61 rfl (ty := .int) rfl rfl rfl rfl dX8_feed_133 (fun H locs hW => ?_)
                          refine lv_iinc (v := nI (i + 1)) (lv' := [(7, .int (nI (i + 1))), (0, .ref (ad 0)), (1, .int (nI mq)), (2, .int a0), (3, .int b0), (4, .int c0), (5, .int d0), (6, .int f0)]) hx hb dX8_feed_136 hl (k := 0) rfl (nI_1 i) (by decide) rfl (fun ls hl => ?_)
                          refine lv_goto (tgt := 68) hx hb dX8_feed_139 (by decide) ?_
                          exact ih68 (i + 1) _ (by omega) (by omega) (by have hpk : pickF a0 b0 c0 d0 f0 (nI i) = b0 := (by unfold pickF; rw [if_neg c_9, if_pos c_10]); have hfd : feedK χ a0 b0 c0 d0 f0 (i + 1) = addS (feedK χ a0 b0 c0 d0 f0 i) (pickF a0 b0 c0 d0 f0 (nI i)) := rfl; rw [hpk] at hfd; rw [hfd]; exact tp_step (w := z + i) hTI (by omega)) (tp_fr hTF) _ _ _ hW (lv_sub hl [0, 1, 2, 3, 4, 5, 6, 7] rfl)
                      ·
                        refine lv_iload_n hx hb dX8_feed_87 rfl (lv_at hl 3 rfl) ?_
                        refine lv_goto (tgt := 125) hx hb dX8_feed_88 (by decide) ?_
                        refine mw_tape F hW (vp_in_nI (by omega) (by decide)) dX8_feed_125 (fun H locs hW => ?_)
                        have hW : MW D cA ad ρ T (upR σ' 4 (z + i) a0) A s s.heap H locs := by rw [nI_clamp (show z + i < 2 ^ 31 by omega)] at hW; exact hW
                        refine lv_aload_n hx hb dX8_feed_126 rfl (lv_at hl 1 rfl) ?_
                        refine lv_dup hx hb dX8_feed_127 rfl ?_
                        refine mr_f F hW 6 (by decide) rfl fl_RX8_61 dX8_feed_128 ?_
                        refine lv_as (z := nI (z + i)) (by rw [up_ne2 (by decide)]; exact h06) ?_
                        refine lv_iconst (v := 1) hx hb dX8_feed_131 (by decide) ?_
                        refine lv_iadd hx hb dX8_feed_132 ?_
                        refine lv_as (z := nI (z + i + 1)) (nI_1 _) ?_
                        refine mw_σ F hW 6 (by decide) fl_RX8_61 rfl (ty := .int) rfl rfl rfl rfl dX8_feed_133 (fun H locs hW => ?_)
                        refine lv_iinc (v := nI (i + 1)) (lv' := [(7, .int (nI (i + 1))), (0, .ref (ad 0)), (1, .int (nI mq)), (2, .int a0), (3, .int b0), (4, .int c0), (5, .int d0), (6, .int f0)]) hx hb dX8_feed_136 hl (k := 0) rfl (nI_1 i) (by decide) rfl (fun ls hl => ?_)
                        refine lv_goto (tgt := 68) hx hb dX8_feed_139 (by decide) ?_
                        exact ih68 (i + 1) _ (by omega) (by omega) (by have hpk : pickF a0 b0 c0 d0 f0 (nI i) = a0 := (by unfold pickF; rw [if_pos c_9]); have hfd : feedK χ a0 b0 c0 d0 f0 (i + 1) = addS (feedK χ a0 b0 c0 d0 f0 i) (pickF a0 b0 c0 d0 f0 (nI i)) := rfl; rw [hpk] at hfd; rw [hfd]; exact tp_step (w := z + i) hTI (by omega)) (tp_fr hTF) _ _ _ hW (lv_sub hl [0, 1, 2, 3, 4, 5, 6, 7] rfl)
                exact L68 (mq + 1) 0 _ (Nat.zero_le _) (by omega) (hTp) (fun _ _ _ _ => rfl) _ _ _ hW (lv_sub hl [0, 1, 2, 3, 4, 5, 6, 7] rfl)
              ·
                refine lv_bipush (v := (-4)) hx hb dX8_feed_62 (by decide) ?_
                exact hret (-4) σ _ _ _ _ _ hW rfl rfl (by unfold feedP; simp only [in_ite]; rw [if_neg c_1, if_neg c_2, if_neg c_3, if_neg c_4, if_neg c_5, if_neg c_6, if_pos (Int32.not_le.mp (by rw [hTp.2.1, ← hTp.2.2.1]; exact c_7))]; exact ⟨rfl, ⟨_, hTp⟩, fun _ _ _ _ => rfl⟩) dX8_feed_64
            ·
              refine lv_bipush (v := (-2)) hx hb dX8_feed_47 (by decide) ?_
              exact hret (-2) σ _ _ _ _ _ hW rfl rfl (by unfold feedP; simp only [in_ite]; rw [if_neg c_1, if_neg c_2, if_neg c_3, if_neg c_4, if_neg c_5, if_pos c_6]; exact ⟨rfl, ⟨_, hTp⟩, fun _ _ _ _ => rfl⟩) dX8_feed_49
theorem im_row {σ : Nat → Nat → Int32} {o k : Nat} (h : ¬ (o = 0 ∧ k = 11)) : upR σ 0 11 1 o k = σ o k := by
  by_cases h0 : o = 0
  · subst h0; rw [upR_self]; exact pk_un (fun q => h ⟨rfl, q⟩)
  · exact congrFun (up_ne2 h0) k
abbrev rm_yX8_image : Room := { frames := 0, cells := 0, slots := 0, locals := 0 }
set_option maxHeartbeats 800000 in
set_option maxRecDepth 100000 in
theorem kX8_image {l : Launch} {D : va_G} {cA : ClassId} {ad : Nat → Nat} {ρ T σ : Nat → Nat → Int32} {sz : Nat}   : MMi l yX8_image cX8_image 2 FieldType.int rm_yX8_image [.ref (ad 0)] D cA ad ρ T σ sz (fun (r : Int32) (u : Nat → Nat → Int32) => r = T 6 1 ∧ ImM T u ∧ ImF σ u) (fun u : Nat → Nat → Int32 => ment ad cA ρ T u) := by
  refine gw_stI (Ff := fun u : Nat → Nat → Int32 => ment ad cA ρ T u) (own := RX8) (by decide +kernel) rfl (Nat.le_of_ble_eq_true rfl) ?_
  intro p e s m ar below meth c A Q F hE hsz hW hret ls hl
  obtain ⟨hx, hb, hml, hown, hts⟩ := id F
  have hl : lv_has ls 2 [(0, .ref (ad 0))] := hl
  refine lv_aload_n hx hb dX8_image_0 rfl (lv_at hl 0 rfl) ?_
  refine lv_iconst (v := 1) hx hb dX8_image_1 (by decide) ?_
  refine mw_σ F hW 11 (by decide) fl_RX8_237 rfl (ty := .boolean) rfl rfl rfl rfl dX8_image_2 (fun H locs hW => ?_)
  refine lv_iconst (v := 0) hx hb dX8_image_5 (by decide) ?_
  refine lv_istore_n (lv' := [(1, .int 0), (0, .ref (ad 0))]) hx hb dX8_image_6 rfl hl (by decide) rfl (fun ls hl => ?_)
  have L7 : ∀ (k : Nat) (i : Nat) (σ' : Nat → Nat → Int32), (i ≤ 30) → (31 ≤ i + k) → (∀ j, j < i → σ' 7 j = keepF T j) → (∀ o, o ≠ 7 → σ' o = upR σ 0 11 1 o) → ∀ (H : Heap) (locs : List Loc) (ls : Array Slot), MW D cA ad ρ T σ' A s s.heap H locs → lv_has ls 2 [(1, .int (nI i)), (0, .ref (ad 0))] → W p l e rm_yX8_image s m ar below meth c H locs 0 0 Q (F0 m 7 ls []) := by
    intro k
    induction k with
    | zero => intro i σ' h1 h2 hkk hot; exact absurd h2 (by omega)
    | succ k ih7 =>
      intro i σ' h1 h2 hkk hot H locs ls hW hl
      refine lv_iload_n hx hb dX8_image_7 rfl (lv_at hl 0 rfl) ?_
      refine lv_bipush (v := 30) hx hb dX8_image_8 (by decide) ?_
      refine lv_icmp_ge (tgt := 31) hx hb dX8_image_10 (by decide) (fun c_1 => ?_) (fun c_1 => ?_)
      ·
        obtain rfl : i = 30 := by have := mi_le (a := 30) (b := i) c_1 (by decide) (by omega); omega
        refine lv_aload_n hx hb dX8_image_31 rfl (lv_at hl 1 rfl) ?_
        refine mr_f F hW 13 (by decide) rfl fl_RX8_31 dX8_image_32 ?_
        refine lv_iconst (v := 0) hx hb dX8_image_35 (by decide) ?_
        refine lv_aload_n hx hb dX8_image_36 rfl (lv_at hl 1 rfl) ?_
        refine mr_f F hW 0 (by decide) rfl fl_RX8_69 dX8_image_37 ?_
        refine mw_imageHeld F hW (vp_in_nI (n := 0) (by decide) (by decide)) dX8_image_40 (fun H locs hW => ?_)
        have hW : MW D cA ad ρ T (upR σ' 8 0 (T 6 1)) A s s.heap H locs := hW
        refine lv_aload_n hx hb dX8_image_41 rfl (lv_at hl 1 rfl) ?_
        refine mr_f F hW 13 (by decide) rfl fl_RX8_31 dX8_image_42 ?_
        refine lv_iconst (v := 1) hx hb dX8_image_45 (by decide) ?_
        refine lv_aload_n hx hb dX8_image_46 rfl (lv_at hl 1 rfl) ?_
        refine mr_f F hW 4 (by decide) rfl fl_RX8_76 dX8_image_47 ?_
        refine mw_imageHeld F hW (vp_in_nI (n := 1) (by decide) (by decide)) dX8_image_50 (fun H locs hW => ?_)
        have hW : MW D cA ad ρ T (upR (upR σ' 8 0 (T 6 1)) 8 1 (T 6 2)) A s s.heap H locs := hW
        refine lv_aload_n hx hb dX8_image_51 rfl (lv_at hl 1 rfl) ?_
        refine mr_f F hW 13 (by decide) rfl fl_RX8_31 dX8_image_52 ?_
        refine lv_iconst (v := 2) hx hb dX8_image_55 (by decide) ?_
        refine lv_aload_n hx hb dX8_image_56 rfl (lv_at hl 1 rfl) ?_
        refine mr_f F hW 10 (by decide) rfl fl_RX8_89 dX8_image_57 ?_
        refine mw_imageHeld F hW (vp_in_nI (n := 2) (by decide) (by decide)) dX8_image_60 (fun H locs hW => ?_)
        have hW : MW D cA ad ρ T (upR (upR (upR σ' 8 0 (T 6 1)) 8 1 (T 6 2)) 8 2 (T 6 3)) A s s.heap H locs := hW
        refine lv_aload_n hx hb dX8_image_61 rfl (lv_at hl 1 rfl) ?_
        refine mr_f F hW 0 (by decide) rfl fl_RX8_69 dX8_image_62 ?_
        exact hret (T 6 1) (upR (upR (upR σ' 8 0 (T 6 1)) 8 1 (T 6 2)) 8 2 (T 6 3)) _ _ _ _ _ hW rfl rfl (⟨rfl, ⟨by rw [up_ne2 (by decide), up_ne2 (by decide), up_ne2 (by decide), hot 0 (by decide), upR_self]; exact pk_us, fun j hj => by rw [up_ne2 (by decide), up_ne2 (by decide), up_ne2 (by decide)]; exact hkk j hj, by rw [upR_self, pk_un (by decide), upR_self, pk_un (by decide), upR_self]; exact pk_us, by rw [upR_self, pk_un (by decide), upR_self]; exact pk_us, by rw [upR_self]; exact pk_us⟩, fun o k h7 h8 h11 => by rw [up_ne2 h8, up_ne2 h8, up_ne2 h8, hot o h7]; exact im_row h11⟩) dX8_image_65
      ·
        have hlt : i < 30 := mi_nle (a := 30) (b := i) c_1 (by decide) (by omega)
        refine lv_aload_n hx hb dX8_image_13 rfl (lv_at hl 1 rfl) ?_
        refine mr_f F hW 12 (by decide) rfl fl_RX8_28 dX8_image_14 ?_
        refine lv_iload_n hx hb dX8_image_17 rfl (lv_at hl 0 rfl) ?_
        refine lv_aload_n hx hb dX8_image_18 rfl (lv_at hl 1 rfl) ?_
        refine mr_f F hW 3 (by decide) rfl fl_RX8_16 dX8_image_19 ?_
        refine lv_iload_n hx hb dX8_image_22 rfl (lv_at hl 0 rfl) ?_
        refine mr_rows (i / 5) (i % 5) (by omega) (by omega) (by rw [show 5 * (i / 5) + i % 5 = i by omega]) F hW dX8_image_23 ?_
        refine lv_as (z := keepF T i) rfl ?_
        refine mw_imageRows F hW (vp_in_nI (by omega) (by decide)) dX8_image_24 (fun H locs hW => ?_)
        have hW : MW D cA ad ρ T (upR σ' 7 i (keepF T i)) A s s.heap H locs := by rw [nI_clamp (show i < 2 ^ 31 by omega)] at hW; exact hW
        refine lv_iinc (v := nI (i + 1)) (lv' := [(1, .int (nI (i + 1))), (0, .ref (ad 0))]) hx hb dX8_image_25 hl (k := 0) rfl (nI_1 i) (by decide) rfl (fun ls hl => ?_)
        refine lv_goto (tgt := 7) hx hb dX8_image_28 (by decide) ?_
        exact ih7 (i + 1) (upR σ' 7 i (keepF T i)) (by omega) (by omega) (by rw [upR_self]; exact keep_s hkk) (fun o ho => by rw [up_ne2 ho]; exact hot o ho) _ _ _ hW (lv_sub hl [0, 1] rfl)
  exact L7 31 0 _ (by omega) (by omega) (fun j hj => absurd hj (by omega)) (fun _ _ => rfl) _ _ _ hW (lv_sub hl [0, 1] rfl)
abbrev rm_yX8_back : Room := { frames := 0, cells := 0, slots := 0, locals := 0 }
set_option maxHeartbeats 800000 in
set_option maxRecDepth 100000 in
theorem kX8_back {l : Launch} {D : va_G} {cA : ClassId} {ad : Nat → Nat} {ρ T σ : Nat → Nat → Int32} {sz : Nat}   : MMi l yX8_back cX8_back 2 FieldType.int rm_yX8_back [.ref (ad 0)] D cA ad ρ T σ sz (fun (r : Int32) (u : Tb) => r = (if σ 0 11 = 0 then -3 else σ 8 0) ∧ u = (if σ 0 11 = 0 then T else backT T σ)) (fun u : Tb => ment ad cA ρ u σ) := by
  refine gw_stI (Ff := fun u : Tb => ment ad cA ρ u σ) (own := RX8) (by decide +kernel) rfl (Nat.le_of_ble_eq_true rfl) ?_
  intro p e s m ar below meth c A Q F hE hsz hW hret ls hl
  obtain ⟨hx, hb, hml, hown, hts⟩ := id F
  have hl : lv_has ls 2 [(0, .ref (ad 0))] := hl
  refine lv_aload_n hx hb dX8_back_0 rfl (lv_at hl 0 rfl) ?_
  refine mr_f F hW 11 (by decide) rfl fl_RX8_237 dX8_back_1 ?_
  refine lv_if_ne (tgt := 10) hx hb dX8_back_4 (by decide) (fun c_1 => ?_) (fun c_1 => ?_)
  ·
    refine lv_iconst (v := 0) hx hb dX8_back_10 (by decide) ?_
    refine lv_istore_n (lv' := [(1, .int 0), (0, .ref (ad 0))]) hx hb dX8_back_11 rfl hl (by decide) rfl (fun ls hl => ?_)
    have hW : MW D cA ad ρ (layK T (σ 7) 0) σ A s s.heap s.heap [] := by rw [layK_0]; exact hW
    have L12 : ∀ (k : Nat) (i : Nat), (i ≤ 30) → (31 ≤ i + k) → ∀ (H : Heap) (locs : List Loc) (ls : Array Slot), MW D cA ad ρ (layK T (σ 7) i) σ A s s.heap H locs → lv_has ls 2 [(1, .int (nI i)), (0, .ref (ad 0))] → W p l e rm_yX8_back s m ar below meth c H locs 0 0 Q (F0 m 12 ls []) := by
      intro k
      induction k with
      | zero => intro i h1 h2; exact absurd h2 (by omega)
      | succ k ih12 =>
        intro i h1 h2 H locs ls hW hl
        refine lv_iload_n hx hb dX8_back_12 rfl (lv_at hl 0 rfl) ?_
        refine lv_bipush (v := 30) hx hb dX8_back_13 (by decide) ?_
        refine lv_icmp_ge (tgt := 36) hx hb dX8_back_15 (by decide) (fun c_2 => ?_) (fun c_2 => ?_)
        ·
          obtain rfl : i = 30 := by have := mi_le (a := 30) (b := i) c_2 (by decide) (by omega); omega
          refine lv_aload_n hx hb dX8_back_36 rfl (lv_at hl 1 rfl) ?_
          refine lv_aload_n hx hb dX8_back_37 rfl (lv_at hl 1 rfl) ?_
          refine mr_f F hW 13 (by decide) rfl fl_RX8_31 dX8_back_38 ?_
          refine lv_iconst (v := 0) hx hb dX8_back_41 (by decide) ?_
          refine mr_imageHeld F hW (vp_in_nI (n := 0) (by decide) (by decide)) dX8_back_42 ?_
          refine lv_as (z := σ 8 0) rfl ?_
          refine mw_T (j := 1) F hW 0 (by decide) fl_RX8_69 dX8_back_43 (fun H locs hW => ?_)
          refine lv_aload_n hx hb dX8_back_46 rfl (lv_at hl 1 rfl) ?_
          refine lv_aload_n hx hb dX8_back_47 rfl (lv_at hl 1 rfl) ?_
          refine mr_f F hW 13 (by decide) rfl fl_RX8_31 dX8_back_48 ?_
          refine lv_iconst (v := 1) hx hb dX8_back_51 (by decide) ?_
          refine mr_imageHeld F hW (vp_in_nI (n := 1) (by decide) (by decide)) dX8_back_52 ?_
          refine lv_as (z := σ 8 1) rfl ?_
          refine mw_T (j := 2) F hW 4 (by decide) fl_RX8_76 dX8_back_53 (fun H locs hW => ?_)
          refine lv_aload_n hx hb dX8_back_56 rfl (lv_at hl 1 rfl) ?_
          refine lv_aload_n hx hb dX8_back_57 rfl (lv_at hl 1 rfl) ?_
          refine mr_f F hW 13 (by decide) rfl fl_RX8_31 dX8_back_58 ?_
          refine lv_iconst (v := 2) hx hb dX8_back_61 (by decide) ?_
          refine mr_imageHeld F hW (vp_in_nI (n := 2) (by decide) (by decide)) dX8_back_62 ?_
          refine lv_as (z := σ 8 2) rfl ?_
          refine mw_T (j := 3) F hW 10 (by decide) fl_RX8_89 dX8_back_63 (fun H locs hW => ?_)
          refine lv_aload_n hx hb dX8_back_66 rfl (lv_at hl 1 rfl) ?_
          refine mr_f F hW 0 (by decide) rfl fl_RX8_69 dX8_back_67 ?_
          exact hret ((upT (upT (upT (layK T (σ 7) 30) 6 1 (σ 8 0)) 6 2 (σ 8 1)) 6 3 (σ 8 2)) 6 1) (upT (upT (upT (layK T (σ 7) 30) 6 1 (σ 8 0)) 6 2 (σ 8 1)) 6 3 (σ 8 2)) _ _ _ _ _ hW rfl rfl (by rw [if_neg c_1, if_neg c_1]; exact ⟨by rw [upT_ne (by omega), upT_ne (by omega)]; exact upT_at, rfl⟩) dX8_back_70
        ·
          have hlt : i < 30 := mi_nle (a := 30) (b := i) c_2 (by decide) (by omega)
          refine lv_aload_n hx hb dX8_back_18 rfl (lv_at hl 1 rfl) ?_
          refine mr_f F hW 3 (by decide) rfl fl_RX8_16 dX8_back_19 ?_
          refine lv_iload_n hx hb dX8_back_22 rfl (lv_at hl 0 rfl) ?_
          refine lv_aload_n hx hb dX8_back_23 rfl (lv_at hl 1 rfl) ?_
          refine mr_f F hW 12 (by decide) rfl fl_RX8_28 dX8_back_24 ?_
          refine lv_iload_n hx hb dX8_back_27 rfl (lv_at hl 0 rfl) ?_
          refine mr_imageRows F hW (vp_in_nI (by omega) (by decide)) dX8_back_28 ?_
          refine lv_as (z := σ 7 i) (by rw [nI_clamp (show i < 2 ^ 31 by omega)]) ?_
          refine mw_rows (i / 5) (i % 5) (by omega) (by omega) (by rw [show 5 * (i / 5) + i % 5 = i by omega]) F hW dX8_back_29 (fun H locs hW => ?_)
          have hW : MW D cA ad ρ (layK T (σ 7) (i + 1)) σ A s s.heap H locs := by rw [← layK_s hlt]; exact hW
          refine lv_iinc (v := nI (i + 1)) (lv' := [(1, .int (nI (i + 1))), (0, .ref (ad 0))]) hx hb dX8_back_30 hl (k := 0) rfl (nI_1 i) (by decide) rfl (fun ls hl => ?_)
          refine lv_goto (tgt := 12) hx hb dX8_back_33 (by decide) ?_
          exact ih12 (i + 1) (by omega) (by omega) _ _ _ hW (lv_sub hl [0, 1] rfl)
    exact L12 31 0 (by omega) (by omega) _ _ _ hW (lv_sub hl [0, 1] rfl)
  ·
    refine lv_bipush (v := (-3)) hx hb dX8_back_7 (by decide) ?_
    exact hret (-3) T _ _ _ _ _ hW rfl rfl (by rw [if_pos c_1, if_pos c_1]; exact ⟨rfl, rfl⟩) dX8_back_9
set_option maxHeartbeats 800000 in
set_option maxRecDepth 100000 in
theorem kX8_isUnder {l : Launch} {x w : Int32}  : PM l yX8_isUnder cX8_isUnder 2 FieldType.boolean { frames := 0, cells := 0, slots := 0, locals := 0 } [.int x, .int w] (undS x w) := by
  refine gw_stS (own := RX8) (by decide +kernel) rfl (Nat.le_of_ble_eq_true rfl) ?_
  intro p e s m ar below meth c Q F hret ls hl
  obtain ⟨hx, hb, hml, hown, hts⟩ := id F
  have hl : lv_has ls 2 [(0, .int x), (1, .int w)] := hl
  refine lv_iload_n hx hb dX8_isUnder_0 rfl (lv_at hl 1 rfl) ?_
  refine lv_if_eq (tgt := 29) hx hb dX8_isUnder_1 (by decide) (fun c_1 => ?_) (fun c_1 => ?_)
  ·
    refine lv_iconst (v := 1) hx hb dX8_isUnder_29 (by decide) ?_
    refine lv_goto (tgt := 34) hx hb dX8_isUnder_30 (by decide) ?_
    exact hret 1 _ _ rfl (by unfold undS; rw [if_pos c_1]) dX8_isUnder_34
  ·
    refine lv_iload_n hx hb dX8_isUnder_4 rfl (lv_at hl 0 rfl) ?_
    refine lv_iload_n hx hb dX8_isUnder_5 rfl (lv_at hl 1 rfl) ?_
    refine lv_icmp_eq (tgt := 29) hx hb dX8_isUnder_6 (by decide) (fun c_2 => ?_) (fun c_2 => ?_)
    ·
      refine lv_iconst (v := 1) hx hb dX8_isUnder_29 (by decide) ?_
      refine lv_goto (tgt := 34) hx hb dX8_isUnder_30 (by decide) ?_
      exact hret 1 _ _ rfl (by unfold undS; rw [if_neg c_1, if_pos c_2]) dX8_isUnder_34
    ·
      refine lv_iload_n hx hb dX8_isUnder_9 rfl (lv_at hl 1 rfl) ?_
      refine lv_iconst (v := 1) hx hb dX8_isUnder_10 (by decide) ?_
      refine lv_icmp_ne (tgt := 19) hx hb dX8_isUnder_11 (by decide) (fun c_3 => ?_) (fun c_3 => ?_)
      ·
        refine lv_iload_n hx hb dX8_isUnder_19 rfl (lv_at hl 1 rfl) ?_
        refine lv_iconst (v := 2) hx hb dX8_isUnder_20 (by decide) ?_
        refine lv_icmp_ne (tgt := 33) hx hb dX8_isUnder_21 (by decide) (fun c_4 => ?_) (fun c_4 => ?_)
        ·
          refine lv_iconst (v := 0) hx hb dX8_isUnder_33 (by decide) ?_
          exact hret 0 _ _ rfl (by unfold undS; rw [if_neg c_1, if_neg c_2, if_neg c_3, if_neg c_4]) dX8_isUnder_34
        ·
          refine lv_iload_n hx hb dX8_isUnder_24 rfl (lv_at hl 0 rfl) ?_
          refine lv_iconst (v := 4) hx hb dX8_isUnder_25 (by decide) ?_
          refine lv_icmp_ne (tgt := 33) hx hb dX8_isUnder_26 (by decide) (fun c_5 => ?_) (fun c_5 => ?_)
          ·
            refine lv_iconst (v := 0) hx hb dX8_isUnder_33 (by decide) ?_
            exact hret 0 _ _ rfl (by unfold undS; rw [if_neg c_1, if_neg c_2, if_neg c_3, if_pos c_4, if_neg c_5]) dX8_isUnder_34
          ·
            refine lv_iconst (v := 1) hx hb dX8_isUnder_29 (by decide) ?_
            refine lv_goto (tgt := 34) hx hb dX8_isUnder_30 (by decide) ?_
            exact hret 1 _ _ rfl (by unfold undS; rw [if_neg c_1, if_neg c_2, if_neg c_3, if_pos c_4, if_pos c_5]) dX8_isUnder_34
      ·
        refine lv_iload_n hx hb dX8_isUnder_14 rfl (lv_at hl 0 rfl) ?_
        refine lv_iconst (v := 3) hx hb dX8_isUnder_15 (by decide) ?_
        refine lv_icmp_eq (tgt := 29) hx hb dX8_isUnder_16 (by decide) (fun c_6 => ?_) (fun c_6 => ?_)
        ·
          refine lv_iconst (v := 1) hx hb dX8_isUnder_29 (by decide) ?_
          refine lv_goto (tgt := 34) hx hb dX8_isUnder_30 (by decide) ?_
          exact hret 1 _ _ rfl (by unfold undS; rw [if_neg c_1, if_neg c_2, if_pos c_3, if_pos c_6]) dX8_isUnder_34
        ·
          refine lv_iload_n hx hb dX8_isUnder_19 rfl (lv_at hl 1 rfl) ?_
          refine lv_iconst (v := 2) hx hb dX8_isUnder_20 (by decide) ?_
          refine lv_icmp_ne (tgt := 33) hx hb dX8_isUnder_21 (by decide) (fun c_7 => ?_) (fun c_7 => ?_)
          ·
            refine lv_iconst (v := 0) hx hb dX8_isUnder_33 (by decide) ?_
            exact hret 0 _ _ rfl (by unfold undS; rw [if_neg c_1, if_neg c_2, if_pos c_3, if_neg c_6]) dX8_isUnder_34
          ·
            refine lv_iload_n hx hb dX8_isUnder_24 rfl (lv_at hl 0 rfl) ?_
            refine lv_iconst (v := 4) hx hb dX8_isUnder_25 (by decide) ?_
            refine lv_icmp_ne (tgt := 33) hx hb dX8_isUnder_26 (by decide) (fun c_8 => ?_) (fun c_8 => ?_)
            ·
              refine lv_iconst (v := 0) hx hb dX8_isUnder_33 (by decide) ?_
              exact hret 0 _ _ rfl (absurd (c_3.symm.trans c_7) (by decide)) dX8_isUnder_34
            ·
              refine lv_iconst (v := 1) hx hb dX8_isUnder_29 (by decide) ?_
              refine lv_goto (tgt := 34) hx hb dX8_isUnder_30 (by decide) ?_
              exact hret 1 _ _ rfl (absurd (c_3.symm.trans c_7) (by decide)) dX8_isUnder_34
abbrev rm_yX8_taken : Room := { frames := 1, cells := 0, slots := 0, locals := 22 }
set_option maxHeartbeats 800000 in
set_option maxRecDepth 100000 in
theorem kX8_taken {l : Launch} {D : va_G} {cA : ClassId} {ad : Nat → Nat} {ρ T σ : Nat → Nat → Int32} {sz : Nat} {n : Nat} {i0 w0 : Int32} (hT : okT n T) : MMi l yX8_taken cX8_taken 3 FieldType.int rm_yX8_taken [.ref (ad 0), .int i0, .int w0] D cA ad ρ T σ sz (fun (r : Int32) (u : Unit) => r = takenP T i0 w0) (fun u : Unit => ment ad cA ρ T σ) := by
  refine gw_stI (Ff := fun u : Unit => ment ad cA ρ T σ) (own := RX8) (by decide +kernel) rfl (Nat.le_of_ble_eq_true rfl) ?_
  intro p e s m ar below meth c A Q F hE hsz hW hret ls hl
  obtain ⟨hx, hb, hml, hown, hts⟩ := id F
  have hl : lv_has ls 3 [(0, .ref (ad 0)), (1, .int i0), (2, .int w0)] := hl
  have hs6 := hT.1
  have hsN := hT.2.1
  refine lv_iload_n hx hb dX8_taken_0 rfl (lv_at hl 2 rfl) ?_
  refine lv_iconst (v := 0) hx hb dX8_taken_1 (by decide) ?_
  refine lv_bipush (v := 6) hx hb dX8_taken_2 (by decide) ?_
  refine gw_callP (As := [.int w0, .int 0, .int 6]) (rest := []) F hl.1 (kX8_in) pd_yX8_in ml_RX8_72 st_yX8_in ini_RX8 cd_yX8_in ⟨rfl, rfl⟩ ⟨Nat.le_of_ble_eq_true rfl, Nat.le_of_ble_eq_true rfl⟩ rfl rfl (Nat.le_of_ble_eq_true rfl) ⟨Nat.zero_le _, Nat.zero_le _⟩ dX8_taken_4 ?_
  refine lv_as (z := inP w0 0 6) rfl ?_
  refine lv_if_ne (tgt := 13) hx hb dX8_taken_7 (by decide) (fun c_1 => ?_) (fun c_1 => ?_)
  ·
    have c7n := c_1; obtain ⟨wj, hwj, rfl⟩ := in_nat (k := 6) (by decide) c_1
    refine lv_iload_n hx hb dX8_taken_13 rfl (lv_at hl 1 rfl) ?_
    refine lv_iconst (v := 0) hx hb dX8_taken_14 (by decide) ?_
    refine lv_bipush (v := 11) hx hb dX8_taken_15 (by decide) ?_
    refine gw_callP (As := [.int i0, .int 0, .int 11]) (rest := []) F hl.1 (kX8_in) pd_yX8_in ml_RX8_72 st_yX8_in ini_RX8 cd_yX8_in ⟨rfl, rfl⟩ ⟨Nat.le_of_ble_eq_true rfl, Nat.le_of_ble_eq_true rfl⟩ rfl rfl (Nat.le_of_ble_eq_true rfl) ⟨Nat.zero_le _, Nat.zero_le _⟩ dX8_taken_17 ?_
    refine lv_as (z := inP i0 0 11) rfl ?_
    refine lv_if_ne (tgt := 26) hx hb dX8_taken_20 (by decide) (fun c_2 => ?_) (fun c_2 => ?_)
    ·
      have c20n := c_2; obtain ⟨ij, hij, rfl⟩ := in_nat (k := 11) (by decide) c_2; have hir : nI ij - nI ij / 6 * 6 = nI (ij % 6) := pk_rem (d := 6) (by omega) (by decide) (by decide); have hrm : remS (nI ij) 6 = nI (ij % 6) := hir; have him : ij % 6 < 6 := Nat.mod_lt _ (by decide)
      refine lv_iload_n hx hb dX8_taken_26 rfl (lv_at hl 1 rfl) ?_
      refine lv_bipush (v := 6) hx hb dX8_taken_27 (by decide) ?_
      refine lv_irem hx hb dX8_taken_29 (by decide) ?_
      refine lv_as (z := nI (ij % 6)) hir ?_
      refine lv_aload_n hx hb dX8_taken_30 rfl (lv_at hl 0 rfl) ?_
      refine mr_f F hW 0 (by decide) rfl fl_RX8_69 dX8_taken_31 ?_
      refine lv_as (z := nI (seatsN T)) (hsN) ?_
      refine lv_icmp_lt (tgt := 40) hx hb dX8_taken_34 (by decide) (fun c_3 => ?_) (fun c_3 => ?_)
      ·
        have hq : ij % 6 < seatsN T := mi_lt c_3 (by omega) (by omega); have hon : ¬ oneP T (nI (ij % 6)) = 0 := by rw [one_at hT hq]; decide
        refine lv_iload_n hx hb dX8_taken_40 rfl (lv_at hl 1 rfl) ?_
        refine lv_bipush (v := 6) hx hb dX8_taken_41 (by decide) ?_
        refine lv_icmp_lt (tgt := 71) hx hb dX8_taken_43 (by decide) (fun c_4 => ?_) (fun c_4 => ?_)
        ·
          have hi6 : ij < 6 := mi_lt (b := 6) c_4 (by omega) (by decide); have hie : ij % 6 = ij := Nat.mod_eq_of_lt hi6; have hGq := hT.2.2.2.2 ij (by rw [← hie]; exact hq)
          refine lv_iload_n hx hb dX8_taken_71 rfl (lv_at hl 2 rfl) ?_
          refine lv_bipush (v := 6) hx hb dX8_taken_72 (by decide) ?_
          refine lv_icmp_ge (tgt := 94) hx hb dX8_taken_74 (by decide) (fun c_5 => ?_) (fun c_5 => ?_)
          ·
            refine lv_bipush (v := (-13)) hx hb dX8_taken_94 (by decide) ?_
            exact hret (-13) () _ _ _ _ _ hW rfl rfl (by unfold takenP; simp only [in_ite, l12]; rw [if_neg c7n, if_neg c20n, hrm, if_neg hon, hie, if_pos c_4, if_pos (show nI wj = 6 by have := mi_le (a := 6) (b := wj) c_5 (by decide) (by omega); rw [show wj = 6 by omega]; rfl)]) dX8_taken_96
          ·
            refine lv_aload_n hx hb dX8_taken_77 rfl (lv_at hl 0 rfl) ?_
            refine mr_f F hW 1 (by decide) rfl fl_RX8_7 dX8_taken_78 ?_
            refine lv_iload_n hx hb dX8_taken_81 rfl (lv_at hl 1 rfl) ?_
            refine mr_kind ij (by omega) rfl F hW dX8_taken_82 ?_
            refine lv_iload_n hx hb dX8_taken_83 rfl (lv_at hl 2 rfl) ?_
            refine gw_callP (As := [.int (T ij 0), .int (nI wj)]) (rest := []) F hl.1 (kX8_isUnder) pd_yX8_isUnder ml_RX8_244 st_yX8_isUnder ini_RX8 cd_yX8_isUnder ⟨rfl, rfl⟩ ⟨Nat.le_of_ble_eq_true rfl, Nat.le_of_ble_eq_true rfl⟩ rfl rfl (Nat.le_of_ble_eq_true rfl) ⟨Nat.zero_le _, Nat.zero_le _⟩ dX8_taken_84 ?_
            refine lv_as (z := undS (T ij 0) (nI wj)) rfl ?_
            refine lv_if_eq (tgt := 94) hx hb dX8_taken_87 (by decide) (fun c_6 => ?_) (fun c_6 => ?_)
            ·
              refine lv_bipush (v := (-13)) hx hb dX8_taken_94 (by decide) ?_
              exact hret (-13) () _ _ _ _ _ hW rfl rfl (by unfold takenP; simp only [in_ite, l12]; rw [if_neg c7n, if_neg c20n, hrm, if_neg hon, hie, if_pos c_4, if_neg (fun q => c_5 (by rw [q]; decide)), iN_nI (by omega), show kindF (nI wj) 6 (T ij 0) = undS (T ij 0) (nI wj) by obtain ⟨kj, hkj, ekj⟩ := hGq.1; rw [ekj]; exact kind_und kj hkj wj (mi_nle (a := 6) (b := wj) c_5 (by decide) (by omega)), if_pos c_6]) dX8_taken_96
            ·
              refine lv_iload_n hx hb dX8_taken_90 rfl (lv_at hl 1 rfl) ?_
              refine lv_goto (tgt := 96) hx hb dX8_taken_91 (by decide) ?_
              exact hret (nI ij) () _ _ _ _ _ hW rfl rfl (by unfold takenP; simp only [in_ite, l12]; rw [if_neg c7n, if_neg c20n, hrm, if_neg hon, hie, if_pos c_4, if_neg (fun q => c_5 (by rw [q]; decide)), iN_nI (by omega), show kindF (nI wj) 6 (T ij 0) = undS (T ij 0) (nI wj) by obtain ⟨kj, hkj, ekj⟩ := hGq.1; rw [ekj]; exact kind_und kj hkj wj (mi_nle (a := 6) (b := wj) c_5 (by decide) (by omega)), if_neg c_6]) dX8_taken_96
        ·
          have hi6 : 6 ≤ ij := mi_nlt (b := 6) c_4 (by omega) (by decide); have hie : ij % 6 = ij - 6 := (by omega); have hGq := hT.2.2.2.2 (ij - 6) (by rw [← hie]; exact hq)
          refine lv_iload_n hx hb dX8_taken_46 rfl (lv_at hl 2 rfl) ?_
          refine lv_bipush (v := 6) hx hb dX8_taken_47 (by decide) ?_
          refine lv_icmp_ne (tgt := 68) hx hb dX8_taken_49 (by decide) (fun c_7 => ?_) (fun c_7 => ?_)
          ·
            refine lv_bipush (v := (-13)) hx hb dX8_taken_68 (by decide) ?_
            exact hret (-13) () _ _ _ _ _ hW rfl rfl (by unfold takenP; simp only [in_ite, l12]; rw [if_neg c7n, if_neg c20n, hrm, if_neg hon, hie, if_neg c_4, if_neg c_7]) dX8_taken_70
          ·
            refine lv_aload_n hx hb dX8_taken_52 rfl (lv_at hl 0 rfl) ?_
            refine mr_f F hW 3 (by decide) rfl fl_RX8_16 dX8_taken_53 ?_
            refine lv_iconst (v := 5) hx hb dX8_taken_56 (by decide) ?_
            refine lv_iload_n hx hb dX8_taken_57 rfl (lv_at hl 1 rfl) ?_
            refine lv_bipush (v := 6) hx hb dX8_taken_58 (by decide) ?_
            refine lv_isub hx hb dX8_taken_60 ?_
            refine lv_as (z := nI (ij - 6)) (sub_nI (b := 6) hi6) ?_
            refine lv_imul hx hb dX8_taken_61 ?_
            refine lv_iconst (v := 4) hx hb dX8_taken_62 (by decide) ?_
            refine lv_iadd hx hb dX8_taken_63 ?_
            refine mr_rows (ij - 6) 4 (by omega) (by decide) (mi_5k (ij - 6) 4) F hW dX8_taken_64 ?_
            refine lv_goto (tgt := 70) hx hb dX8_taken_65 (by decide) ?_
            exact hret (T (ij - 6) 6) () _ _ _ _ _ hW rfl rfl (by unfold takenP; simp only [in_ite, l12]; rw [if_neg c7n, if_neg c20n, hrm, if_neg hon, hie, if_neg c_4, if_pos c_7, iN_nI (by omega)]; rcases hGq.2.2.2.2.2.2 with e | e <;> rw [e] <;> decide) dX8_taken_70
      ·
        have hon : oneP T (nI (ij % 6)) = 0 := by unfold oneP; rw [if_neg (nI_pos (by omega)), if_pos (by rw [hsN]; exact Int32.not_lt.mp c_3)]
        refine lv_bipush (v := (-11)) hx hb dX8_taken_37 (by decide) ?_
        exact hret (-11) () _ _ _ _ _ hW rfl rfl (by unfold takenP; simp only [in_ite, l12]; rw [if_neg c7n, if_neg c20n, hrm, if_pos hon]) dX8_taken_39
    ·
      refine lv_bipush (v := (-12)) hx hb dX8_taken_23 (by decide) ?_
      exact hret (-12) () _ _ _ _ _ hW rfl rfl (by unfold takenP; simp only [in_ite, l12]; rw [if_neg c7n, if_pos c_2]) dX8_taken_25
  ·
    refine lv_bipush (v := (-2)) hx hb dX8_taken_10 (by decide) ?_
    exact hret (-2) () _ _ _ _ _ hW rfl rfl (by unfold takenP; simp only [in_ite, l12]; rw [if_pos c_1]) dX8_taken_12
