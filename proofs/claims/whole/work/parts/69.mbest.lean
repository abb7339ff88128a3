/-! ===== the reference: change, bold, forgive ===== -/
theorem upT_eta {T : Tb} {q k : Nat} : upT T q k (T q k) = T := by
  funext z j
  by_cases h : z = q ∧ j = k
  · obtain ⟨rfl, rfl⟩ := h; rw [upT_at]
  · rw [upT_ne h]
theorem bv_in (s x : BitVec 32) : (s &&& ~~~x = 0#32) ↔ (s &&& x = s) := by
  constructor
  · intro h
    apply BitVec.eq_of_getLsbD_eq
    intro i hi
    have := congrArg (fun z => BitVec.getLsbD z i) h
    simp [hi] at this ⊢
    exact this
  · intro h
    apply BitVec.eq_of_getLsbD_eq
    intro i hi
    have := congrArg (fun z => BitVec.getLsbD z i) h
    simp [hi] at this ⊢
    exact this
theorem bv_sub (s x : BitVec 32) (h : s &&& x = s) : x &&& ~~~s = x ^^^ s := by
  apply BitVec.eq_of_getLsbD_eq
  intro i hi
  have := congrArg (fun z => BitVec.getLsbD z i) h
  simp [hi] at this ⊢
  cases hs : s[i] <;> cases hx : x[i] <;> simp_all
theorem i32_in (s x : Int32) : (s &&& (x ^^^ -1) = 0) ↔ (s &&& x = s) := by
  rw [← Int32.toBitVec_inj, ← Int32.toBitVec_inj]
  show (s.toBitVec &&& (x.toBitVec ^^^ BitVec.allOnes 32) = 0#32) ↔ (s.toBitVec &&& x.toBitVec = s.toBitVec)
  rw [BitVec.xor_allOnes]
  exact bv_in s.toBitVec x.toBitVec
theorem i32_sub {s x : Int32} (h : s &&& x = s) : x &&& (s ^^^ -1) = x ^^^ s := by
  rw [← Int32.toBitVec_inj] at h ⊢
  show x.toBitVec &&& (s.toBitVec ^^^ BitVec.allOnes 32) = x.toBitVec ^^^ s.toBitVec
  rw [BitVec.xor_allOnes]
  exact bv_sub s.toBitVec x.toBitVec h
theorem ones_le : ∀ j, j < 1024 → onesS (nI j) < 11 := by
  have h : (List.range 1024).all (fun j => decide (onesS (nI j) < 11)) = true := by decide +kernel
  intro j hj
  exact of_decide_eq_true (List.all_eq_true.mp h j (List.mem_range.mpr hj))
theorem forg_none (Lx : Lw) (T : Tb) (q : Nat) : ∀ k, k ≤ 1024 → (forgK Lx T q k).1 = -1 → (forgK Lx T q k).2 = 11
  | 0, _, _ => rfl
  | k + 1, hk, h => by
    unfold forgK at h ⊢
    by_cases c1 : nI k &&& T q 2 = nI k
    · rw [if_pos c1] at h ⊢
      by_cases c2 : onesS (nI k) < (forgK Lx T q k).2
      · rw [if_pos c2] at h ⊢
        by_cases c3 : stuckS Lx (upT T q 2 (T q 2 ^^^ nI k)) q = 0
        · rw [if_pos c3] at h
          exact absurd (h ▸ (by decide : (-1 : Int32) < 0)) (nI_pos (by omega))
        · rw [if_neg c3] at h ⊢; exact forg_none Lx T q k (by omega) h
      · rw [if_neg c2] at h ⊢; exact forg_none Lx T q k (by omega) h
    · rw [if_neg c1] at h ⊢; exact forg_none Lx T q k (by omega) h
abbrev rm_yX8_change : Room := { frames := 9, cells := 0, slots := 0, locals := 208 }
set_option maxHeartbeats 800000 in
set_option maxRecDepth 100000 in
theorem kX8_change {l : Launch} {D : va_G} {cA : ClassId} {ad : Nat → Nat} {ρ T σ : Nat → Nat → Int32} {sz : Nat} {n : Nat} {Lx : Lw} {v w0 : Int32} (hT : okT n T) (hM : okML n σ Lx) : MMi l yX8_change cX8_change 8 FieldType.int rm_yX8_change [.ref (ad 0), .int v, .int w0] D cA ad ρ T σ sz (fun (r : Int32) (u : Nat → Nat → Int32) => r = changeP Lx T v w0) (fun u : Nat → Nat → Int32 => ment ad cA u T σ) := by
  refine gw_stI (Ff := fun u : Nat → Nat → Int32 => ment ad cA u T σ) (own := RX8) (by decide +kernel) rfl (Nat.le_of_ble_eq_true rfl) ?_
  intro p e s m ar below meth c A Q F hE hsz hW hret ls hl
  obtain ⟨hx, hb, hml, hown, hts⟩ := id F
  have hl : lv_has ls 8 [(0, .ref (ad 0)), (1, .int v), (2, .int w0)] := hl
  have hs6 := hT.1
  have hsN := hT.2.1
  refine lv_iload_n hx hb dX8_change_0 rfl (lv_at hl 1 rfl) ?_
  refine lv_iconst (v := 0) hx hb dX8_change_1 (by decide) ?_
  refine lv_bipush (v := 40) hx hb dX8_change_2 (by decide) ?_
  refine gw_callP (As := [.int v, .int 0, .int 40]) (rest := []) F hl.1 (kX8_in) pd_yX8_in ml_RX8_72 st_yX8_in ini_RX8 cd_yX8_in ⟨rfl, rfl⟩ ⟨Nat.le_of_ble_eq_true rfl, Nat.le_of_ble_eq_true rfl⟩ rfl rfl (Nat.le_of_ble_eq_true rfl) ⟨Nat.zero_le _, Nat.zero_le _⟩ dX8_change_4 ?_
  refine lv_as (z := inP v 0 40) rfl ?_
  refine lv_if_eq (tgt := 19) hx hb dX8_change_7 (by decide) (fun c_1 => ?_) (fun c_1 => ?_)
  ·
    refine lv_bipush (v := (-2)) hx hb dX8_change_19 (by decide) ?_
    exact hret (-2) ρ _ _ _ _ _ hW rfl rfl (by unfold changeP; rw [if_pos (show runP v = 0 from c_1)]) dX8_change_21
  ·
    obtain ⟨w, hw40, rfl⟩ := run_nat (v := v) c_1; have hiw : iN (nI w) = w := iN_nI (by omega)
    refine lv_iload_n hx hb dX8_change_10 rfl (lv_at hl 2 rfl) ?_
    refine lv_iconst (v := 0) hx hb dX8_change_11 (by decide) ?_
    refine lv_iconst (v := 1) hx hb dX8_change_12 (by decide) ?_
    refine gw_callP (As := [.int w0, .int 0, .int 1]) (rest := []) F hl.1 (kX8_in) pd_yX8_in ml_RX8_72 st_yX8_in ini_RX8 cd_yX8_in ⟨rfl, rfl⟩ ⟨Nat.le_of_ble_eq_true rfl, Nat.le_of_ble_eq_true rfl⟩ rfl rfl (Nat.le_of_ble_eq_true rfl) ⟨Nat.zero_le _, Nat.zero_le _⟩ dX8_change_13 ?_
    refine lv_as (z := inP w0 0 1) rfl ?_
    refine lv_if_ne (tgt := 22) hx hb dX8_change_16 (by decide) (fun c_2 => ?_) (fun c_2 => ?_)
    ·
      refine lv_aload_n hx hb dX8_change_22 rfl (lv_at hl 0 rfl) ?_
      refine gw_callVv (As := []) (rest := []) F hl.1 hW (fun _ _ _ => trivial) gw_T_E (by decide) (rfl : ment ad cA _ _ _ 0 = _) rfl (kX8_keeps) pd_yX8_keeps ml_RX8_195 im_yX8_keeps se_yX8_keeps ini_RX8 cd_yX8_keeps ⟨rfl, rfl⟩ ⟨Nat.le_of_ble_eq_true rfl, Nat.le_of_ble_eq_true rfl⟩ rfl rfl (Nat.le_of_ble_eq_true rfl) ⟨Nat.zero_le _, Nat.zero_le _⟩ dX8_change_23 (fun ρ_3 H locs hp hW _ _ => ?_)
      obtain ⟨h0_4, hK_5⟩ := hp
      refine lv_iconst (v := (-1)) hx hb dX8_change_26 (by decide) ?_
      refine lv_istore_n (lv' := [(3, .int (-1)), (0, .ref (ad 0)), (1, .int (nI w)), (2, .int w0)]) hx hb dX8_change_27 rfl hl (by decide) rfl (fun ls hl => ?_)
      refine lv_aload_n hx hb dX8_change_28 rfl (lv_at hl 1 rfl) ?_
      refine lv_iload_n hx hb dX8_change_29 rfl (lv_at hl 2 rfl) ?_
      refine gw_callVi (As := [.int (nI w)]) (rest := []) F hl.1 hW (fun _ _ _ => trivial) gw_T_E (by decide) (rfl : ment ad cA _ _ _ 0 = _) rfl (kX8_stuckBehind (n := n) (w := w) (Lx := Lx) (T0 := T) hT hM (by omega) (kept_kp hK_5 Kp.rf) OutT.rf) pd_yX8_stuckBehind ml_RX8_204 im_yX8_stuckBehind se_yX8_stuckBehind ini_RX8 cd_yX8_stuckBehind ⟨rfl, rfl⟩ ⟨Nat.le_of_ble_eq_true rfl, Nat.le_of_ble_eq_true rfl⟩ rfl rfl (Nat.le_of_ble_eq_true rfl) ⟨Nat.zero_le _, Nat.zero_le _⟩ dX8_change_30 (fun r u H locs hp hW _ _ => ?_)
      obtain ⟨ρ_6, T_7⟩ := u
      obtain ⟨rfl, hk_8, hTe⟩ := hp
      have hTe : T = T_7 := hTe.symm
      subst hTe
      refine lv_as (z := behS Lx T w) rfl ?_
      refine lv_istore (lv' := [(4, .int (behS Lx T w)), (3, .int (-1)), (0, .ref (ad 0)), (1, .int (nI w)), (2, .int w0)]) hx hb dX8_change_33 hl (by decide) rfl (fun ls hl => ?_)
      refine lv_iconst (v := 0) hx hb dX8_change_35 (by decide) ?_
      refine lv_istore (lv' := [(5, .int 0), (4, .int (behS Lx T w)), (3, .int (-1)), (0, .ref (ad 0)), (1, .int (nI w)), (2, .int w0)]) hx hb dX8_change_36 hl (by decide) rfl (fun ls hl => ?_)
      have L38 : ∀ (k : Nat) (i : Nat) (ρ' : Nat → Nat → Int32) (bb ff : Int32), (i ≤ seatsN T) → (seatsN T + 1 ≤ i + k) → (KeptOf (ρ' 17) T) → ((chaK Lx T w i) = (bb, ff)) → ∀ (H : Heap) (locs : List Loc) (ls : Array Slot), MW D cA ad ρ' T σ A s s.heap H locs → lv_has ls 8 [(5, .int (nI i)), (3, .int bb), (4, .int ff), (0, .ref (ad 0)), (1, .int (nI w)), (2, .int w0)] → W p l e rm_yX8_change s m ar below meth c H locs 0 0 Q (F0 m 38 ls []) := by
        intro k
        induction k with
        | zero => intro i ρ' bb ff h1 h2 hKk hBF; exact absurd h2 (by omega)
        | succ k ih38 =>
          intro i ρ' bb ff h1 h2 hKk hBF H locs ls hW hl
          refine lv_iload hx hb dX8_change_38 (lv_at hl 0 rfl) ?_
          refine lv_aload_n hx hb dX8_change_40 rfl (lv_at hl 3 rfl) ?_
          refine mr_f F hW 0 (by decide) rfl fl_RX8_69 dX8_change_41 ?_
          refine lv_as (z := nI (seatsN T)) (hsN) ?_
          refine lv_icmp_ge (tgt := 125) hx hb dX8_change_44 (by decide) (fun c_9 => ?_) (fun c_9 => ?_)
          ·
            obtain rfl : i = seatsN T := by have := mi_le (a := seatsN T) (b := i) c_9 (by omega) (by omega); omega
            refine lv_iload_n hx hb dX8_change_125 rfl (lv_at hl 5 rfl) ?_
            refine lv_if_ne (tgt := 133) hx hb dX8_change_126 (by decide) (fun c_10 => ?_) (fun c_10 => ?_)
            ·
              refine lv_iload hx hb dX8_change_133 (lv_at hl 2 rfl) ?_
              exact hret ff ρ' _ _ _ _ _ hW rfl rfl (by unfold changeP pickS; rw [if_neg (show ¬ runP (nI w) = 0 from c_1), if_neg (cho_1 c_2), hiw, hBF, if_neg c_10]) dX8_change_135
            ·
              refine lv_iload_n hx hb dX8_change_129 rfl (lv_at hl 1 rfl) ?_
              refine lv_goto (tgt := 135) hx hb dX8_change_130 (by decide) ?_
              exact hret bb ρ' _ _ _ _ _ hW rfl rfl (by unfold changeP pickS; rw [if_neg (show ¬ runP (nI w) = 0 from c_1), if_neg (cho_1 c_2), hiw, hBF, if_pos c_10]) dX8_change_135
          ·
            have hlt : i < seatsN T := mi_nle (a := seatsN T) (b := i) c_9 (by omega) (by omega)
            refine lv_iload hx hb dX8_change_47 (lv_at hl 0 rfl) ?_
            refine lv_iconst (v := 1) hx hb dX8_change_49 (by decide) ?_
            refine lv_iadd hx hb dX8_change_50 ?_
            refine lv_as (z := nI (i + 1)) (nI_1 i) ?_
            refine lv_istore (lv' := [(6, .int (nI (i + 1))), (5, .int (nI i)), (3, .int bb), (4, .int ff), (0, .ref (ad 0)), (1, .int (nI w)), (2, .int w0)]) hx hb dX8_change_51 hl (by decide) rfl (fun ls hl => ?_)
            have L53 : ∀ (k : Nat) (j : Nat) (ρ'' : Nat → Nat → Int32) (b2 f2 : Int32), (i + 1 + j ≤ seatsN T) → (seatsN T + 1 ≤ j + k) → (KeptOf (ρ'' 17) T) → ((chaJ Lx T w i (chaK Lx T w i) j) = (b2, f2)) → ∀ (H : Heap) (locs : List Loc) (ls : Array Slot), MW D cA ad ρ'' T σ A s s.heap H locs → lv_has ls 8 [(6, .int (nI (i + 1 + j))), (3, .int b2), (4, .int f2), (0, .ref (ad 0)), (1, .int (nI w)), (2, .int w0), (5, .int (nI i))] → W p l e rm_yX8_change s m ar below meth c H locs 0 0 Q (F0 m 53 ls []) := by
              intro k
              induction k with
              | zero => intro j ρ'' b2 f2 g1 g2 hKj hJ; exact absurd g2 (by omega)
              | succ k ih53 =>
                intro j ρ'' b2 f2 g1 g2 hKj hJ H locs ls hW hl
                refine lv_iload hx hb dX8_change_53 (lv_at hl 0 rfl) ?_
                refine lv_aload_n hx hb dX8_change_55 rfl (lv_at hl 3 rfl) ?_
                refine mr_f F hW 0 (by decide) rfl fl_RX8_69 dX8_change_56 ?_
                refine lv_as (z := nI (seatsN T)) (hsN) ?_
                refine lv_icmp_ge (tgt := 119) hx hb dX8_change_59 (by decide) (fun c_11 => ?_) (fun c_11 => ?_)
                ·
                  have hje : i + 1 + j = seatsN T := (by have := mi_le (a := seatsN T) (b := i + 1 + j) c_11 (by omega) (by omega); omega); have hBF2 : chaK Lx T w (i + 1) = (b2, f2) := (by show chaJ Lx T w i (chaK Lx T w i) (seatsN T - (i + 1)) = _; rw [show seatsN T - (i + 1) = j by omega]; exact hJ)
                  refine lv_iinc (v := nI (i + 1)) (lv' := [(5, .int (nI (i + 1))), (6, .int (nI (i + 1 + j))), (3, .int b2), (4, .int f2), (0, .ref (ad 0)), (1, .int (nI w)), (2, .int w0)]) hx hb dX8_change_119 hl (k := 6) rfl (nI_1 i) (by decide) rfl (fun ls hl => ?_)
                  refine lv_goto (tgt := 38) hx hb dX8_change_122 (by decide) ?_
                  exact ih38 (i + 1) ρ'' _ _ (by omega) (by omega) (kept_kp hKj Kp.rf) (hBF2) _ _ _ hW (lv_sub hl [0, 2, 3, 4, 5, 6] rfl)
                ·
                  have hltj : i + 1 + j < seatsN T := mi_nle (a := seatsN T) (b := i + 1 + j) c_11 (by omega) (by omega)
                  refine lv_aload_n hx hb dX8_change_62 rfl (lv_at hl 3 rfl) ?_
                  refine lv_iload hx hb dX8_change_63 (lv_at hl 6 rfl) ?_
                  refine lv_iload hx hb dX8_change_65 (lv_at hl 0 rfl) ?_
                  refine gw_callVv (As := [.int (nI i), .int (nI (i + 1 + j))]) (rest := []) F hl.1 hW (fun _ _ _ => trivial) gw_T_E (by decide) (rfl : ment ad cA _ _ _ 0 = _) rfl (kX8_changes (a := i) (b := i + 1 + j) (by omega) (by omega)) pd_yX8_changes ml_RX8_191 im_yX8_changes se_yX8_changes ini_RX8 cd_yX8_changes ⟨rfl, rfl⟩ ⟨Nat.le_of_ble_eq_true rfl, Nat.le_of_ble_eq_true rfl⟩ rfl rfl (Nat.le_of_ble_eq_true rfl) ⟨Nat.zero_le _, Nat.zero_le _⟩ dX8_change_67 (fun T_12 H locs hp hW _ _ => ?_)
                  have hp : T_12 = swapS T i (i + 1 + j) := hp
                  subst hp
                  refine lv_aload_n hx hb dX8_change_70 rfl (lv_at hl 3 rfl) ?_
                  refine lv_iload_n hx hb dX8_change_71 rfl (lv_at hl 4 rfl) ?_
                  refine gw_callVi (As := [.int (nI w)]) (rest := []) F hl.1 hW (fun _ _ _ => trivial) gw_T_E (by decide) (rfl : ment ad cA _ _ _ 0 = _) rfl (kX8_stuckBehind (n := n) (w := w) (Lx := Lx) (T0 := T) (ok_swap hT hlt hltj).1 hM (by omega) (kept_kp hKj Kp.rf) (out_swap (by omega) (by omega))) pd_yX8_stuckBehind ml_RX8_204 im_yX8_stuckBehind se_yX8_stuckBehind ini_RX8 cd_yX8_stuckBehind ⟨rfl, rfl⟩ ⟨Nat.le_of_ble_eq_true rfl, Nat.le_of_ble_eq_true rfl⟩ rfl rfl (Nat.le_of_ble_eq_true rfl) ⟨Nat.zero_le _, Nat.zero_le _⟩ dX8_change_72 (fun r u H locs hp hW _ _ => ?_)
                  obtain ⟨ρ_13, T_14⟩ := u
                  obtain ⟨rfl, hk_15, hTe⟩ := hp
                  have hTe : T = T_14 := hTe.symm
                  subst hTe
                  refine lv_as (z := behS Lx (swapS T i (i + 1 + j)) w) rfl ?_
                  refine lv_topi (fun vv evv => ?_)
                  refine lv_istore (lv' := [(7, .int vv), (6, .int (nI (i + 1 + j))), (3, .int b2), (4, .int f2), (0, .ref (ad 0)), (1, .int (nI w)), (2, .int w0), (5, .int (nI i))]) hx hb dX8_change_75 hl (by decide) rfl (fun ls hl => ?_)
                  refine lv_iload hx hb dX8_change_77 (lv_at hl 0 rfl) ?_
                  refine lv_iload hx hb dX8_change_79 (lv_at hl 3 rfl) ?_
                  refine lv_icmp_ge (tgt := 95) hx hb dX8_change_81 (by decide) (fun c_16 => ?_) (fun c_16 => ?_)
                  ·
                    refine lv_iload_n hx hb dX8_change_95 rfl (lv_at hl 2 rfl) ?_
                    refine lv_istore_n (lv' := [(3, .int b2), (7, .int vv), (6, .int (nI (i + 1 + j))), (4, .int f2), (0, .ref (ad 0)), (1, .int (nI w)), (2, .int w0), (5, .int (nI i))]) hx hb dX8_change_96 rfl hl (by decide) rfl (fun ls hl => ?_)
                    refine lv_iload hx hb dX8_change_97 (lv_at hl 1 rfl) ?_
                    refine lv_iload hx hb dX8_change_99 (lv_at hl 3 rfl) ?_
                    refine lv_icmp_ge (tgt := 109) hx hb dX8_change_101 (by decide) (fun c_17 => ?_) (fun c_17 => ?_)
                    ·
                      refine lv_iload hx hb dX8_change_109 (lv_at hl 3 rfl) ?_
                      refine lv_istore (lv' := [(4, .int f2), (3, .int b2), (7, .int vv), (6, .int (nI (i + 1 + j))), (0, .ref (ad 0)), (1, .int (nI w)), (2, .int w0), (5, .int (nI i))]) hx hb dX8_change_111 hl (by decide) rfl (fun ls hl => ?_)
                      refine lv_iinc (v := nI (i + 1 + j + 1)) (lv' := [(6, .int (nI (i + 1 + j + 1))), (4, .int f2), (3, .int b2), (7, .int vv), (0, .ref (ad 0)), (1, .int (nI w)), (2, .int w0), (5, .int (nI i))]) hx hb dX8_change_113 hl (k := 3) rfl (nI_1 (i + 1 + j)) (by decide) rfl (fun ls hl => ?_)
                      refine lv_goto (tgt := 53) hx hb dX8_change_116 (by decide) ?_
                      exact ih53 (j + 1) ρ_13 _ _ (by omega) (by omega) (kept_kp hKj (Kp.trans Kp.rf hk_15)) (by show lessS (chaJ Lx T w i (chaK Lx T w i) j) (10 * nI i + nI (i + 1 + j)) (behS Lx (swapS T i (i + 1 + j)) w) = _; rw [hJ]; unfold lessS; rw [if_neg (by rw [← evv]; exact Int32.not_lt.mpr c_16)]) _ _ _ hW (lv_sub hl [0, 2, 1, 4, 5, 6, 7] rfl)
                    ·
                      exact absurd c_16 c_17
                  ·
                    refine lv_bipush (v := 10) hx hb dX8_change_84 (by decide) ?_
                    refine lv_iload hx hb dX8_change_86 (lv_at hl 7 rfl) ?_
                    refine lv_imul hx hb dX8_change_88 ?_
                    refine lv_iload hx hb dX8_change_89 (lv_at hl 1 rfl) ?_
                    refine lv_iadd hx hb dX8_change_91 ?_
                    refine lv_goto (tgt := 96) hx hb dX8_change_92 (by decide) ?_
                    refine lv_topi (fun v_18 ev_18 => ?_)
                    refine lv_istore_n (lv' := [(3, .int v_18), (7, .int vv), (6, .int (nI (i + 1 + j))), (4, .int f2), (0, .ref (ad 0)), (1, .int (nI w)), (2, .int w0), (5, .int (nI i))]) hx hb dX8_change_96 rfl hl (by decide) rfl (fun ls hl => ?_)
                    refine lv_iload hx hb dX8_change_97 (lv_at hl 1 rfl) ?_
                    refine lv_iload hx hb dX8_change_99 (lv_at hl 3 rfl) ?_
                    refine lv_icmp_ge (tgt := 109) hx hb dX8_change_101 (by decide) (fun c_19 => ?_) (fun c_19 => ?_)
                    ·
                      exact absurd c_19 c_16
                    ·
                      refine lv_iload hx hb dX8_change_104 (lv_at hl 1 rfl) ?_
                      refine lv_goto (tgt := 111) hx hb dX8_change_106 (by decide) ?_
                      refine lv_istore (lv' := [(4, .int vv), (3, .int v_18), (7, .int vv), (6, .int (nI (i + 1 + j))), (0, .ref (ad 0)), (1, .int (nI w)), (2, .int w0), (5, .int (nI i))]) hx hb dX8_change_111 hl (by decide) rfl (fun ls hl => ?_)
                      refine lv_iinc (v := nI (i + 1 + j + 1)) (lv' := [(6, .int (nI (i + 1 + j + 1))), (4, .int vv), (3, .int v_18), (7, .int vv), (0, .ref (ad 0)), (1, .int (nI w)), (2, .int w0), (5, .int (nI i))]) hx hb dX8_change_113 hl (k := 3) rfl (nI_1 (i + 1 + j)) (by decide) rfl (fun ls hl => ?_)
                      refine lv_goto (tgt := 53) hx hb dX8_change_116 (by decide) ?_
                      exact ih53 (j + 1) ρ_13 _ _ (by omega) (by omega) (kept_kp hKj (Kp.trans Kp.rf hk_15)) (by subst ev_18; show lessS (chaJ Lx T w i (chaK Lx T w i) j) (10 * nI i + nI (i + 1 + j)) (behS Lx (swapS T i (i + 1 + j)) w) = _; rw [hJ]; unfold lessS; rw [if_pos (by rw [← evv]; exact Int32.not_le.mp c_16), ← evv]) _ _ _ hW (lv_sub hl [0, 2, 1, 4, 5, 6, 7] rfl)
            exact L53 (seatsN T + 1) 0 _ _ _ (by omega) (by omega) (kept_kp hKk Kp.rf) (hBF) _ _ _ hW (lv_sub hl [0, 2, 3, 4, 5, 6, 1] rfl)
      exact L38 (seatsN T + 1) 0 _ _ _ (Nat.zero_le _) (by omega) (kept_kp hK_5 (Kp.trans Kp.rf hk_8)) (by rfl) _ _ _ hW (lv_sub hl [0, 2, 1, 3, 4, 5] rfl)
    ·
      refine lv_bipush (v := (-2)) hx hb dX8_change_19 (by decide) ?_
      exact hret (-2) ρ _ _ _ _ _ hW rfl rfl (by unfold changeP; rw [if_neg (show ¬ runP (nI w) = 0 from c_1), if_pos (cho_0 c_2)]) dX8_change_21
theorem nI_m1 {j : Nat} (h : j < 2 ^ 31) : ¬ nI j = -1 := fun e => absurd (e ▸ (by decide : (-1 : Int32) < 0)) (nI_pos h)
theorem nI_sub0 {i : Nat} (hi : i < 2 ^ 31) (h : nI i - 1 < 0) : i = 0 := by
  rcases Nat.eq_zero_or_pos i with e | e
  · exact e
  · obtain ⟨w, rfl⟩ : ∃ w, i = w + 1 := ⟨i - 1, by omega⟩
    rw [nI_pred] at h; exact absurd h (nI_pos (by omega))
theorem nI_sub1 {i : Nat} (h : ¬ nI i - 1 < 0) : ∃ j, i = j + 1 := by
  rcases Nat.eq_zero_or_pos i with e | e
  · subst e; exact absurd (by decide) h
  · exact ⟨i - 1, by omega⟩
abbrev rm_yX8_bold : Room := { frames := 6, cells := 0, slots := 0, locals := 138 }
set_option maxHeartbeats 800000 in
set_option maxRecDepth 100000 in
theorem kX8_bold {l : Launch} {D : va_G} {cA : ClassId} {ad : Nat → Nat} {ρ T σ : Nat → Nat → Int32} {sz : Nat} {n : Nat} {Lx : Lw} {pp : Int32} (hT : okT n T) (hM : okML n σ Lx) : MMi l yX8_bold cX8_bold 5 FieldType.int rm_yX8_bold [.ref (ad 0), .int pp] D cA ad ρ T σ sz (fun (r : Int32) (u : Nat → Nat → Int32) => r = boldP Lx T pp ∧ Kp ρ u) (fun u : Nat → Nat → Int32 => ment ad cA u T σ) := by
  refine gw_stI (Ff := fun u : Nat → Nat → Int32 => ment ad cA u T σ) (own := RX8) (by decide +kernel) rfl (Nat.le_of_ble_eq_true rfl) ?_
  intro p e s m ar below meth c A Q F hE hsz hW hret ls hl
  obtain ⟨hx, hb, hml, hown, hts⟩ := id F
  have hl : lv_has ls 5 [(0, .ref (ad 0)), (1, .int pp)] := hl
  have hs6 := hT.1
  have hsN := hT.2.1
  refine lv_aload_n hx hb dX8_bold_0 rfl (lv_at hl 0 rfl) ?_
  refine lv_iload_n hx hb dX8_bold_1 rfl (lv_at hl 1 rfl) ?_
  refine gw_callVi (As := [.int pp]) (rest := []) F hl.1 hW (fun _ _ _ => trivial) gw_T_E (by decide) (rfl : ment ad cA _ _ _ 0 = _) rfl (kX8_isOne (n := n) hT) pd_yX8_isOne ml_RX8_161 im_yX8_isOne se_yX8_isOne ini_RX8 cd_yX8_isOne ⟨rfl, rfl⟩ ⟨Nat.le_of_ble_eq_true rfl, Nat.le_of_ble_eq_true rfl⟩ rfl rfl (Nat.le_of_ble_eq_true rfl) ⟨Nat.zero_le _, Nat.zero_le _⟩ dX8_bold_2 (fun r u H locs hp hW _ _ => ?_)
  subst hp
  refine lv_as (z := oneP T pp) rfl ?_
  refine lv_if_ne (tgt := 11) hx hb dX8_bold_5 (by decide) (fun c_1 => ?_) (fun c_1 => ?_)
  ·
    obtain ⟨q, hq, rfl⟩ := one_nat hT c_1; have hq6 : q < 6 := seats_le hT hq; have hiq : iN (nI q) = q := iN_nI (by omega); have hGq := hT.2.2.2.2 q hq; have hone : ¬ oneP T (nI q) = 0 := c_1
    refine lv_aload_n hx hb dX8_bold_11 rfl (lv_at hl 0 rfl) ?_
    refine mr_f F hW 3 (by decide) rfl fl_RX8_16 dX8_bold_12 ?_
    refine lv_iconst (v := 5) hx hb dX8_bold_15 (by decide) ?_
    refine lv_iload_n hx hb dX8_bold_16 rfl (lv_at hl 1 rfl) ?_
    refine lv_imul hx hb dX8_bold_17 ?_
    refine lv_iconst (v := 1) hx hb dX8_bold_18 (by decide) ?_
    refine lv_iadd hx hb dX8_bold_19 ?_
    refine mr_rows q 1 (by omega) (by decide) (mi_5k q 1) F hW dX8_bold_20 ?_
    refine lv_istore_n (lv' := [(2, .int (T q 3)), (0, .ref (ad 0)), (1, .int (nI q))]) hx hb dX8_bold_21 rfl hl (by decide) rfl (fun ls hl => ?_)
    refine lv_iconst (v := (-1)) hx hb dX8_bold_22 (by decide) ?_
    refine lv_istore_n (lv' := [(3, .int (-1)), (2, .int (T q 3)), (0, .ref (ad 0)), (1, .int (nI q))]) hx hb dX8_bold_23 rfl hl (by decide) rfl (fun ls hl => ?_)
    refine lv_bipush (v := 99) hx hb dX8_bold_24 (by decide) ?_
    refine lv_istore (lv' := [(4, .int 99), (3, .int (-1)), (2, .int (T q 3)), (0, .ref (ad 0)), (1, .int (nI q))]) hx hb dX8_bold_26 hl (by decide) rfl (fun ls hl => ?_)
    generalize hR0 : boldK Lx T q 100 = RES
    have hW : MW D cA ad ρ (upT T q 3 (T q 3)) σ A s s.heap H locs := by rw [upT_eta]; exact hW
    have L28 : ∀ (k : Nat) (i : Nat) (x : Int32) (ρ' : Nat → Nat → Int32) (mm : Int32), (i ≤ 100) → (i + 1 ≤ k) → (Kp ρ ρ') → ((mm = -1 ∧ boldK Lx T q i = RES) ∨ (¬ mm = -1 ∧ mm = RES)) → ∀ (H : Heap) (locs : List Loc) (ls : Array Slot), MW D cA ad ρ' (upT T q 3 x) σ A s s.heap H locs → lv_has ls 5 [(4, .int (nI i - 1)), (3, .int mm), (2, .int (T q 3)), (0, .ref (ad 0)), (1, .int (nI q))] → W p l e rm_yX8_bold s m ar below meth c H locs 0 0 Q (F0 m 28 ls []) := by
      intro k
      induction k with
      | zero => intro i x ρ' mm h1 h2 hkp hmm; exact absurd h2 (by omega)
      | succ k ih28 =>
        intro i x ρ' mm h1 h2 hkp hmm H locs ls hW hl
        refine lv_iload hx hb dX8_bold_28 (lv_at hl 0 rfl) ?_
        refine lv_if_lt (tgt := 71) hx hb dX8_bold_30 (by decide) (fun c_2 => ?_) (fun c_2 => ?_)
        ·
          obtain rfl := nI_sub0 (by omega) c_2; have hmR : mm = RES := (hmm.elim (fun z => z.1.trans z.2) (fun z => z.2))
          refine lv_aload_n hx hb dX8_bold_71 rfl (lv_at hl 3 rfl) ?_
          refine mr_f F hW 3 (by decide) rfl fl_RX8_16 dX8_bold_72 ?_
          refine lv_iconst (v := 5) hx hb dX8_bold_75 (by decide) ?_
          refine lv_iload_n hx hb dX8_bold_76 rfl (lv_at hl 4 rfl) ?_
          refine lv_imul hx hb dX8_bold_77 ?_
          refine lv_iconst (v := 1) hx hb dX8_bold_78 (by decide) ?_
          refine lv_iadd hx hb dX8_bold_79 ?_
          refine lv_iload_n hx hb dX8_bold_80 rfl (lv_at hl 2 rfl) ?_
          refine mw_rows q 1 (by omega) (by decide) (mi_5k q 1) F hW dX8_bold_81 (fun H locs hW => ?_)
          have hW : MW D cA ad ρ' T σ A s s.heap H locs := by rw [upT_upT, upT_eta] at hW; exact hW
          refine lv_iload_n hx hb dX8_bold_82 rfl (lv_at hl 1 rfl) ?_
          exact hret mm ρ' _ _ _ _ _ hW rfl rfl (by unfold boldP; rw [if_neg hone, hiq, hR0, hmR]; exact ⟨rfl, hkp⟩) dX8_bold_83
        ·
          obtain ⟨j, rfl⟩ := nI_sub1 c_2; rw [nI_pred] at hl
          refine lv_iload_n hx hb dX8_bold_33 rfl (lv_at hl 1 rfl) ?_
          refine lv_iconst (v := (-1)) hx hb dX8_bold_34 (by decide) ?_
          refine lv_icmp_ne (tgt := 71) hx hb dX8_bold_35 (by decide) (fun c_3 => ?_) (fun c_3 => ?_)
          ·
            have hmR : mm = RES := (hmm.elim (fun z => absurd z.1 c_3) (fun z => z.2))
            refine lv_aload_n hx hb dX8_bold_71 rfl (lv_at hl 3 rfl) ?_
            refine mr_f F hW 3 (by decide) rfl fl_RX8_16 dX8_bold_72 ?_
            refine lv_iconst (v := 5) hx hb dX8_bold_75 (by decide) ?_
            refine lv_iload_n hx hb dX8_bold_76 rfl (lv_at hl 4 rfl) ?_
            refine lv_imul hx hb dX8_bold_77 ?_
            refine lv_iconst (v := 1) hx hb dX8_bold_78 (by decide) ?_
            refine lv_iadd hx hb dX8_bold_79 ?_
            refine lv_iload_n hx hb dX8_bold_80 rfl (lv_at hl 2 rfl) ?_
            refine mw_rows q 1 (by omega) (by decide) (mi_5k q 1) F hW dX8_bold_81 (fun H locs hW => ?_)
            have hW : MW D cA ad ρ' T σ A s s.heap H locs := by rw [upT_upT, upT_eta] at hW; exact hW
            refine lv_iload_n hx hb dX8_bold_82 rfl (lv_at hl 1 rfl) ?_
            exact hret mm ρ' _ _ _ _ _ hW rfl rfl (by unfold boldP; rw [if_neg hone, hiq, hR0, hmR]; exact ⟨rfl, hkp⟩) dX8_bold_83
          ·
            have hB : boldK Lx T q (j + 1) = RES := (hmm.elim (fun z => z.2) (fun z => absurd c_3 z.1))
            refine lv_aload_n hx hb dX8_bold_38 rfl (lv_at hl 3 rfl) ?_
            refine mr_f F hW 3 (by decide) rfl fl_RX8_16 dX8_bold_39 ?_
            refine lv_iconst (v := 5) hx hb dX8_bold_42 (by decide) ?_
            refine lv_iload_n hx hb dX8_bold_43 rfl (lv_at hl 4 rfl) ?_
            refine lv_imul hx hb dX8_bold_44 ?_
            refine lv_iconst (v := 1) hx hb dX8_bold_45 (by decide) ?_
            refine lv_iadd hx hb dX8_bold_46 ?_
            refine lv_iload hx hb dX8_bold_47 (lv_at hl 0 rfl) ?_
            refine mw_rows q 1 (by omega) (by decide) (mi_5k q 1) F hW dX8_bold_49 (fun H locs hW => ?_)
            have hW : MW D cA ad ρ' (upT T q 3 (nI j)) σ A s s.heap H locs := by rw [upT_upT] at hW; exact hW
            refine lv_aload_n hx hb dX8_bold_50 rfl (lv_at hl 3 rfl) ?_
            refine lv_iload_n hx hb dX8_bold_51 rfl (lv_at hl 4 rfl) ?_
            refine gw_callVi (As := [.int (nI q)]) (rest := []) F hl.1 hW (fun _ _ _ => trivial) gw_T_E (by decide) (rfl : ment ad cA _ _ _ 0 = _) rfl (kX8_isStuck (n := n) (q := q) (Lx := Lx) (ok_upT hT hq6 (fun _ => okG_3 hGq ⟨j, by omega, rfl⟩)) hM (by rw [seats_upT (by omega)]; exact hq)) pd_yX8_isStuck ml_RX8_173 im_yX8_isStuck se_yX8_isStuck ini_RX8 cd_yX8_isStuck ⟨rfl, rfl⟩ ⟨Nat.le_of_ble_eq_true rfl, Nat.le_of_ble_eq_true rfl⟩ rfl rfl (Nat.le_of_ble_eq_true rfl) ⟨Nat.zero_le _, Nat.zero_le _⟩ dX8_bold_52 (fun r ρ_5 H locs hp hW _ _ => ?_)
            obtain ⟨rfl, hk_4⟩ := hp
            refine lv_as (z := stuckS Lx (upT T q 3 (nI j)) q) rfl ?_
            refine lv_if_eq (tgt := 62) hx hb dX8_bold_55 (by decide) (fun c_6 => ?_) (fun c_6 => ?_)
            ·
              refine lv_iload hx hb dX8_bold_62 (lv_at hl 0 rfl) ?_
              refine lv_istore_n (lv' := [(3, .int (nI j)), (4, .int (nI j)), (2, .int (T q 3)), (0, .ref (ad 0)), (1, .int (nI q))]) hx hb dX8_bold_64 rfl hl (by decide) rfl (fun ls hl => ?_)
              refine lv_iinc (v := nI j - 1) (lv' := [(4, .int (nI j - 1)), (3, .int (nI j)), (2, .int (T q 3)), (0, .ref (ad 0)), (1, .int (nI q))]) hx hb dX8_bold_65 hl (k := 1) rfl (by rw [show Int32.ofInt (-1) = -1 from by decide, ← Int32.sub_eq_add_neg]) (by decide) rfl (fun ls hl => ?_)
              refine lv_goto (tgt := 28) hx hb dX8_bold_68 (by decide) ?_
              exact ih28 j (nI j) ρ_5 _ (by omega) (by omega) ((Kp.trans hkp hk_4)) (Or.inr ⟨nI_m1 (by omega), by rw [← hB]; exact (if_pos c_6).symm⟩) _ _ _ hW (lv_sub hl [0, 1, 2, 3, 4] rfl)
            ·
              refine lv_iconst (v := (-1)) hx hb dX8_bold_58 (by decide) ?_
              refine lv_goto (tgt := 64) hx hb dX8_bold_59 (by decide) ?_
              refine lv_istore_n (lv' := [(3, .int (-1)), (4, .int (nI j)), (2, .int (T q 3)), (0, .ref (ad 0)), (1, .int (nI q))]) hx hb dX8_bold_64 rfl hl (by decide) rfl (fun ls hl => ?_)
              refine lv_iinc (v := nI j - 1) (lv' := [(4, .int (nI j - 1)), (3, .int (-1)), (2, .int (T q 3)), (0, .ref (ad 0)), (1, .int (nI q))]) hx hb dX8_bold_65 hl (k := 1) rfl (by rw [show Int32.ofInt (-1) = -1 from by decide, ← Int32.sub_eq_add_neg]) (by decide) rfl (fun ls hl => ?_)
              refine lv_goto (tgt := 28) hx hb dX8_bold_68 (by decide) ?_
              exact ih28 j (nI j) ρ_5 _ (by omega) (by omega) ((Kp.trans hkp hk_4)) (Or.inl ⟨rfl, by rw [← hB]; exact (if_neg c_6).symm⟩) _ _ _ hW (lv_sub hl [0, 1, 2, 3, 4] rfl)
    exact L28 101 100 (T q 3) _ (-1) (by omega) (by omega) (Kp.rf) (Or.inl ⟨rfl, hR0⟩) _ _ _ hW (lv_sub hl [0, 1, 2, 3, 4] rfl)
  ·
    refine lv_bipush (v := (-5)) hx hb dX8_bold_8 (by decide) ?_
    exact hret (-5) ρ _ _ _ _ _ hW rfl rfl (by unfold boldP; rw [if_pos c_1]; exact ⟨rfl, Kp.rf⟩) dX8_bold_10
