/-! ===== the law by default; the reference's constructor ===== -/
def lawB (j : Nat) : Int32 := ([100, 97, 114, 101, 115, 32, 57, 57, 32, 59, 32, 101, 97, 116, 115, 32, 49, 32, 59, 32, 116, 101, 108, 108, 115, 32, 49, 32, 59] : List Int32).getD j 0
set_option maxRecDepth 100000 in
theorem lawB_fau : fauP lawB 29 0 = -1 := by decide +kernel
set_option maxRecDepth 100000 in
theorem lawB_L : (thR lawB 29 0 3).2.2.2.2.2 = [99, 1, 1] := by decide +kernel
set_option maxRecDepth 100000 in
theorem lawB_st : ∀ k, k < 4 → stR lawB 29 0 k = nI k := by decide +kernel
def zz2 : Nat → Nat → Int32 := fun _ _ => 0
theorem if_zz {c : Prop} [Decidable c] : (if c then (0 : Int32) else 0) = 0 := by split <;> rfl
theorem mz_a {cA : ClassId} {n : Nat} : (Sum.inl (cA, n, Sum.inl (fun _ => 0)) : va_E) = Sum.inl (cA, n, Sum.inl (fun i => if i < n then (0 : Int32) else 0)) := by
  congr 4
  funext i
  exact if_zz.symm
/-- the reference's memory when it is made -/
def M0P (σ : Nat → Nat → Int32) : Prop := σ 0 9 = nI 1 ∧ σ 0 6 = 0 ∧ σ 0 11 = 0 ∧ (∀ i q, i < 12 → q < 8 → σ 13 (8 * i + q) = wdW i q) ∧ (∀ k, k < 4 → σ 6 k = nI k) ∧ (∀ j, j < 3 → σ 5 j = encM (([99, 1, 1] : List Int32).getD j 0)) ∧ (∀ j, j < 4 → σ 9 j = -1 ∧ σ 10 j = 0) ∧ ∀ j, σ 11 j = 0
theorem m0p_of {σ0 σ' u : Nat → Nat → Int32} {r : Int32} {f9 : Nat → Int32} (hC : ∀ o, o ≠ 4 → σ' o = σ0 o) (h0 : σ0 0 = fun _ => 0) (h9 : σ0 9 = f9) (hf9 : ∀ j, j < 4 → f9 j = -1) (h10 : σ0 10 = fun _ => 0) (h11 : σ0 11 = fun _ => 0) (hwd : ∀ i, i < 12 → ∀ q, q < 8 → σ0 13 (8 * i + q) = wdW i q) (h : TxP lawB 0 29 0 (upR σ' 0 6 29) r u) : M0P u := by
  rcases h with ⟨h, _, _⟩ | ⟨_, h, _⟩ | ⟨_, _, _, g9, ⟨g6, gf, _, _, go⟩, gc, gs⟩
  · exact absurd h (by decide)
  · exact absurd lawB_fau h
  · have e0 : ∀ o, o ≠ 0 → o ≠ 4 → o ≠ 5 → o ≠ 6 → o ≠ 14 → u o = σ0 o := fun o a b c d e => by rw [go o a c d e, up_ne2 a, hC o b]
    refine ⟨g9, g6, ?_, fun i q hi hq => ?_, fun k hk => ?_, fun j hj => ?_, fun j hj => ⟨?_, ?_⟩, fun j => ?_⟩
    · rw [gf 11 (by decide) (by decide) (by omega) (by omega), upR_self, pk_un (by decide), hC 0 (by decide), h0]
    · rw [e0 13 (by decide) (by decide) (by decide) (by decide) (by decide)]; exact hwd i hi q hq
    · have := gs k hk
      rw [Nat.mul_zero, Nat.zero_add] at this
      rw [this]; exact lawB_st k hk
    · have := gc j (by rw [lawB_L]; exact hj)
      rw [Nat.mul_zero, Nat.zero_add, lawB_L] at this
      exact this
    · rw [e0 9 (by decide) (by decide) (by decide) (by decide) (by decide), h9]; exact hf9 j hj
    · rw [e0 10 (by decide) (by decide) (by decide) (by decide) (by decide), h10]
    · rw [e0 11 (by decide) (by decide) (by decide) (by decide) (by decide), h11]
abbrev rm_yX8_init : Room := { frames := 5, cells := 17, slots := 2189, locals := 109 }
set_option maxHeartbeats 4000000 in
set_option maxRecDepth 100000 in
theorem kX8_init {l : Launch} {D : va_G} {h0 sz : Nat} : Met l yX8_init (WSm yX8_init cX8_init 2 none) rm_yX8_init (va_Pc [.ref h0] (lw_B D [] [(h0, .inr (8, [.int 0, .null, .null, .null, .int 0, .null, .int 0, .null, .null, .int 0, .int 0, .int 0, .null, .null, .null, .null, .null, .null, .int 0, .int 0, .int 0, .int 0, .null, .null, .int 0, .int 0, .int 0, .null, .null, .null, .int 0]))] sz gw_T)) (lw_Q D (fun u : (Nat → Nat) × ClassId × (Nat → Nat → Int32) => u.1 0 = h0 ∧ M0P u.2.2) (fun u => gw_L 18 u.1 (ment u.1 u.2.1 zz2 zz2 u.2.2)) (fun u => mtys u.2.1) (va_A [(h0, .inr (8, [.int 0, .null, .null, .null, .int 0, .null, .int 0, .null, .null, .int 0, .int 0, .int 0, .null, .null, .null, .null, .null, .null, .int 0, .int 0, .int 0, .int 0, .null, .null, .int 0, .int 0, .int 0, .null, .null, .null, .int 0]))] sz)) 17 2189 (va_A [(h0, .inr (8, [.int 0, .null, .null, .null, .int 0, .null, .int 0, .null, .null, .int 0, .int 0, .int 0, .null, .null, .null, .null, .null, .null, .int 0, .int 0, .int 0, .int 0, .null, .null, .int 0, .int 0, .int 0, .null, .null, .null, .int 0]))] sz) := by
  refine lw_start (own := RX8) (by decide +kernel) rfl (Nat.le_of_ble_eq_true rfl) ?_
  intro p e s m ar below meth c A Q F hE hsz hnm hW hret ls hl
  obtain ⟨hx, hb, hml, hown, hts⟩ := id F
  have hl : lv_has ls 2 [(0, .ref h0)] := hl
  refine lv_aload_n hx hb dX8_init_0 rfl (lv_at hl 0 rfl) ?_
  refine lw_obj (own' := RX8) (idx' := 0) F hl.1 ml_RX8_1 ⟨Nat.le_of_ble_eq_true rfl, Nat.le_of_ble_eq_true rfl⟩ (Nat.le_of_ble_eq_true rfl) dX8_init_1 ?_
  refine lv_aload_n hx hb dX8_init_4 rfl (lv_at hl 0 rfl) ?_
  refine lv_bipush (v := 6) hx hb dX8_init_5 (by decide) ?_
  refine lw_newi (c2 := 1) (s2 := 6) (N' := 6) F hW (by decide) rfl (by decide) rfl rfl ⟨Nat.le_of_ble_eq_true rfl, Nat.le_of_ble_eq_true rfl⟩ dX8_init_7 (fun q_1 cA H hW' => ?_)
  clear hW
  have hW : LWd D [(cA, .int)] [(h0, .inr (8, [.int 0, .null, .null, .null, .int 0, .null, .int 0, .null, .null, .int 0, .int 0, .int 0, .null, .null, .null, .null, .null, .null, .int 0, .int 0, .int 0, .int 0, .null, .null, .int 0, .int 0, .int 0, .null, .null, .null, .int 0])), (q_1, .inl (cA, 6, .inl (fun _ => 0)))] A s s.heap H _ := hW'
  clear hW'
  show W p l e _ s m ar below meth c _ _ _ _ Q (F0 m 9 ls _)
  refine lw_put (ci := 8) (fs := [.int 0, .null, .null, .null, .int 0, .null, .int 0, .null, .null, .int 0, .int 0, .int 0, .null, .null, .null, .null, .null, .null, .int 0, .int 0, .int 0, .int 0, .null, .null, .int 0, .int 0, .int 0, .null, .null, .null, .int 0]) F hW 0 rfl (C := RX8) (T := TX8) (n := 31) rfl in_RX8 tyX8 tyX8_ok nmX8 1 (by decide) fl_RX8_7 hnm (by decide +kernel) rfl rfl rfl (show 1 < 31 by decide) dX8_init_9 (fun H locs hW' => ?_)
  clear hW
  have hW : LWd D [(cA, .int)] [(h0, .inr (8, [.int 0, .ref q_1, .null, .null, .int 0, .null, .int 0, .null, .null, .int 0, .int 0, .int 0, .null, .null, .null, .null, .null, .null, .int 0, .int 0, .int 0, .int 0, .null, .null, .int 0, .int 0, .int 0, .null, .null, .null, .int 0])), (q_1, .inl (cA, 6, .inl (fun _ => 0)))] A s s.heap H _ := hW'
  clear hW'
  show W p l e _ s m ar below meth c _ _ _ _ Q (F0 m 12 ls _)
  refine lv_aload_n hx hb dX8_init_12 rfl (lv_at hl 0 rfl) ?_
  refine lv_bipush (v := 6) hx hb dX8_init_13 (by decide) ?_
  refine lw_newi (c2 := 2) (s2 := 12) (N' := 6) F hW (by decide) rfl (by decide) rfl rfl ⟨Nat.le_of_ble_eq_true rfl, Nat.le_of_ble_eq_true rfl⟩ dX8_init_15 (fun q_2 cA_3 H hW' => ?_)
  clear hW
  have hW : LWd D [(cA, .int), (cA_3, .int)] [(h0, .inr (8, [.int 0, .ref q_1, .null, .null, .int 0, .null, .int 0, .null, .null, .int 0, .int 0, .int 0, .null, .null, .null, .null, .null, .null, .int 0, .int 0, .int 0, .int 0, .null, .null, .int 0, .int 0, .int 0, .null, .null, .null, .int 0])), (q_1, .inl (cA, 6, .inl (fun _ => 0))), (q_2, .inl (cA_3, 6, .inl (fun _ => 0)))] A s s.heap H _ := hW'
  clear hW'
  obtain rfl : cA = cA_3 := lw_same (i := 0) (j := 1) hW rfl rfl
  have hW := lw_tys (t' := [(cA, .int)]) hW [0] rfl
  have hW2 : LWd D [(cA, .int)] [(h0, .inr (8, [.int 0, .ref q_1, .null, .null, .int 0, .null, .int 0, .null, .null, .int 0, .int 0, .int 0, .null, .null, .null, .null, .null, .null, .int 0, .int 0, .int 0, .int 0, .null, .null, .int 0, .int 0, .int 0, .null, .null, .null, .int 0])), (q_1, .inl (cA, 6, .inl (fun _ => 0))), (q_2, .inl (cA, 6, .inl (fun _ => 0)))] A s s.heap H _ := hW
  clear hW
  have hW := hW2
  clear hW2
  show W p l e _ s m ar below meth c _ _ _ _ Q (F0 m 17 ls _)
  refine lw_put (ci := 8) (fs := [.int 0, .ref q_1, .null, .null, .int 0, .null, .int 0, .null, .null, .int 0, .int 0, .int 0, .null, .null, .null, .null, .null, .null, .int 0, .int 0, .int 0, .int 0, .null, .null, .int 0, .int 0, .int 0, .null, .null, .null, .int 0]) F hW 0 rfl (C := RX8) (T := TX8) (n := 31) rfl in_RX8 tyX8 tyX8_ok nmX8 2 (by decide) fl_RX8_13 hnm (by decide +kernel) rfl rfl rfl (show 2 < 31 by decide) dX8_init_17 (fun H locs hW' => ?_)
  clear hW
  have hW : LWd D [(cA, .int)] [(h0, .inr (8, [.int 0, .ref q_1, .ref q_2, .null, .int 0, .null, .int 0, .null, .null, .int 0, .int 0, .int 0, .null, .null, .null, .null, .null, .null, .int 0, .int 0, .int 0, .int 0, .null, .null, .int 0, .int 0, .int 0, .null, .null, .null, .int 0])), (q_1, .inl (cA, 6, .inl (fun _ => 0))), (q_2, .inl (cA, 6, .inl (fun _ => 0)))] A s s.heap H _ := hW'
  clear hW'
  show W p l e _ s m ar below meth c _ _ _ _ Q (F0 m 20 ls _)
  refine lv_aload_n hx hb dX8_init_20 rfl (lv_at hl 0 rfl) ?_
  refine lv_bipush (v := 30) hx hb dX8_init_21 (by decide) ?_
  refine lw_newi (c2 := 3) (s2 := 42) (N' := 30) F hW (by decide) rfl (by decide) rfl rfl ⟨Nat.le_of_ble_eq_true rfl, Nat.le_of_ble_eq_true rfl⟩ dX8_init_23 (fun q_4 cA_5 H hW' => ?_)
  clear hW
  have hW : LWd D [(cA, .int), (cA_5, .int)] [(h0, .inr (8, [.int 0, .ref q_1, .ref q_2, .null, .int 0, .null, .int 0, .null, .null, .int 0, .int 0, .int 0, .null, .null, .null, .null, .null, .null, .int 0, .int 0, .int 0, .int 0, .null, .null, .int 0, .int 0, .int 0, .null, .null, .null, .int 0])), (q_1, .inl (cA, 6, .inl (fun _ => 0))), (q_2, .inl (cA, 6, .inl (fun _ => 0))), (q_4, .inl (cA_5, 30, .inl (fun _ => 0)))] A s s.heap H _ := hW'
  clear hW'
  obtain rfl : cA = cA_5 := lw_same (i := 0) (j := 1) hW rfl rfl
  have hW := lw_tys (t' := [(cA, .int)]) hW [0] rfl
  have hW2 : LWd D [(cA, .int)] [(h0, .inr (8, [.int 0, .ref q_1, .ref q_2, .null, .int 0, .null, .int 0, .null, .null, .int 0, .int 0, .int 0, .null, .null, .null, .null, .null, .null, .int 0, .int 0, .int 0, .int 0, .null, .null, .int 0, .int 0, .int 0, .null, .null, .null, .int 0])), (q_1, .inl (cA, 6, .inl (fun _ => 0))), (q_2, .inl (cA, 6, .inl (fun _ => 0))), (q_4, .inl (cA, 30, .inl (fun _ => 0)))] A s s.heap H _ := hW
  clear hW
  have hW := hW2
  clear hW2
  show W p l e _ s m ar below meth c _ _ _ _ Q (F0 m 25 ls _)
  refine lw_put (ci := 8) (fs := [.int 0, .ref q_1, .ref q_2, .null, .int 0, .null, .int 0, .null, .null, .int 0, .int 0, .int 0, .null, .null, .null, .null, .null, .null, .int 0, .int 0, .int 0, .int 0, .null, .null, .int 0, .int 0, .int 0, .null, .null, .null, .int 0]) F hW 0 rfl (C := RX8) (T := TX8) (n := 31) rfl in_RX8 tyX8 tyX8_ok nmX8 3 (by decide) fl_RX8_16 hnm (by decide +kernel) rfl rfl rfl (show 3 < 31 by decide) dX8_init_25 (fun H locs hW' => ?_)
  clear hW
  have hW : LWd D [(cA, .int)] [(h0, .inr (8, [.int 0, .ref q_1, .ref q_2, .ref q_4, .int 0, .null, .int 0, .null, .null, .int 0, .int 0, .int 0, .null, .null, .null, .null, .null, .null, .int 0, .int 0, .int 0, .int 0, .null, .null, .int 0, .int 0, .int 0, .null, .null, .null, .int 0])), (q_1, .inl (cA, 6, .inl (fun _ => 0))), (q_2, .inl (cA, 6, .inl (fun _ => 0))), (q_4, .inl (cA, 30, .inl (fun _ => 0)))] A s s.heap H _ := hW'
  clear hW'
  show W p l e _ s m ar below meth c _ _ _ _ Q (F0 m 28 ls _)
  refine lv_aload_n hx hb dX8_init_28 rfl (lv_at hl 0 rfl) ?_
  refine lv_sipush (v := 160) hx hb dX8_init_29 (by decide) ?_
  refine lw_newi (c2 := 4) (s2 := 202) (N' := 160) F hW (by decide) rfl (by decide) rfl rfl ⟨Nat.le_of_ble_eq_true rfl, Nat.le_of_ble_eq_true rfl⟩ dX8_init_32 (fun q_6 cA_7 H hW' => ?_)
  clear hW
  have hW : LWd D [(cA, .int), (cA_7, .int)] [(h0, .inr (8, [.int 0, .ref q_1, .ref q_2, .ref q_4, .int 0, .null, .int 0, .null, .null, .int 0, .int 0, .int 0, .null, .null, .null, .null, .null, .null, .int 0, .int 0, .int 0, .int 0, .null, .null, .int 0, .int 0, .int 0, .null, .null, .null, .int 0])), (q_1, .inl (cA, 6, .inl (fun _ => 0))), (q_2, .inl (cA, 6, .inl (fun _ => 0))), (q_4, .inl (cA, 30, .inl (fun _ => 0))), (q_6, .inl (cA_7, 160, .inl (fun _ => 0)))] A s s.heap H _ := hW'
  clear hW'
  obtain rfl : cA = cA_7 := lw_same (i := 0) (j := 1) hW rfl rfl
  have hW := lw_tys (t' := [(cA, .int)]) hW [0] rfl
  have hW2 : LWd D [(cA, .int)] [(h0, .inr (8, [.int 0, .ref q_1, .ref q_2, .ref q_4, .int 0, .null, .int 0, .null, .null, .int 0, .int 0, .int 0, .null, .null, .null, .null, .null, .null, .int 0, .int 0, .int 0, .int 0, .null, .null, .int 0, .int 0, .int 0, .null, .null, .null, .int 0])), (q_1, .inl (cA, 6, .inl (fun _ => 0))), (q_2, .inl (cA, 6, .inl (fun _ => 0))), (q_4, .inl (cA, 30, .inl (fun _ => 0))), (q_6, .inl (cA, 160, .inl (fun _ => 0)))] A s s.heap H _ := hW
  clear hW
  have hW := hW2
  clear hW2
  show W p l e _ s m ar below meth c _ _ _ _ Q (F0 m 34 ls _)
  refine lw_put (ci := 8) (fs := [.int 0, .ref q_1, .ref q_2, .ref q_4, .int 0, .null, .int 0, .null, .null, .int 0, .int 0, .int 0, .null, .null, .null, .null, .null, .null, .int 0, .int 0, .int 0, .int 0, .null, .null, .int 0, .int 0, .int 0, .null, .null, .null, .int 0]) F hW 0 rfl (C := RX8) (T := TX8) (n := 31) rfl in_RX8 tyX8 tyX8_ok nmX8 5 (by decide) fl_RX8_19 hnm (by decide +kernel) rfl rfl rfl (show 5 < 31 by decide) dX8_init_34 (fun H locs hW' => ?_)
  clear hW
  have hW : LWd D [(cA, .int)] [(h0, .inr (8, [.int 0, .ref q_1, .ref q_2, .ref q_4, .int 0, .ref q_6, .int 0, .null, .null, .int 0, .int 0, .int 0, .null, .null, .null, .null, .null, .null, .int 0, .int 0, .int 0, .int 0, .null, .null, .int 0, .int 0, .int 0, .null, .null, .null, .int 0])), (q_1, .inl (cA, 6, .inl (fun _ => 0))), (q_2, .inl (cA, 6, .inl (fun _ => 0))), (q_4, .inl (cA, 30, .inl (fun _ => 0))), (q_6, .inl (cA, 160, .inl (fun _ => 0)))] A s s.heap H _ := hW'
  clear hW'
  show W p l e _ s m ar below meth c _ _ _ _ Q (F0 m 37 ls _)
  refine lv_aload_n hx hb dX8_init_37 rfl (lv_at hl 0 rfl) ?_
  refine lv_sipush (v := 1200) hx hb dX8_init_38 (by decide) ?_
  refine lw_newi (c2 := 5) (s2 := 1402) (N' := 1200) F hW (by decide) rfl (by decide) rfl rfl ⟨Nat.le_of_ble_eq_true rfl, Nat.le_of_ble_eq_true rfl⟩ dX8_init_41 (fun q_8 cA_9 H hW' => ?_)
  clear hW
  have hW : LWd D [(cA, .int), (cA_9, .int)] [(h0, .inr (8, [.int 0, .ref q_1, .ref q_2, .ref q_4, .int 0, .ref q_6, .int 0, .null, .null, .int 0, .int 0, .int 0, .null, .null, .null, .null, .null, .null, .int 0, .int 0, .int 0, .int 0, .null, .null, .int 0, .int 0, .int 0, .null, .null, .null, .int 0])), (q_1, .inl (cA, 6, .inl (fun _ => 0))), (q_2, .inl (cA, 6, .inl (fun _ => 0))), (q_4, .inl (cA, 30, .inl (fun _ => 0))), (q_6, .inl (cA, 160, .inl (fun _ => 0))), (q_8, .inl (cA_9, 1200, .inl (fun _ => 0)))] A s s.heap H _ := hW'
  clear hW'
  obtain rfl : cA = cA_9 := lw_same (i := 0) (j := 1) hW rfl rfl
  have hW := lw_tys (t' := [(cA, .int)]) hW [0] rfl
  have hW2 : LWd D [(cA, .int)] [(h0, .inr (8, [.int 0, .ref q_1, .ref q_2, .ref q_4, .int 0, .ref q_6, .int 0, .null, .null, .int 0, .int 0, .int 0, .null, .null, .null, .null, .null, .null, .int 0, .int 0, .int 0, .int 0, .null, .null, .int 0, .int 0, .int 0, .null, .null, .null, .int 0])), (q_1, .inl (cA, 6, .inl (fun _ => 0))), (q_2, .inl (cA, 6, .inl (fun _ => 0))), (q_4, .inl (cA, 30, .inl (fun _ => 0))), (q_6, .inl (cA, 160, .inl (fun _ => 0))), (q_8, .inl (cA, 1200, .inl (fun _ => 0)))] A s s.heap H _ := hW
  clear hW
  have hW := hW2
  clear hW2
  show W p l e _ s m ar below meth c _ _ _ _ Q (F0 m 43 ls _)
  refine lw_put (ci := 8) (fs := [.int 0, .ref q_1, .ref q_2, .ref q_4, .int 0, .ref q_6, .int 0, .null, .null, .int 0, .int 0, .int 0, .null, .null, .null, .null, .null, .null, .int 0, .int 0, .int 0, .int 0, .null, .null, .int 0, .int 0, .int 0, .null, .null, .null, .int 0]) F hW 0 rfl (C := RX8) (T := TX8) (n := 31) rfl in_RX8 tyX8 tyX8_ok nmX8 7 (by decide) fl_RX8_22 hnm (by decide +kernel) rfl rfl rfl (show 7 < 31 by decide) dX8_init_43 (fun H locs hW' => ?_)
  clear hW
  have hW : LWd D [(cA, .int)] [(h0, .inr (8, [.int 0, .ref q_1, .ref q_2, .ref q_4, .int 0, .ref q_6, .int 0, .ref q_8, .null, .int 0, .int 0, .int 0, .null, .null, .null, .null, .null, .null, .int 0, .int 0, .int 0, .int 0, .null, .null, .int 0, .int 0, .int 0, .null, .null, .null, .int 0])), (q_1, .inl (cA, 6, .inl (fun _ => 0))), (q_2, .inl (cA, 6, .inl (fun _ => 0))), (q_4, .inl (cA, 30, .inl (fun _ => 0))), (q_6, .inl (cA, 160, .inl (fun _ => 0))), (q_8, .inl (cA, 1200, .inl (fun _ => 0)))] A s s.heap H _ := hW'
  clear hW'
  show W p l e _ s m ar below meth c _ _ _ _ Q (F0 m 46 ls _)
  refine lv_aload_n hx hb dX8_init_46 rfl (lv_at hl 0 rfl) ?_
  refine lv_bipush (v := 24) hx hb dX8_init_47 (by decide) ?_
  refine lw_newi (c2 := 6) (s2 := 1426) (N' := 24) F hW (by decide) rfl (by decide) rfl rfl ⟨Nat.le_of_ble_eq_true rfl, Nat.le_of_ble_eq_true rfl⟩ dX8_init_49 (fun q_10 cA_11 H hW' => ?_)
  clear hW
  have hW : LWd D [(cA, .int), (cA_11, .int)] [(h0, .inr (8, [.int 0, .ref q_1, .ref q_2, .ref q_4, .int 0, .ref q_6, .int 0, .ref q_8, .null, .int 0, .int 0, .int 0, .null, .null, .null, .null, .null, .null, .int 0, .int 0, .int 0, .int 0, .null, .null, .int 0, .int 0, .int 0, .null, .null, .null, .int 0])), (q_1, .inl (cA, 6, .inl (fun _ => 0))), (q_2, .inl (cA, 6, .inl (fun _ => 0))), (q_4, .inl (cA, 30, .inl (fun _ => 0))), (q_6, .inl (cA, 160, .inl (fun _ => 0))), (q_8, .inl (cA, 1200, .inl (fun _ => 0))), (q_10, .inl (cA_11, 24, .inl (fun _ => 0)))] A s s.heap H _ := hW'
  clear hW'
  obtain rfl : cA = cA_11 := lw_same (i := 0) (j := 1) hW rfl rfl
  have hW := lw_tys (t' := [(cA, .int)]) hW [0] rfl
  have hW2 : LWd D [(cA, .int)] [(h0, .inr (8, [.int 0, .ref q_1, .ref q_2, .ref q_4, .int 0, .ref q_6, .int 0, .ref q_8, .null, .int 0, .int 0, .int 0, .null, .null, .null, .null, .null, .null, .int 0, .int 0, .int 0, .int 0, .null, .null, .int 0, .int 0, .int 0, .null, .null, .null, .int 0])), (q_1, .inl (cA, 6, .inl (fun _ => 0))), (q_2, .inl (cA, 6, .inl (fun _ => 0))), (q_4, .inl (cA, 30, .inl (fun _ => 0))), (q_6, .inl (cA, 160, .inl (fun _ => 0))), (q_8, .inl (cA, 1200, .inl (fun _ => 0))), (q_10, .inl (cA, 24, .inl (fun _ => 0)))] A s s.heap H _ := hW
  clear hW
  have hW := hW2
  clear hW2
  show W p l e _ s m ar below meth c _ _ _ _ Q (F0 m 51 ls _)
  refine lw_put (ci := 8) (fs := [.int 0, .ref q_1, .ref q_2, .ref q_4, .int 0, .ref q_6, .int 0, .ref q_8, .null, .int 0, .int 0, .int 0, .null, .null, .null, .null, .null, .null, .int 0, .int 0, .int 0, .int 0, .null, .null, .int 0, .int 0, .int 0, .null, .null, .null, .int 0]) F hW 0 rfl (C := RX8) (T := TX8) (n := 31) rfl in_RX8 tyX8 tyX8_ok nmX8 8 (by decide) fl_RX8_25 hnm (by decide +kernel) rfl rfl rfl (show 8 < 31 by decide) dX8_init_51 (fun H locs hW' => ?_)
  clear hW
  have hW : LWd D [(cA, .int)] [(h0, .inr (8, [.int 0, .ref q_1, .ref q_2, .ref q_4, .int 0, .ref q_6, .int 0, .ref q_8, .ref q_10, .int 0, .int 0, .int 0, .null, .null, .null, .null, .null, .null, .int 0, .int 0, .int 0, .int 0, .null, .null, .int 0, .int 0, .int 0, .null, .null, .null, .int 0])), (q_1, .inl (cA, 6, .inl (fun _ => 0))), (q_2, .inl (cA, 6, .inl (fun _ => 0))), (q_4, .inl (cA, 30, .inl (fun _ => 0))), (q_6, .inl (cA, 160, .inl (fun _ => 0))), (q_8, .inl (cA, 1200, .inl (fun _ => 0))), (q_10, .inl (cA, 24, .inl (fun _ => 0)))] A s s.heap H _ := hW'
  clear hW'
  show W p l e _ s m ar below meth c _ _ _ _ Q (F0 m 54 ls _)
  refine lv_aload_n hx hb dX8_init_54 rfl (lv_at hl 0 rfl) ?_
  refine lv_bipush (v := 30) hx hb dX8_init_55 (by decide) ?_
  refine lw_newi (c2 := 7) (s2 := 1456) (N' := 30) F hW (by decide) rfl (by decide) rfl rfl ⟨Nat.le_of_ble_eq_true rfl, Nat.le_of_ble_eq_true rfl⟩ dX8_init_57 (fun q_12 cA_13 H hW' => ?_)
  clear hW
  have hW : LWd D [(cA, .int), (cA_13, .int)] [(h0, .inr (8, [.int 0, .ref q_1, .ref q_2, .ref q_4, .int 0, .ref q_6, .int 0, .ref q_8, .ref q_10, .int 0, .int 0, .int 0, .null, .null, .null, .null, .null, .null, .int 0, .int 0, .int 0, .int 0, .null, .null, .int 0, .int 0, .int 0, .null, .null, .null, .int 0])), (q_1, .inl (cA, 6, .inl (fun _ => 0))), (q_2, .inl (cA, 6, .inl (fun _ => 0))), (q_4, .inl (cA, 30, .inl (fun _ => 0))), (q_6, .inl (cA, 160, .inl (fun _ => 0))), (q_8, .inl (cA, 1200, .inl (fun _ => 0))), (q_10, .inl (cA, 24, .inl (fun _ => 0))), (q_12, .inl (cA_13, 30, .inl (fun _ => 0)))] A s s.heap H _ := hW'
  clear hW'
  obtain rfl : cA = cA_13 := lw_same (i := 0) (j := 1) hW rfl rfl
  have hW := lw_tys (t' := [(cA, .int)]) hW [0] rfl
  have hW2 : LWd D [(cA, .int)] [(h0, .inr (8, [.int 0, .ref q_1, .ref q_2, .ref q_4, .int 0, .ref q_6, .int 0, .ref q_8, .ref q_10, .int 0, .int 0, .int 0, .null, .null, .null, .null, .null, .null, .int 0, .int 0, .int 0, .int 0, .null, .null, .int 0, .int 0, .int 0, .null, .null, .null, .int 0])), (q_1, .inl (cA, 6, .inl (fun _ => 0))), (q_2, .inl (cA, 6, .inl (fun _ => 0))), (q_4, .inl (cA, 30, .inl (fun _ => 0))), (q_6, .inl (cA, 160, .inl (fun _ => 0))), (q_8, .inl (cA, 1200, .inl (fun _ => 0))), (q_10, .inl (cA, 24, .inl (fun _ => 0))), (q_12, .inl (cA, 30, .inl (fun _ => 0)))] A s s.heap H _ := hW
  clear hW
  have hW := hW2
  clear hW2
  show W p l e _ s m ar below meth c _ _ _ _ Q (F0 m 59 ls _)
  refine lw_put (ci := 8) (fs := [.int 0, .ref q_1, .ref q_2, .ref q_4, .int 0, .ref q_6, .int 0, .ref q_8, .ref q_10, .int 0, .int 0, .int 0, .null, .null, .null, .null, .null, .null, .int 0, .int 0, .int 0, .int 0, .null, .null, .int 0, .int 0, .int 0, .null, .null, .null, .int 0]) F hW 0 rfl (C := RX8) (T := TX8) (n := 31) rfl in_RX8 tyX8 tyX8_ok nmX8 12 (by decide) fl_RX8_28 hnm (by decide +kernel) rfl rfl rfl (show 12 < 31 by decide) dX8_init_59 (fun H locs hW' => ?_)
  clear hW
  have hW : LWd D [(cA, .int)] [(h0, .inr (8, [.int 0, .ref q_1, .ref q_2, .ref q_4, .int 0, .ref q_6, .int 0, .ref q_8, .ref q_10, .int 0, .int 0, .int 0, .ref q_12, .null, .null, .null, .null, .null, .int 0, .int 0, .int 0, .int 0, .null, .null, .int 0, .int 0, .int 0, .null, .null, .null, .int 0])), (q_1, .inl (cA, 6, .inl (fun _ => 0))), (q_2, .inl (cA, 6, .inl (fun _ => 0))), (q_4, .inl (cA, 30, .inl (fun _ => 0))), (q_6, .inl (cA, 160, .inl (fun _ => 0))), (q_8, .inl (cA, 1200, .inl (fun _ => 0))), (q_10, .inl (cA, 24, .inl (fun _ => 0))), (q_12, .inl (cA, 30, .inl (fun _ => 0)))] A s s.heap H _ := hW'
  clear hW'
  show W p l e _ s m ar below meth c _ _ _ _ Q (F0 m 62 ls _)
  refine lv_aload_n hx hb dX8_init_62 rfl (lv_at hl 0 rfl) ?_
  refine lv_iconst (v := 3) hx hb dX8_init_63 (by decide) ?_
  refine lw_newi (c2 := 8) (s2 := 1459) (N' := 3) F hW (by decide) rfl (by decide) rfl rfl ⟨Nat.le_of_ble_eq_true rfl, Nat.le_of_ble_eq_true rfl⟩ dX8_init_64 (fun q_14 cA_15 H hW' => ?_)
  clear hW
  have hW : LWd D [(cA, .int), (cA_15, .int)] [(h0, .inr (8, [.int 0, .ref q_1, .ref q_2, .ref q_4, .int 0, .ref q_6, .int 0, .ref q_8, .ref q_10, .int 0, .int 0, .int 0, .ref q_12, .null, .null, .null, .null, .null, .int 0, .int 0, .int 0, .int 0, .null, .null, .int 0, .int 0, .int 0, .null, .null, .null, .int 0])), (q_1, .inl (cA, 6, .inl (fun _ => 0))), (q_2, .inl (cA, 6, .inl (fun _ => 0))), (q_4, .inl (cA, 30, .inl (fun _ => 0))), (q_6, .inl (cA, 160, .inl (fun _ => 0))), (q_8, .inl (cA, 1200, .inl (fun _ => 0))), (q_10, .inl (cA, 24, .inl (fun _ => 0))), (q_12, .inl (cA, 30, .inl (fun _ => 0))), (q_14, .inl (cA_15, 3, .inl (fun _ => 0)))] A s s.heap H _ := hW'
  clear hW'
  obtain rfl : cA = cA_15 := lw_same (i := 0) (j := 1) hW rfl rfl
  have hW := lw_tys (t' := [(cA, .int)]) hW [0] rfl
  have hW2 : LWd D [(cA, .int)] [(h0, .inr (8, [.int 0, .ref q_1, .ref q_2, .ref q_4, .int 0, .ref q_6, .int 0, .ref q_8, .ref q_10, .int 0, .int 0, .int 0, .ref q_12, .null, .null, .null, .null, .null, .int 0, .int 0, .int 0, .int 0, .null, .null, .int 0, .int 0, .int 0, .null, .null, .null, .int 0])), (q_1, .inl (cA, 6, .inl (fun _ => 0))), (q_2, .inl (cA, 6, .inl (fun _ => 0))), (q_4, .inl (cA, 30, .inl (fun _ => 0))), (q_6, .inl (cA, 160, .inl (fun _ => 0))), (q_8, .inl (cA, 1200, .inl (fun _ => 0))), (q_10, .inl (cA, 24, .inl (fun _ => 0))), (q_12, .inl (cA, 30, .inl (fun _ => 0))), (q_14, .inl (cA, 3, .inl (fun _ => 0)))] A s s.heap H _ := hW
  clear hW
  have hW := hW2
  clear hW2
  show W p l e _ s m ar below meth c _ _ _ _ Q (F0 m 66 ls _)
  refine lw_put (ci := 8) (fs := [.int 0, .ref q_1, .ref q_2, .ref q_4, .int 0, .ref q_6, .int 0, .ref q_8, .ref q_10, .int 0, .int 0, .int 0, .ref q_12, .null, .null, .null, .null, .null, .int 0, .int 0, .int 0, .int 0, .null, .null, .int 0, .int 0, .int 0, .null, .null, .null, .int 0]) F hW 0 rfl (C := RX8) (T := TX8) (n := 31) rfl in_RX8 tyX8 tyX8_ok nmX8 13 (by decide) fl_RX8_31 hnm (by decide +kernel) rfl rfl rfl (show 13 < 31 by decide) dX8_init_66 (fun H locs hW' => ?_)
  clear hW
  have hW : LWd D [(cA, .int)] [(h0, .inr (8, [.int 0, .ref q_1, .ref q_2, .ref q_4, .int 0, .ref q_6, .int 0, .ref q_8, .ref q_10, .int 0, .int 0, .int 0, .ref q_12, .ref q_14, .null, .null, .null, .null, .int 0, .int 0, .int 0, .int 0, .null, .null, .int 0, .int 0, .int 0, .null, .null, .null, .int 0])), (q_1, .inl (cA, 6, .inl (fun _ => 0))), (q_2, .inl (cA, 6, .inl (fun _ => 0))), (q_4, .inl (cA, 30, .inl (fun _ => 0))), (q_6, .inl (cA, 160, .inl (fun _ => 0))), (q_8, .inl (cA, 1200, .inl (fun _ => 0))), (q_10, .inl (cA, 24, .inl (fun _ => 0))), (q_12, .inl (cA, 30, .inl (fun _ => 0))), (q_14, .inl (cA, 3, .inl (fun _ => 0)))] A s s.heap H _ := hW'
  clear hW'
  show W p l e _ s m ar below meth c _ _ _ _ Q (F0 m 69 ls _)
  refine lv_aload_n hx hb dX8_init_69 rfl (lv_at hl 0 rfl) ?_
  refine lv_iconst (v := 4) hx hb dX8_init_70 (by decide) ?_
  refine lw_newi (c2 := 9) (s2 := 1463) (N' := 4) F hW (by decide) rfl (by decide) rfl rfl ⟨Nat.le_of_ble_eq_true rfl, Nat.le_of_ble_eq_true rfl⟩ dX8_init_71 (fun q_16 cA_17 H hW' => ?_)
  clear hW
  have hW : LWd D [(cA, .int), (cA_17, .int)] [(h0, .inr (8, [.int 0, .ref q_1, .ref q_2, .ref q_4, .int 0, .ref q_6, .int 0, .ref q_8, .ref q_10, .int 0, .int 0, .int 0, .ref q_12, .ref q_14, .null, .null, .null, .null, .int 0, .int 0, .int 0, .int 0, .null, .null, .int 0, .int 0, .int 0, .null, .null, .null, .int 0])), (q_1, .inl (cA, 6, .inl (fun _ => 0))), (q_2, .inl (cA, 6, .inl (fun _ => 0))), (q_4, .inl (cA, 30, .inl (fun _ => 0))), (q_6, .inl (cA, 160, .inl (fun _ => 0))), (q_8, .inl (cA, 1200, .inl (fun _ => 0))), (q_10, .inl (cA, 24, .inl (fun _ => 0))), (q_12, .inl (cA, 30, .inl (fun _ => 0))), (q_14, .inl (cA, 3, .inl (fun _ => 0))), (q_16, .inl (cA_17, 4, .inl (fun _ => 0)))] A s s.heap H _ := hW'
  clear hW'
  obtain rfl : cA = cA_17 := lw_same (i := 0) (j := 1) hW rfl rfl
  have hW := lw_tys (t' := [(cA, .int)]) hW [0] rfl
  have hW2 : LWd D [(cA, .int)] [(h0, .inr (8, [.int 0, .ref q_1, .ref q_2, .ref q_4, .int 0, .ref q_6, .int 0, .ref q_8, .ref q_10, .int 0, .int 0, .int 0, .ref q_12, .ref q_14, .null, .null, .null, .null, .int 0, .int 0, .int 0, .int 0, .null, .null, .int 0, .int 0, .int 0, .null, .null, .null, .int 0])), (q_1, .inl (cA, 6, .inl (fun _ => 0))), (q_2, .inl (cA, 6, .inl (fun _ => 0))), (q_4, .inl (cA, 30, .inl (fun _ => 0))), (q_6, .inl (cA, 160, .inl (fun _ => 0))), (q_8, .inl (cA, 1200, .inl (fun _ => 0))), (q_10, .inl (cA, 24, .inl (fun _ => 0))), (q_12, .inl (cA, 30, .inl (fun _ => 0))), (q_14, .inl (cA, 3, .inl (fun _ => 0))), (q_16, .inl (cA, 4, .inl (fun _ => 0)))] A s s.heap H _ := hW
  clear hW
  have hW := hW2
  clear hW2
  show W p l e _ s m ar below meth c _ _ _ _ Q (F0 m 73 ls _)
  refine lv_dup hx hb dX8_init_73 rfl ?_
  refine lv_iconst (v := 0) hx hb dX8_init_74 (by decide) ?_
  refine lv_iconst (v := (-1)) hx hb dX8_init_75 (by decide) ?_
  refine lw_iast (t0 := 0) F hW 9 rfl rfl (vp_in_nI (n := 0) (by decide) (by decide)) dX8_init_76 (fun H locs hW' => ?_)
  clear hW
  have hW : LWd D [(cA, .int)] [(h0, .inr (8, [.int 0, .ref q_1, .ref q_2, .ref q_4, .int 0, .ref q_6, .int 0, .ref q_8, .ref q_10, .int 0, .int 0, .int 0, .ref q_12, .ref q_14, .null, .null, .null, .null, .int 0, .int 0, .int 0, .int 0, .null, .null, .int 0, .int 0, .int 0, .null, .null, .null, .int 0])), (q_1, .inl (cA, 6, .inl (fun _ => 0))), (q_2, .inl (cA, 6, .inl (fun _ => 0))), (q_4, .inl (cA, 30, .inl (fun _ => 0))), (q_6, .inl (cA, 160, .inl (fun _ => 0))), (q_8, .inl (cA, 1200, .inl (fun _ => 0))), (q_10, .inl (cA, 24, .inl (fun _ => 0))), (q_12, .inl (cA, 30, .inl (fun _ => 0))), (q_14, .inl (cA, 3, .inl (fun _ => 0))), (q_16, .inl (cA, 4, .inl (upd (fun _ => 0) 0 (-1))))] A s s.heap H _ := hW'
  clear hW'
  show W p l e _ s m ar below meth c _ _ _ _ Q (F0 m 77 ls _)
  refine lv_dup hx hb dX8_init_77 rfl ?_
  refine lv_iconst (v := 1) hx hb dX8_init_78 (by decide) ?_
  refine lv_iconst (v := (-1)) hx hb dX8_init_79 (by decide) ?_
  refine lw_iast (t0 := 0) F hW 9 rfl rfl (vp_in_nI (n := 1) (by decide) (by decide)) dX8_init_80 (fun H locs hW' => ?_)
  clear hW
  have hW : LWd D [(cA, .int)] [(h0, .inr (8, [.int 0, .ref q_1, .ref q_2, .ref q_4, .int 0, .ref q_6, .int 0, .ref q_8, .ref q_10, .int 0, .int 0, .int 0, .ref q_12, .ref q_14, .null, .null, .null, .null, .int 0, .int 0, .int 0, .int 0, .null, .null, .int 0, .int 0, .int 0, .null, .null, .null, .int 0])), (q_1, .inl (cA, 6, .inl (fun _ => 0))), (q_2, .inl (cA, 6, .inl (fun _ => 0))), (q_4, .inl (cA, 30, .inl (fun _ => 0))), (q_6, .inl (cA, 160, .inl (fun _ => 0))), (q_8, .inl (cA, 1200, .inl (fun _ => 0))), (q_10, .inl (cA, 24, .inl (fun _ => 0))), (q_12, .inl (cA, 30, .inl (fun _ => 0))), (q_14, .inl (cA, 3, .inl (fun _ => 0))), (q_16, .inl (cA, 4, .inl (upd (upd (fun _ => 0) 0 (-1)) 1 (-1))))] A s s.heap H _ := hW'
  clear hW'
  show W p l e _ s m ar below meth c _ _ _ _ Q (F0 m 81 ls _)
  refine lv_dup hx hb dX8_init_81 rfl ?_
  refine lv_iconst (v := 2) hx hb dX8_init_82 (by decide) ?_
  refine lv_iconst (v := (-1)) hx hb dX8_init_83 (by decide) ?_
  refine lw_iast (t0 := 0) F hW 9 rfl rfl (vp_in_nI (n := 2) (by decide) (by decide)) dX8_init_84 (fun H locs hW' => ?_)
  clear hW
  have hW : LWd D [(cA, .int)] [(h0, .inr (8, [.int 0, .ref q_1, .ref q_2, .ref q_4, .int 0, .ref q_6, .int 0, .ref q_8, .ref q_10, .int 0, .int 0, .int 0, .ref q_12, .ref q_14, .null, .null, .null, .null, .int 0, .int 0, .int 0, .int 0, .null, .null, .int 0, .int 0, .int 0, .null, .null, .null, .int 0])), (q_1, .inl (cA, 6, .inl (fun _ => 0))), (q_2, .inl (cA, 6, .inl (fun _ => 0))), (q_4, .inl (cA, 30, .inl (fun _ => 0))), (q_6, .inl (cA, 160, .inl (fun _ => 0))), (q_8, .inl (cA, 1200, .inl (fun _ => 0))), (q_10, .inl (cA, 24, .inl (fun _ => 0))), (q_12, .inl (cA, 30, .inl (fun _ => 0))), (q_14, .inl (cA, 3, .inl (fun _ => 0))), (q_16, .inl (cA, 4, .inl (upd (upd (upd (fun _ => 0) 0 (-1)) 1 (-1)) 2 (-1))))] A s s.heap H _ := hW'
  clear hW'
  show W p l e _ s m ar below meth c _ _ _ _ Q (F0 m 85 ls _)
  refine lv_dup hx hb dX8_init_85 rfl ?_
  refine lv_iconst (v := 3) hx hb dX8_init_86 (by decide) ?_
  refine lv_iconst (v := (-1)) hx hb dX8_init_87 (by decide) ?_
  refine lw_iast (t0 := 0) F hW 9 rfl rfl (vp_in_nI (n := 3) (by decide) (by decide)) dX8_init_88 (fun H locs hW' => ?_)
  clear hW
  have hW : LWd D [(cA, .int)] [(h0, .inr (8, [.int 0, .ref q_1, .ref q_2, .ref q_4, .int 0, .ref q_6, .int 0, .ref q_8, .ref q_10, .int 0, .int 0, .int 0, .ref q_12, .ref q_14, .null, .null, .null, .null, .int 0, .int 0, .int 0, .int 0, .null, .null, .int 0, .int 0, .int 0, .null, .null, .null, .int 0])), (q_1, .inl (cA, 6, .inl (fun _ => 0))), (q_2, .inl (cA, 6, .inl (fun _ => 0))), (q_4, .inl (cA, 30, .inl (fun _ => 0))), (q_6, .inl (cA, 160, .inl (fun _ => 0))), (q_8, .inl (cA, 1200, .inl (fun _ => 0))), (q_10, .inl (cA, 24, .inl (fun _ => 0))), (q_12, .inl (cA, 30, .inl (fun _ => 0))), (q_14, .inl (cA, 3, .inl (fun _ => 0))), (q_16, .inl (cA, 4, .inl (upd (upd (upd (upd (fun _ => 0) 0 (-1)) 1 (-1)) 2 (-1)) 3 (-1))))] A s s.heap H _ := hW'
  clear hW'
  obtain ⟨f_18, ef_18⟩ : ∃ z : Nat → Int32, z = upd (upd (upd (upd (fun _ => 0) 0 (-1)) 1 (-1)) 2 (-1)) 3 (-1) := ⟨_, rfl⟩
  rw [← ef_18] at hW
  have hW2 : LWd D [(cA, .int)] [(h0, .inr (8, [.int 0, .ref q_1, .ref q_2, .ref q_4, .int 0, .ref q_6, .int 0, .ref q_8, .ref q_10, .int 0, .int 0, .int 0, .ref q_12, .ref q_14, .null, .null, .null, .null, .int 0, .int 0, .int 0, .int 0, .null, .null, .int 0, .int 0, .int 0, .null, .null, .null, .int 0])), (q_1, .inl (cA, 6, .inl (fun _ => 0))), (q_2, .inl (cA, 6, .inl (fun _ => 0))), (q_4, .inl (cA, 30, .inl (fun _ => 0))), (q_6, .inl (cA, 160, .inl (fun _ => 0))), (q_8, .inl (cA, 1200, .inl (fun _ => 0))), (q_10, .inl (cA, 24, .inl (fun _ => 0))), (q_12, .inl (cA, 30, .inl (fun _ => 0))), (q_14, .inl (cA, 3, .inl (fun _ => 0))), (q_16, .inl (cA, 4, .inl (f_18)))] A s s.heap H _ := hW
  clear hW
  have hW := hW2
  clear hW2
  show W p l e _ s m ar below meth c _ _ _ _ Q (F0 m 89 ls _)
  have hso0 : ∀ j, j < 4 → f_18 j = -1 := by rw [ef_18]; decide +kernel
  refine lw_put (ci := 8) (fs := [.int 0, .ref q_1, .ref q_2, .ref q_4, .int 0, .ref q_6, .int 0, .ref q_8, .ref q_10, .int 0, .int 0, .int 0, .ref q_12, .ref q_14, .null, .null, .null, .null, .int 0, .int 0, .int 0, .int 0, .null, .null, .int 0, .int 0, .int 0, .null, .null, .null, .int 0]) F hW 0 rfl (C := RX8) (T := TX8) (n := 31) rfl in_RX8 tyX8 tyX8_ok nmX8 14 (by decide) fl_RX8_34 hnm (by decide +kernel) rfl rfl rfl (show 14 < 31 by decide) dX8_init_89 (fun H locs hW' => ?_)
  clear hW
  have hW : LWd D [(cA, .int)] [(h0, .inr (8, [.int 0, .ref q_1, .ref q_2, .ref q_4, .int 0, .ref q_6, .int 0, .ref q_8, .ref q_10, .int 0, .int 0, .int 0, .ref q_12, .ref q_14, .ref q_16, .null, .null, .null, .int 0, .int 0, .int 0, .int 0, .null, .null, .int 0, .int 0, .int 0, .null, .null, .null, .int 0])), (q_1, .inl (cA, 6, .inl (fun _ => 0))), (q_2, .inl (cA, 6, .inl (fun _ => 0))), (q_4, .inl (cA, 30, .inl (fun _ => 0))), (q_6, .inl (cA, 160, .inl (fun _ => 0))), (q_8, .inl (cA, 1200, .inl (fun _ => 0))), (q_10, .inl (cA, 24, .inl (fun _ => 0))), (q_12, .inl (cA, 30, .inl (fun _ => 0))), (q_14, .inl (cA, 3, .inl (fun _ => 0))), (q_16, .inl (cA, 4, .inl (f_18)))] A s s.heap H _ := hW'
  clear hW'
  show W p l e _ s m ar below meth c _ _ _ _ Q (F0 m 92 ls _)
  refine lv_aload_n hx hb dX8_init_92 rfl (lv_at hl 0 rfl) ?_
  refine lv_iconst (v := 4) hx hb dX8_init_93 (by decide) ?_
  refine lw_newi (c2 := 10) (s2 := 1467) (N' := 4) F hW (by decide) rfl (by decide) rfl rfl ⟨Nat.le_of_ble_eq_true rfl, Nat.le_of_ble_eq_true rfl⟩ dX8_init_94 (fun q_19 cA_20 H hW' => ?_)
  clear hW
  have hW : LWd D [(cA, .int), (cA_20, .int)] [(h0, .inr (8, [.int 0, .ref q_1, .ref q_2, .ref q_4, .int 0, .ref q_6, .int 0, .ref q_8, .ref q_10, .int 0, .int 0, .int 0, .ref q_12, .ref q_14, .ref q_16, .null, .null, .null, .int 0, .int 0, .int 0, .int 0, .null, .null, .int 0, .int 0, .int 0, .null, .null, .null, .int 0])), (q_1, .inl (cA, 6, .inl (fun _ => 0))), (q_2, .inl (cA, 6, .inl (fun _ => 0))), (q_4, .inl (cA, 30, .inl (fun _ => 0))), (q_6, .inl (cA, 160, .inl (fun _ => 0))), (q_8, .inl (cA, 1200, .inl (fun _ => 0))), (q_10, .inl (cA, 24, .inl (fun _ => 0))), (q_12, .inl (cA, 30, .inl (fun _ => 0))), (q_14, .inl (cA, 3, .inl (fun _ => 0))), (q_16, .inl (cA, 4, .inl (f_18))), (q_19, .inl (cA_20, 4, .inl (fun _ => 0)))] A s s.heap H _ := hW'
  clear hW'
  obtain rfl : cA = cA_20 := lw_same (i := 0) (j := 1) hW rfl rfl
  have hW := lw_tys (t' := [(cA, .int)]) hW [0] rfl
  have hW2 : LWd D [(cA, .int)] [(h0, .inr (8, [.int 0, .ref q_1, .ref q_2, .ref q_4, .int 0, .ref q_6, .int 0, .ref q_8, .ref q_10, .int 0, .int 0, .int 0, .ref q_12, .ref q_14, .ref q_16, .null, .null, .null, .int 0, .int 0, .int 0, .int 0, .null, .null, .int 0, .int 0, .int 0, .null, .null, .null, .int 0])), (q_1, .inl (cA, 6, .inl (fun _ => 0))), (q_2, .inl (cA, 6, .inl (fun _ => 0))), (q_4, .inl (cA, 30, .inl (fun _ => 0))), (q_6, .inl (cA, 160, .inl (fun _ => 0))), (q_8, .inl (cA, 1200, .inl (fun _ => 0))), (q_10, .inl (cA, 24, .inl (fun _ => 0))), (q_12, .inl (cA, 30, .inl (fun _ => 0))), (q_14, .inl (cA, 3, .inl (fun _ => 0))), (q_16, .inl (cA, 4, .inl (f_18))), (q_19, .inl (cA, 4, .inl (fun _ => 0)))] A s s.heap H _ := hW
  clear hW
  have hW := hW2
  clear hW2
  show W p l e _ s m ar below meth c _ _ _ _ Q (F0 m 96 ls _)
  refine lw_put (ci := 8) (fs := [.int 0, .ref q_1, .ref q_2, .ref q_4, .int 0, .ref q_6, .int 0, .ref q_8, .ref q_10, .int 0, .int 0, .int 0, .ref q_12, .ref q_14, .ref q_16, .null, .null, .null, .int 0, .int 0, .int 0, .int 0, .null, .null, .int 0, .int 0, .int 0, .null, .null, .null, .int 0]) F hW 0 rfl (C := RX8) (T := TX8) (n := 31) rfl in_RX8 tyX8 tyX8_ok nmX8 15 (by decide) fl_RX8_37 hnm (by decide +kernel) rfl rfl rfl (show 15 < 31 by decide) dX8_init_96 (fun H locs hW' => ?_)
  clear hW
  have hW : LWd D [(cA, .int)] [(h0, .inr (8, [.int 0, .ref q_1, .ref q_2, .ref q_4, .int 0, .ref q_6, .int 0, .ref q_8, .ref q_10, .int 0, .int 0, .int 0, .ref q_12, .ref q_14, .ref q_16, .ref q_19, .null, .null, .int 0, .int 0, .int 0, .int 0, .null, .null, .int 0, .int 0, .int 0, .null, .null, .null, .int 0])), (q_1, .inl (cA, 6, .inl (fun _ => 0))), (q_2, .inl (cA, 6, .inl (fun _ => 0))), (q_4, .inl (cA, 30, .inl (fun _ => 0))), (q_6, .inl (cA, 160, .inl (fun _ => 0))), (q_8, .inl (cA, 1200, .inl (fun _ => 0))), (q_10, .inl (cA, 24, .inl (fun _ => 0))), (q_12, .inl (cA, 30, .inl (fun _ => 0))), (q_14, .inl (cA, 3, .inl (fun _ => 0))), (q_16, .inl (cA, 4, .inl (f_18))), (q_19, .inl (cA, 4, .inl (fun _ => 0)))] A s s.heap H _ := hW'
  clear hW'
  show W p l e _ s m ar below meth c _ _ _ _ Q (F0 m 99 ls _)
  refine lv_aload_n hx hb dX8_init_99 rfl (lv_at hl 0 rfl) ?_
  refine lv_sipush (v := 160) hx hb dX8_init_100 (by decide) ?_
  refine lw_newi (c2 := 11) (s2 := 1627) (N' := 160) F hW (by decide) rfl (by decide) rfl rfl ⟨Nat.le_of_ble_eq_true rfl, Nat.le_of_ble_eq_true rfl⟩ dX8_init_103 (fun q_21 cA_22 H hW' => ?_)
  clear hW
  have hW : LWd D [(cA, .int), (cA_22, .int)] [(h0, .inr (8, [.int 0, .ref q_1, .ref q_2, .ref q_4, .int 0, .ref q_6, .int 0, .ref q_8, .ref q_10, .int 0, .int 0, .int 0, .ref q_12, .ref q_14, .ref q_16, .ref q_19, .null, .null, .int 0, .int 0, .int 0, .int 0, .null, .null, .int 0, .int 0, .int 0, .null, .null, .null, .int 0])), (q_1, .inl (cA, 6, .inl (fun _ => 0))), (q_2, .inl (cA, 6, .inl (fun _ => 0))), (q_4, .inl (cA, 30, .inl (fun _ => 0))), (q_6, .inl (cA, 160, .inl (fun _ => 0))), (q_8, .inl (cA, 1200, .inl (fun _ => 0))), (q_10, .inl (cA, 24, .inl (fun _ => 0))), (q_12, .inl (cA, 30, .inl (fun _ => 0))), (q_14, .inl (cA, 3, .inl (fun _ => 0))), (q_16, .inl (cA, 4, .inl (f_18))), (q_19, .inl (cA, 4, .inl (fun _ => 0))), (q_21, .inl (cA_22, 160, .inl (fun _ => 0)))] A s s.heap H _ := hW'
  clear hW'
  obtain rfl : cA = cA_22 := lw_same (i := 0) (j := 1) hW rfl rfl
  have hW := lw_tys (t' := [(cA, .int)]) hW [0] rfl
  have hW2 : LWd D [(cA, .int)] [(h0, .inr (8, [.int 0, .ref q_1, .ref q_2, .ref q_4, .int 0, .ref q_6, .int 0, .ref q_8, .ref q_10, .int 0, .int 0, .int 0, .ref q_12, .ref q_14, .ref q_16, .ref q_19, .null, .null, .int 0, .int 0, .int 0, .int 0, .null, .null, .int 0, .int 0, .int 0, .null, .null, .null, .int 0])), (q_1, .inl (cA, 6, .inl (fun _ => 0))), (q_2, .inl (cA, 6, .inl (fun _ => 0))), (q_4, .inl (cA, 30, .inl (fun _ => 0))), (q_6, .inl (cA, 160, .inl (fun _ => 0))), (q_8, .inl (cA, 1200, .inl (fun _ => 0))), (q_10, .inl (cA, 24, .inl (fun _ => 0))), (q_12, .inl (cA, 30, .inl (fun _ => 0))), (q_14, .inl (cA, 3, .inl (fun _ => 0))), (q_16, .inl (cA, 4, .inl (f_18))), (q_19, .inl (cA, 4, .inl (fun _ => 0))), (q_21, .inl (cA, 160, .inl (fun _ => 0)))] A s s.heap H _ := hW
  clear hW
  have hW := hW2
  clear hW2
  show W p l e _ s m ar below meth c _ _ _ _ Q (F0 m 105 ls _)
  refine lw_put (ci := 8) (fs := [.int 0, .ref q_1, .ref q_2, .ref q_4, .int 0, .ref q_6, .int 0, .ref q_8, .ref q_10, .int 0, .int 0, .int 0, .ref q_12, .ref q_14, .ref q_16, .ref q_19, .null, .null, .int 0, .int 0, .int 0, .int 0, .null, .null, .int 0, .int 0, .int 0, .null, .null, .null, .int 0]) F hW 0 rfl (C := RX8) (T := TX8) (n := 31) rfl in_RX8 tyX8 tyX8_ok nmX8 16 (by decide) fl_RX8_40 hnm (by decide +kernel) rfl rfl rfl (show 16 < 31 by decide) dX8_init_105 (fun H locs hW' => ?_)
  clear hW
  have hW : LWd D [(cA, .int)] [(h0, .inr (8, [.int 0, .ref q_1, .ref q_2, .ref q_4, .int 0, .ref q_6, .int 0, .ref q_8, .ref q_10, .int 0, .int 0, .int 0, .ref q_12, .ref q_14, .ref q_16, .ref q_19, .ref q_21, .null, .int 0, .int 0, .int 0, .int 0, .null, .null, .int 0, .int 0, .int 0, .null, .null, .null, .int 0])), (q_1, .inl (cA, 6, .inl (fun _ => 0))), (q_2, .inl (cA, 6, .inl (fun _ => 0))), (q_4, .inl (cA, 30, .inl (fun _ => 0))), (q_6, .inl (cA, 160, .inl (fun _ => 0))), (q_8, .inl (cA, 1200, .inl (fun _ => 0))), (q_10, .inl (cA, 24, .inl (fun _ => 0))), (q_12, .inl (cA, 30, .inl (fun _ => 0))), (q_14, .inl (cA, 3, .inl (fun _ => 0))), (q_16, .inl (cA, 4, .inl (f_18))), (q_19, .inl (cA, 4, .inl (fun _ => 0))), (q_21, .inl (cA, 160, .inl (fun _ => 0)))] A s s.heap H _ := hW'
  clear hW'
  show W p l e _ s m ar below meth c _ _ _ _ Q (F0 m 108 ls _)
  refine lv_aload_n hx hb dX8_init_108 rfl (lv_at hl 0 rfl) ?_
  refine lv_bipush (v := 29) hx hb dX8_init_109 (by decide) ?_
  refine lw_newi (c2 := 12) (s2 := 1656) (N' := 29) F hW (by decide) rfl (by decide) rfl rfl ⟨Nat.le_of_ble_eq_true rfl, Nat.le_of_ble_eq_true rfl⟩ dX8_init_111 (fun q_23 cA_24 H hW' => ?_)
  clear hW
  have hW : LWd D [(cA, .int), (cA_24, .int)] [(h0, .inr (8, [.int 0, .ref q_1, .ref q_2, .ref q_4, .int 0, .ref q_6, .int 0, .ref q_8, .ref q_10, .int 0, .int 0, .int 0, .ref q_12, .ref q_14, .ref q_16, .ref q_19, .ref q_21, .null, .int 0, .int 0, .int 0, .int 0, .null, .null, .int 0, .int 0, .int 0, .null, .null, .null, .int 0])), (q_1, .inl (cA, 6, .inl (fun _ => 0))), (q_2, .inl (cA, 6, .inl (fun _ => 0))), (q_4, .inl (cA, 30, .inl (fun _ => 0))), (q_6, .inl (cA, 160, .inl (fun _ => 0))), (q_8, .inl (cA, 1200, .inl (fun _ => 0))), (q_10, .inl (cA, 24, .inl (fun _ => 0))), (q_12, .inl (cA, 30, .inl (fun _ => 0))), (q_14, .inl (cA, 3, .inl (fun _ => 0))), (q_16, .inl (cA, 4, .inl (f_18))), (q_19, .inl (cA, 4, .inl (fun _ => 0))), (q_21, .inl (cA, 160, .inl (fun _ => 0))), (q_23, .inl (cA_24, 29, .inl (fun _ => 0)))] A s s.heap H _ := hW'
  clear hW'
  obtain rfl : cA = cA_24 := lw_same (i := 0) (j := 1) hW rfl rfl
  have hW := lw_tys (t' := [(cA, .int)]) hW [0] rfl
  have hW2 : LWd D [(cA, .int)] [(h0, .inr (8, [.int 0, .ref q_1, .ref q_2, .ref q_4, .int 0, .ref q_6, .int 0, .ref q_8, .ref q_10, .int 0, .int 0, .int 0, .ref q_12, .ref q_14, .ref q_16, .ref q_19, .ref q_21, .null, .int 0, .int 0, .int 0, .int 0, .null, .null, .int 0, .int 0, .int 0, .null, .null, .null, .int 0])), (q_1, .inl (cA, 6, .inl (fun _ => 0))), (q_2, .inl (cA, 6, .inl (fun _ => 0))), (q_4, .inl (cA, 30, .inl (fun _ => 0))), (q_6, .inl (cA, 160, .inl (fun _ => 0))), (q_8, .inl (cA, 1200, .inl (fun _ => 0))), (q_10, .inl (cA, 24, .inl (fun _ => 0))), (q_12, .inl (cA, 30, .inl (fun _ => 0))), (q_14, .inl (cA, 3, .inl (fun _ => 0))), (q_16, .inl (cA, 4, .inl (f_18))), (q_19, .inl (cA, 4, .inl (fun _ => 0))), (q_21, .inl (cA, 160, .inl (fun _ => 0))), (q_23, .inl (cA, 29, .inl (fun _ => 0)))] A s s.heap H _ := hW
  clear hW
  have hW := hW2
  clear hW2
  show W p l e _ s m ar below meth c _ _ _ _ Q (F0 m 113 ls _)
  refine lv_dup hx hb dX8_init_113 rfl ?_
  refine lv_iconst (v := 0) hx hb dX8_init_114 (by decide) ?_
  refine lv_bipush (v := 100) hx hb dX8_init_115 (by decide) ?_
  refine lw_iast (t0 := 0) F hW 12 rfl rfl (vp_in_nI (n := 0) (by decide) (by decide)) dX8_init_117 (fun H locs hW' => ?_)
  clear hW
  have hW : LWd D [(cA, .int)] [(h0, .inr (8, [.int 0, .ref q_1, .ref q_2, .ref q_4, .int 0, .ref q_6, .int 0, .ref q_8, .ref q_10, .int 0, .int 0, .int 0, .ref q_12, .ref q_14, .ref q_16, .ref q_19, .ref q_21, .null, .int 0, .int 0, .int 0, .int 0, .null, .null, .int 0, .int 0, .int 0, .null, .null, .null, .int 0])), (q_1, .inl (cA, 6, .inl (fun _ => 0))), (q_2, .inl (cA, 6, .inl (fun _ => 0))), (q_4, .inl (cA, 30, .inl (fun _ => 0))), (q_6, .inl (cA, 160, .inl (fun _ => 0))), (q_8, .inl (cA, 1200, .inl (fun _ => 0))), (q_10, .inl (cA, 24, .inl (fun _ => 0))), (q_12, .inl (cA, 30, .inl (fun _ => 0))), (q_14, .inl (cA, 3, .inl (fun _ => 0))), (q_16, .inl (cA, 4, .inl (f_18))), (q_19, .inl (cA, 4, .inl (fun _ => 0))), (q_21, .inl (cA, 160, .inl (fun _ => 0))), (q_23, .inl (cA, 29, .inl (upd (fun _ => 0) 0 100)))] A s s.heap H _ := hW'
  clear hW'
  show W p l e _ s m ar below meth c _ _ _ _ Q (F0 m 118 ls _)
  refine lv_dup hx hb dX8_init_118 rfl ?_
  refine lv_iconst (v := 1) hx hb dX8_init_119 (by decide) ?_
  refine lv_bipush (v := 97) hx hb dX8_init_120 (by decide) ?_
  refine lw_iast (t0 := 0) F hW 12 rfl rfl (vp_in_nI (n := 1) (by decide) (by decide)) dX8_init_122 (fun H locs hW' => ?_)
  clear hW
  have hW : LWd D [(cA, .int)] [(h0, .inr (8, [.int 0, .ref q_1, .ref q_2, .ref q_4, .int 0, .ref q_6, .int 0, .ref q_8, .ref q_10, .int 0, .int 0, .int 0, .ref q_12, .ref q_14, .ref q_16, .ref q_19, .ref q_21, .null, .int 0, .int 0, .int 0, .int 0, .null, .null, .int 0, .int 0, .int 0, .null, .null, .null, .int 0])), (q_1, .inl (cA, 6, .inl (fun _ => 0))), (q_2, .inl (cA, 6, .inl (fun _ => 0))), (q_4, .inl (cA, 30, .inl (fun _ => 0))), (q_6, .inl (cA, 160, .inl (fun _ => 0))), (q_8, .inl (cA, 1200, .inl (fun _ => 0))), (q_10, .inl (cA, 24, .inl (fun _ => 0))), (q_12, .inl (cA, 30, .inl (fun _ => 0))), (q_14, .inl (cA, 3, .inl (fun _ => 0))), (q_16, .inl (cA, 4, .inl (f_18))), (q_19, .inl (cA, 4, .inl (fun _ => 0))), (q_21, .inl (cA, 160, .inl (fun _ => 0))), (q_23, .inl (cA, 29, .inl (upd (upd (fun _ => 0) 0 100) 1 97)))] A s s.heap H _ := hW'
  clear hW'
  show W p l e _ s m ar below meth c _ _ _ _ Q (F0 m 123 ls _)
  refine lv_dup hx hb dX8_init_123 rfl ?_
  refine lv_iconst (v := 2) hx hb dX8_init_124 (by decide) ?_
  refine lv_bipush (v := 114) hx hb dX8_init_125 (by decide) ?_
  refine lw_iast (t0 := 0) F hW 12 rfl rfl (vp_in_nI (n := 2) (by decide) (by decide)) dX8_init_127 (fun H locs hW' => ?_)
  clear hW
  have hW : LWd D [(cA, .int)] [(h0, .inr (8, [.int 0, .ref q_1, .ref q_2, .ref q_4, .int 0, .ref q_6, .int 0, .ref q_8, .ref q_10, .int 0, .int 0, .int 0, .ref q_12, .ref q_14, .ref q_16, .ref q_19, .ref q_21, .null, .int 0, .int 0, .int 0, .int 0, .null, .null, .int 0, .int 0, .int 0, .null, .null, .null, .int 0])), (q_1, .inl (cA, 6, .inl (fun _ => 0))), (q_2, .inl (cA, 6, .inl (fun _ => 0))), (q_4, .inl (cA, 30, .inl (fun _ => 0))), (q_6, .inl (cA, 160, .inl (fun _ => 0))), (q_8, .inl (cA, 1200, .inl (fun _ => 0))), (q_10, .inl (cA, 24, .inl (fun _ => 0))), (q_12, .inl (cA, 30, .inl (fun _ => 0))), (q_14, .inl (cA, 3, .inl (fun _ => 0))), (q_16, .inl (cA, 4, .inl (f_18))), (q_19, .inl (cA, 4, .inl (fun _ => 0))), (q_21, .inl (cA, 160, .inl (fun _ => 0))), (q_23, .inl (cA, 29, .inl (upd (upd (upd (fun _ => 0) 0 100) 1 97) 2 114)))] A s s.heap H _ := hW'
  clear hW'
  show W p l e _ s m ar below meth c _ _ _ _ Q (F0 m 128 ls _)
  refine lv_dup hx hb dX8_init_128 rfl ?_
  refine lv_iconst (v := 3) hx hb dX8_init_129 (by decide) ?_
  refine lv_bipush (v := 101) hx hb dX8_init_130 (by decide) ?_
  refine lw_iast (t0 := 0) F hW 12 rfl rfl (vp_in_nI (n := 3) (by decide) (by decide)) dX8_init_132 (fun H locs hW' => ?_)
  clear hW
  have hW : LWd D [(cA, .int)] [(h0, .inr (8, [.int 0, .ref q_1, .ref q_2, .ref q_4, .int 0, .ref q_6, .int 0, .ref q_8, .ref q_10, .int 0, .int 0, .int 0, .ref q_12, .ref q_14, .ref q_16, .ref q_19, .ref q_21, .null, .int 0, .int 0, .int 0, .int 0, .null, .null, .int 0, .int 0, .int 0, .null, .null, .null, .int 0])), (q_1, .inl (cA, 6, .inl (fun _ => 0))), (q_2, .inl (cA, 6, .inl (fun _ => 0))), (q_4, .inl (cA, 30, .inl (fun _ => 0))), (q_6, .inl (cA, 160, .inl (fun _ => 0))), (q_8, .inl (cA, 1200, .inl (fun _ => 0))), (q_10, .inl (cA, 24, .inl (fun _ => 0))), (q_12, .inl (cA, 30, .inl (fun _ => 0))), (q_14, .inl (cA, 3, .inl (fun _ => 0))), (q_16, .inl (cA, 4, .inl (f_18))), (q_19, .inl (cA, 4, .inl (fun _ => 0))), (q_21, .inl (cA, 160, .inl (fun _ => 0))), (q_23, .inl (cA, 29, .inl (upd (upd (upd (upd (fun _ => 0) 0 100) 1 97) 2 114) 3 101)))] A s s.heap H _ := hW'
  clear hW'
  show W p l e _ s m ar below meth c _ _ _ _ Q (F0 m 133 ls _)
  refine lv_dup hx hb dX8_init_133 rfl ?_
  refine lv_iconst (v := 4) hx hb dX8_init_134 (by decide) ?_
  refine lv_bipush (v := 115) hx hb dX8_init_135 (by decide) ?_
  refine lw_iast (t0 := 0) F hW 12 rfl rfl (vp_in_nI (n := 4) (by decide) (by decide)) dX8_init_137 (fun H locs hW' => ?_)
  clear hW
  have hW : LWd D [(cA, .int)] [(h0, .inr (8, [.int 0, .ref q_1, .ref q_2, .ref q_4, .int 0, .ref q_6, .int 0, .ref q_8, .ref q_10, .int 0, .int 0, .int 0, .ref q_12, .ref q_14, .ref q_16, .ref q_19, .ref q_21, .null, .int 0, .int 0, .int 0, .int 0, .null, .null, .int 0, .int 0, .int 0, .null, .null, .null, .int 0])), (q_1, .inl (cA, 6, .inl (fun _ => 0))), (q_2, .inl (cA, 6, .inl (fun _ => 0))), (q_4, .inl (cA, 30, .inl (fun _ => 0))), (q_6, .inl (cA, 160, .inl (fun _ => 0))), (q_8, .inl (cA, 1200, .inl (fun _ => 0))), (q_10, .inl (cA, 24, .inl (fun _ => 0))), (q_12, .inl (cA, 30, .inl (fun _ => 0))), (q_14, .inl (cA, 3, .inl (fun _ => 0))), (q_16, .inl (cA, 4, .inl (f_18))), (q_19, .inl (cA, 4, .inl (fun _ => 0))), (q_21, .inl (cA, 160, .inl (fun _ => 0))), (q_23, .inl (cA, 29, .inl (upd (upd (upd (upd (upd (fun _ => 0) 0 100) 1 97) 2 114) 3 101) 4 115)))] A s s.heap H _ := hW'
  clear hW'
  obtain ⟨f_25, ef_25⟩ : ∃ z : Nat → Int32, z = upd (upd (upd (upd (upd (fun _ => 0) 0 100) 1 97) 2 114) 3 101) 4 115 := ⟨_, rfl⟩
  rw [← ef_25] at hW
  have hW2 : LWd D [(cA, .int)] [(h0, .inr (8, [.int 0, .ref q_1, .ref q_2, .ref q_4, .int 0, .ref q_6, .int 0, .ref q_8, .ref q_10, .int 0, .int 0, .int 0, .ref q_12, .ref q_14, .ref q_16, .ref q_19, .ref q_21, .null, .int 0, .int 0, .int 0, .int 0, .null, .null, .int 0, .int 0, .int 0, .null, .null, .null, .int 0])), (q_1, .inl (cA, 6, .inl (fun _ => 0))), (q_2, .inl (cA, 6, .inl (fun _ => 0))), (q_4, .inl (cA, 30, .inl (fun _ => 0))), (q_6, .inl (cA, 160, .inl (fun _ => 0))), (q_8, .inl (cA, 1200, .inl (fun _ => 0))), (q_10, .inl (cA, 24, .inl (fun _ => 0))), (q_12, .inl (cA, 30, .inl (fun _ => 0))), (q_14, .inl (cA, 3, .inl (fun _ => 0))), (q_16, .inl (cA, 4, .inl (f_18))), (q_19, .inl (cA, 4, .inl (fun _ => 0))), (q_21, .inl (cA, 160, .inl (fun _ => 0))), (q_23, .inl (cA, 29, .inl (f_25)))] A s s.heap H _ := hW
  clear hW
  have hW := hW2
  clear hW2
  show W p l e _ s m ar below meth c _ _ _ _ Q (F0 m 138 ls _)
  refine lv_dup hx hb dX8_init_138 rfl ?_
  refine lv_iconst (v := 5) hx hb dX8_init_139 (by decide) ?_
  refine lv_bipush (v := 32) hx hb dX8_init_140 (by decide) ?_
  refine lw_iast (t0 := 0) F hW 12 rfl rfl (vp_in_nI (n := 5) (by decide) (by decide)) dX8_init_142 (fun H locs hW' => ?_)
  clear hW
  have hW : LWd D [(cA, .int)] [(h0, .inr (8, [.int 0, .ref q_1, .ref q_2, .ref q_4, .int 0, .ref q_6, .int 0, .ref q_8, .ref q_10, .int 0, .int 0, .int 0, .ref q_12, .ref q_14, .ref q_16, .ref q_19, .ref q_21, .null, .int 0, .int 0, .int 0, .int 0, .null, .null, .int 0, .int 0, .int 0, .null, .null, .null, .int 0])), (q_1, .inl (cA, 6, .inl (fun _ => 0))), (q_2, .inl (cA, 6, .inl (fun _ => 0))), (q_4, .inl (cA, 30, .inl (fun _ => 0))), (q_6, .inl (cA, 160, .inl (fun _ => 0))), (q_8, .inl (cA, 1200, .inl (fun _ => 0))), (q_10, .inl (cA, 24, .inl (fun _ => 0))), (q_12, .inl (cA, 30, .inl (fun _ => 0))), (q_14, .inl (cA, 3, .inl (fun _ => 0))), (q_16, .inl (cA, 4, .inl (f_18))), (q_19, .inl (cA, 4, .inl (fun _ => 0))), (q_21, .inl (cA, 160, .inl (fun _ => 0))), (q_23, .inl (cA, 29, .inl (upd f_25 5 32)))] A s s.heap H _ := hW'
  clear hW'
  show W p l e _ s m ar below meth c _ _ _ _ Q (F0 m 143 ls _)
  refine lv_dup hx hb dX8_init_143 rfl ?_
  refine lv_bipush (v := 6) hx hb dX8_init_144 (by decide) ?_
  refine lv_bipush (v := 57) hx hb dX8_init_146 (by decide) ?_
  refine lw_iast (t0 := 0) F hW 12 rfl rfl (vp_in_nI (n := 6) (by decide) (by decide)) dX8_init_148 (fun H locs hW' => ?_)
  clear hW
  have hW : LWd D [(cA, .int)] [(h0, .inr (8, [.int 0, .ref q_1, .ref q_2, .ref q_4, .int 0, .ref q_6, .int 0, .ref q_8, .ref q_10, .int 0, .int 0, .int 0, .ref q_12, .ref q_14, .ref q_16, .ref q_19, .ref q_21, .null, .int 0, .int 0, .int 0, .int 0, .null, .null, .int 0, .int 0, .int 0, .null, .null, .null, .int 0])), (q_1, .inl (cA, 6, .inl (fun _ => 0))), (q_2, .inl (cA, 6, .inl (fun _ => 0))), (q_4, .inl (cA, 30, .inl (fun _ => 0))), (q_6, .inl (cA, 160, .inl (fun _ => 0))), (q_8, .inl (cA, 1200, .inl (fun _ => 0))), (q_10, .inl (cA, 24, .inl (fun _ => 0))), (q_12, .inl (cA, 30, .inl (fun _ => 0))), (q_14, .inl (cA, 3, .inl (fun _ => 0))), (q_16, .inl (cA, 4, .inl (f_18))), (q_19, .inl (cA, 4, .inl (fun _ => 0))), (q_21, .inl (cA, 160, .inl (fun _ => 0))), (q_23, .inl (cA, 29, .inl (upd (upd f_25 5 32) 6 57)))] A s s.heap H _ := hW'
  clear hW'
  show W p l e _ s m ar below meth c _ _ _ _ Q (F0 m 149 ls _)
  refine lv_dup hx hb dX8_init_149 rfl ?_
  refine lv_bipush (v := 7) hx hb dX8_init_150 (by decide) ?_
  refine lv_bipush (v := 57) hx hb dX8_init_152 (by decide) ?_
  refine lw_iast (t0 := 0) F hW 12 rfl rfl (vp_in_nI (n := 7) (by decide) (by decide)) dX8_init_154 (fun H locs hW' => ?_)
  clear hW
  have hW : LWd D [(cA, .int)] [(h0, .inr (8, [.int 0, .ref q_1, .ref q_2, .ref q_4, .int 0, .ref q_6, .int 0, .ref q_8, .ref q_10, .int 0, .int 0, .int 0, .ref q_12, .ref q_14, .ref q_16, .ref q_19, .ref q_21, .null, .int 0, .int 0, .int 0, .int 0, .null, .null, .int 0, .int 0, .int 0, .null, .null, .null, .int 0])), (q_1, .inl (cA, 6, .inl (fun _ => 0))), (q_2, .inl (cA, 6, .inl (fun _ => 0))), (q_4, .inl (cA, 30, .inl (fun _ => 0))), (q_6, .inl (cA, 160, .inl (fun _ => 0))), (q_8, .inl (cA, 1200, .inl (fun _ => 0))), (q_10, .inl (cA, 24, .inl (fun _ => 0))), (q_12, .inl (cA, 30, .inl (fun _ => 0))), (q_14, .inl (cA, 3, .inl (fun _ => 0))), (q_16, .inl (cA, 4, .inl (f_18))), (q_19, .inl (cA, 4, .inl (fun _ => 0))), (q_21, .inl (cA, 160, .inl (fun _ => 0))), (q_23, .inl (cA, 29, .inl (upd (upd (upd f_25 5 32) 6 57) 7 57)))] A s s.heap H _ := hW'
  clear hW'
  show W p l e _ s m ar below meth c _ _ _ _ Q (F0 m 155 ls _)
  refine lv_dup hx hb dX8_init_155 rfl ?_
  refine lv_bipush (v := 8) hx hb dX8_init_156 (by decide) ?_
  refine lv_bipush (v := 32) hx hb dX8_init_158 (by decide) ?_
  refine lw_iast (t0 := 0) F hW 12 rfl rfl (vp_in_nI (n := 8) (by decide) (by decide)) dX8_init_160 (fun H locs hW' => ?_)
  clear hW
  have hW : LWd D [(cA, .int)] [(h0, .inr (8, [.int 0, .ref q_1, .ref q_2, .ref q_4, .int 0, .ref q_6, .int 0, .ref q_8, .ref q_10, .int 0, .int 0, .int 0, .ref q_12, .ref q_14, .ref q_16, .ref q_19, .ref q_21, .null, .int 0, .int 0, .int 0, .int 0, .null, .null, .int 0, .int 0, .int 0, .null, .null, .null, .int 0])), (q_1, .inl (cA, 6, .inl (fun _ => 0))), (q_2, .inl (cA, 6, .inl (fun _ => 0))), (q_4, .inl (cA, 30, .inl (fun _ => 0))), (q_6, .inl (cA, 160, .inl (fun _ => 0))), (q_8, .inl (cA, 1200, .inl (fun _ => 0))), (q_10, .inl (cA, 24, .inl (fun _ => 0))), (q_12, .inl (cA, 30, .inl (fun _ => 0))), (q_14, .inl (cA, 3, .inl (fun _ => 0))), (q_16, .inl (cA, 4, .inl (f_18))), (q_19, .inl (cA, 4, .inl (fun _ => 0))), (q_21, .inl (cA, 160, .inl (fun _ => 0))), (q_23, .inl (cA, 29, .inl (upd (upd (upd (upd f_25 5 32) 6 57) 7 57) 8 32)))] A s s.heap H _ := hW'
  clear hW'
  show W p l e _ s m ar below meth c _ _ _ _ Q (F0 m 161 ls _)
  refine lv_dup hx hb dX8_init_161 rfl ?_
  refine lv_bipush (v := 9) hx hb dX8_init_162 (by decide) ?_
  refine lv_bipush (v := 59) hx hb dX8_init_164 (by decide) ?_
  refine lw_iast (t0 := 0) F hW 12 rfl rfl (vp_in_nI (n := 9) (by decide) (by decide)) dX8_init_166 (fun H locs hW' => ?_)
  clear hW
  have hW : LWd D [(cA, .int)] [(h0, .inr (8, [.int 0, .ref q_1, .ref q_2, .ref q_4, .int 0, .ref q_6, .int 0, .ref q_8, .ref q_10, .int 0, .int 0, .int 0, .ref q_12, .ref q_14, .ref q_16, .ref q_19, .ref q_21, .null, .int 0, .int 0, .int 0, .int 0, .null, .null, .int 0, .int 0, .int 0, .null, .null, .null, .int 0])), (q_1, .inl (cA, 6, .inl (fun _ => 0))), (q_2, .inl (cA, 6, .inl (fun _ => 0))), (q_4, .inl (cA, 30, .inl (fun _ => 0))), (q_6, .inl (cA, 160, .inl (fun _ => 0))), (q_8, .inl (cA, 1200, .inl (fun _ => 0))), (q_10, .inl (cA, 24, .inl (fun _ => 0))), (q_12, .inl (cA, 30, .inl (fun _ => 0))), (q_14, .inl (cA, 3, .inl (fun _ => 0))), (q_16, .inl (cA, 4, .inl (f_18))), (q_19, .inl (cA, 4, .inl (fun _ => 0))), (q_21, .inl (cA, 160, .inl (fun _ => 0))), (q_23, .inl (cA, 29, .inl (upd (upd (upd (upd (upd f_25 5 32) 6 57) 7 57) 8 32) 9 59)))] A s s.heap H _ := hW'
  clear hW'
  show W p l e _ s m ar below meth c _ _ _ _ Q (F0 m 167 ls _)
  refine lv_dup hx hb dX8_init_167 rfl ?_
  refine lv_bipush (v := 10) hx hb dX8_init_168 (by decide) ?_
  refine lv_bipush (v := 32) hx hb dX8_init_170 (by decide) ?_
  refine lw_iast (t0 := 0) F hW 12 rfl rfl (vp_in_nI (n := 10) (by decide) (by decide)) dX8_init_172 (fun H locs hW' => ?_)
  clear hW
  have hW : LWd D [(cA, .int)] [(h0, .inr (8, [.int 0, .ref q_1, .ref q_2, .ref q_4, .int 0, .ref q_6, .int 0, .ref q_8, .ref q_10, .int 0, .int 0, .int 0, .ref q_12, .ref q_14, .ref q_16, .ref q_19, .ref q_21, .null, .int 0, .int 0, .int 0, .int 0, .null, .null, .int 0, .int 0, .int 0, .null, .null, .null, .int 0])), (q_1, .inl (cA, 6, .inl (fun _ => 0))), (q_2, .inl (cA, 6, .inl (fun _ => 0))), (q_4, .inl (cA, 30, .inl (fun _ => 0))), (q_6, .inl (cA, 160, .inl (fun _ => 0))), (q_8, .inl (cA, 1200, .inl (fun _ => 0))), (q_10, .inl (cA, 24, .inl (fun _ => 0))), (q_12, .inl (cA, 30, .inl (fun _ => 0))), (q_14, .inl (cA, 3, .inl (fun _ => 0))), (q_16, .inl (cA, 4, .inl (f_18))), (q_19, .inl (cA, 4, .inl (fun _ => 0))), (q_21, .inl (cA, 160, .inl (fun _ => 0))), (q_23, .inl (cA, 29, .inl (upd (upd (upd (upd (upd (upd f_25 5 32) 6 57) 7 57) 8 32) 9 59) 10 32)))] A s s.heap H _ := hW'
  clear hW'
  obtain ⟨f_26, ef_26⟩ : ∃ z : Nat → Int32, z = upd (upd (upd (upd (upd (upd f_25 5 32) 6 57) 7 57) 8 32) 9 59) 10 32 := ⟨_, rfl⟩
  rw [← ef_26] at hW
  have hW2 : LWd D [(cA, .int)] [(h0, .inr (8, [.int 0, .ref q_1, .ref q_2, .ref q_4, .int 0, .ref q_6, .int 0, .ref q_8, .ref q_10, .int 0, .int 0, .int 0, .ref q_12, .ref q_14, .ref q_16, .ref q_19, .ref q_21, .null, .int 0, .int 0, .int 0, .int 0, .null, .null, .int 0, .int 0, .int 0, .null, .null, .null, .int 0])), (q_1, .inl (cA, 6, .inl (fun _ => 0))), (q_2, .inl (cA, 6, .inl (fun _ => 0))), (q_4, .inl (cA, 30, .inl (fun _ => 0))), (q_6, .inl (cA, 160, .inl (fun _ => 0))), (q_8, .inl (cA, 1200, .inl (fun _ => 0))), (q_10, .inl (cA, 24, .inl (fun _ => 0))), (q_12, .inl (cA, 30, .inl (fun _ => 0))), (q_14, .inl (cA, 3, .inl (fun _ => 0))), (q_16, .inl (cA, 4, .inl (f_18))), (q_19, .inl (cA, 4, .inl (fun _ => 0))), (q_21, .inl (cA, 160, .inl (fun _ => 0))), (q_23, .inl (cA, 29, .inl (f_26)))] A s s.heap H _ := hW
  clear hW
  have hW := hW2
  clear hW2
  show W p l e _ s m ar below meth c _ _ _ _ Q (F0 m 173 ls _)
  refine lv_dup hx hb dX8_init_173 rfl ?_
  refine lv_bipush (v := 11) hx hb dX8_init_174 (by decide) ?_
  refine lv_bipush (v := 101) hx hb dX8_init_176 (by decide) ?_
  refine lw_iast (t0 := 0) F hW 12 rfl rfl (vp_in_nI (n := 11) (by decide) (by decide)) dX8_init_178 (fun H locs hW' => ?_)
  clear hW
  have hW : LWd D [(cA, .int)] [(h0, .inr (8, [.int 0, .ref q_1, .ref q_2, .ref q_4, .int 0, .ref q_6, .int 0, .ref q_8, .ref q_10, .int 0, .int 0, .int 0, .ref q_12, .ref q_14, .ref q_16, .ref q_19, .ref q_21, .null, .int 0, .int 0, .int 0, .int 0, .null, .null, .int 0, .int 0, .int 0, .null, .null, .null, .int 0])), (q_1, .inl (cA, 6, .inl (fun _ => 0))), (q_2, .inl (cA, 6, .inl (fun _ => 0))), (q_4, .inl (cA, 30, .inl (fun _ => 0))), (q_6, .inl (cA, 160, .inl (fun _ => 0))), (q_8, .inl (cA, 1200, .inl (fun _ => 0))), (q_10, .inl (cA, 24, .inl (fun _ => 0))), (q_12, .inl (cA, 30, .inl (fun _ => 0))), (q_14, .inl (cA, 3, .inl (fun _ => 0))), (q_16, .inl (cA, 4, .inl (f_18))), (q_19, .inl (cA, 4, .inl (fun _ => 0))), (q_21, .inl (cA, 160, .inl (fun _ => 0))), (q_23, .inl (cA, 29, .inl (upd f_26 11 101)))] A s s.heap H _ := hW'
  clear hW'
  show W p l e _ s m ar below meth c _ _ _ _ Q (F0 m 179 ls _)
  refine lv_dup hx hb dX8_init_179 rfl ?_
  refine lv_bipush (v := 12) hx hb dX8_init_180 (by decide) ?_
  refine lv_bipush (v := 97) hx hb dX8_init_182 (by decide) ?_
  refine lw_iast (t0 := 0) F hW 12 rfl rfl (vp_in_nI (n := 12) (by decide) (by decide)) dX8_init_184 (fun H locs hW' => ?_)
  clear hW
  have hW : LWd D [(cA, .int)] [(h0, .inr (8, [.int 0, .ref q_1, .ref q_2, .ref q_4, .int 0, .ref q_6, .int 0, .ref q_8, .ref q_10, .int 0, .int 0, .int 0, .ref q_12, .ref q_14, .ref q_16, .ref q_19, .ref q_21, .null, .int 0, .int 0, .int 0, .int 0, .null, .null, .int 0, .int 0, .int 0, .null, .null, .null, .int 0])), (q_1, .inl (cA, 6, .inl (fun _ => 0))), (q_2, .inl (cA, 6, .inl (fun _ => 0))), (q_4, .inl (cA, 30, .inl (fun _ => 0))), (q_6, .inl (cA, 160, .inl (fun _ => 0))), (q_8, .inl (cA, 1200, .inl (fun _ => 0))), (q_10, .inl (cA, 24, .inl (fun _ => 0))), (q_12, .inl (cA, 30, .inl (fun _ => 0))), (q_14, .inl (cA, 3, .inl (fun _ => 0))), (q_16, .inl (cA, 4, .inl (f_18))), (q_19, .inl (cA, 4, .inl (fun _ => 0))), (q_21, .inl (cA, 160, .inl (fun _ => 0))), (q_23, .inl (cA, 29, .inl (upd (upd f_26 11 101) 12 97)))] A s s.heap H _ := hW'
  clear hW'
  show W p l e _ s m ar below meth c _ _ _ _ Q (F0 m 185 ls _)
  refine lv_dup hx hb dX8_init_185 rfl ?_
  refine lv_bipush (v := 13) hx hb dX8_init_186 (by decide) ?_
  refine lv_bipush (v := 116) hx hb dX8_init_188 (by decide) ?_
  refine lw_iast (t0 := 0) F hW 12 rfl rfl (vp_in_nI (n := 13) (by decide) (by decide)) dX8_init_190 (fun H locs hW' => ?_)
  clear hW
  have hW : LWd D [(cA, .int)] [(h0, .inr (8, [.int 0, .ref q_1, .ref q_2, .ref q_4, .int 0, .ref q_6, .int 0, .ref q_8, .ref q_10, .int 0, .int 0, .int 0, .ref q_12, .ref q_14, .ref q_16, .ref q_19, .ref q_21, .null, .int 0, .int 0, .int 0, .int 0, .null, .null, .int 0, .int 0, .int 0, .null, .null, .null, .int 0])), (q_1, .inl (cA, 6, .inl (fun _ => 0))), (q_2, .inl (cA, 6, .inl (fun _ => 0))), (q_4, .inl (cA, 30, .inl (fun _ => 0))), (q_6, .inl (cA, 160, .inl (fun _ => 0))), (q_8, .inl (cA, 1200, .inl (fun _ => 0))), (q_10, .inl (cA, 24, .inl (fun _ => 0))), (q_12, .inl (cA, 30, .inl (fun _ => 0))), (q_14, .inl (cA, 3, .inl (fun _ => 0))), (q_16, .inl (cA, 4, .inl (f_18))), (q_19, .inl (cA, 4, .inl (fun _ => 0))), (q_21, .inl (cA, 160, .inl (fun _ => 0))), (q_23, .inl (cA, 29, .inl (upd (upd (upd f_26 11 101) 12 97) 13 116)))] A s s.heap H _ := hW'
  clear hW'
  show W p l e _ s m ar below meth c _ _ _ _ Q (F0 m 191 ls _)
  refine lv_dup hx hb dX8_init_191 rfl ?_
  refine lv_bipush (v := 14) hx hb dX8_init_192 (by decide) ?_
  refine lv_bipush (v := 115) hx hb dX8_init_194 (by decide) ?_
  refine lw_iast (t0 := 0) F hW 12 rfl rfl (vp_in_nI (n := 14) (by decide) (by decide)) dX8_init_196 (fun H locs hW' => ?_)
  clear hW
  have hW : LWd D [(cA, .int)] [(h0, .inr (8, [.int 0, .ref q_1, .ref q_2, .ref q_4, .int 0, .ref q_6, .int 0, .ref q_8, .ref q_10, .int 0, .int 0, .int 0, .ref q_12, .ref q_14, .ref q_16, .ref q_19, .ref q_21, .null, .int 0, .int 0, .int 0, .int 0, .null, .null, .int 0, .int 0, .int 0, .null, .null, .null, .int 0])), (q_1, .inl (cA, 6, .inl (fun _ => 0))), (q_2, .inl (cA, 6, .inl (fun _ => 0))), (q_4, .inl (cA, 30, .inl (fun _ => 0))), (q_6, .inl (cA, 160, .inl (fun _ => 0))), (q_8, .inl (cA, 1200, .inl (fun _ => 0))), (q_10, .inl (cA, 24, .inl (fun _ => 0))), (q_12, .inl (cA, 30, .inl (fun _ => 0))), (q_14, .inl (cA, 3, .inl (fun _ => 0))), (q_16, .inl (cA, 4, .inl (f_18))), (q_19, .inl (cA, 4, .inl (fun _ => 0))), (q_21, .inl (cA, 160, .inl (fun _ => 0))), (q_23, .inl (cA, 29, .inl (upd (upd (upd (upd f_26 11 101) 12 97) 13 116) 14 115)))] A s s.heap H _ := hW'
  clear hW'
  show W p l e _ s m ar below meth c _ _ _ _ Q (F0 m 197 ls _)
  refine lv_dup hx hb dX8_init_197 rfl ?_
  refine lv_bipush (v := 15) hx hb dX8_init_198 (by decide) ?_
  refine lv_bipush (v := 32) hx hb dX8_init_200 (by decide) ?_
  refine lw_iast (t0 := 0) F hW 12 rfl rfl (vp_in_nI (n := 15) (by decide) (by decide)) dX8_init_202 (fun H locs hW' => ?_)
  clear hW
  have hW : LWd D [(cA, .int)] [(h0, .inr (8, [.int 0, .ref q_1, .ref q_2, .ref q_4, .int 0, .ref q_6, .int 0, .ref q_8, .ref q_10, .int 0, .int 0, .int 0, .ref q_12, .ref q_14, .ref q_16, .ref q_19, .ref q_21, .null, .int 0, .int 0, .int 0, .int 0, .null, .null, .int 0, .int 0, .int 0, .null, .null, .null, .int 0])), (q_1, .inl (cA, 6, .inl (fun _ => 0))), (q_2, .inl (cA, 6, .inl (fun _ => 0))), (q_4, .inl (cA, 30, .inl (fun _ => 0))), (q_6, .inl (cA, 160, .inl (fun _ => 0))), (q_8, .inl (cA, 1200, .inl (fun _ => 0))), (q_10, .inl (cA, 24, .inl (fun _ => 0))), (q_12, .inl (cA, 30, .inl (fun _ => 0))), (q_14, .inl (cA, 3, .inl (fun _ => 0))), (q_16, .inl (cA, 4, .inl (f_18))), (q_19, .inl (cA, 4, .inl (fun _ => 0))), (q_21, .inl (cA, 160, .inl (fun _ => 0))), (q_23, .inl (cA, 29, .inl (upd (upd (upd (upd (upd f_26 11 101) 12 97) 13 116) 14 115) 15 32)))] A s s.heap H _ := hW'
  clear hW'
  obtain ⟨f_27, ef_27⟩ : ∃ z : Nat → Int32, z = upd (upd (upd (upd (upd f_26 11 101) 12 97) 13 116) 14 115) 15 32 := ⟨_, rfl⟩
  rw [← ef_27] at hW
  have hW2 : LWd D [(cA, .int)] [(h0, .inr (8, [.int 0, .ref q_1, .ref q_2, .ref q_4, .int 0, .ref q_6, .int 0, .ref q_8, .ref q_10, .int 0, .int 0, .int 0, .ref q_12, .ref q_14, .ref q_16, .ref q_19, .ref q_21, .null, .int 0, .int 0, .int 0, .int 0, .null, .null, .int 0, .int 0, .int 0, .null, .null, .null, .int 0])), (q_1, .inl (cA, 6, .inl (fun _ => 0))), (q_2, .inl (cA, 6, .inl (fun _ => 0))), (q_4, .inl (cA, 30, .inl (fun _ => 0))), (q_6, .inl (cA, 160, .inl (fun _ => 0))), (q_8, .inl (cA, 1200, .inl (fun _ => 0))), (q_10, .inl (cA, 24, .inl (fun _ => 0))), (q_12, .inl (cA, 30, .inl (fun _ => 0))), (q_14, .inl (cA, 3, .inl (fun _ => 0))), (q_16, .inl (cA, 4, .inl (f_18))), (q_19, .inl (cA, 4, .inl (fun _ => 0))), (q_21, .inl (cA, 160, .inl (fun _ => 0))), (q_23, .inl (cA, 29, .inl (f_27)))] A s s.heap H _ := hW
  clear hW
  have hW := hW2
  clear hW2
  show W p l e _ s m ar below meth c _ _ _ _ Q (F0 m 203 ls _)
  refine lv_dup hx hb dX8_init_203 rfl ?_
  refine lv_bipush (v := 16) hx hb dX8_init_204 (by decide) ?_
  refine lv_bipush (v := 49) hx hb dX8_init_206 (by decide) ?_
  refine lw_iast (t0 := 0) F hW 12 rfl rfl (vp_in_nI (n := 16) (by decide) (by decide)) dX8_init_208 (fun H locs hW' => ?_)
  clear hW
  have hW : LWd D [(cA, .int)] [(h0, .inr (8, [.int 0, .ref q_1, .ref q_2, .ref q_4, .int 0, .ref q_6, .int 0, .ref q_8, .ref q_10, .int 0, .int 0, .int 0, .ref q_12, .ref q_14, .ref q_16, .ref q_19, .ref q_21, .null, .int 0, .int 0, .int 0, .int 0, .null, .null, .int 0, .int 0, .int 0, .null, .null, .null, .int 0])), (q_1, .inl (cA, 6, .inl (fun _ => 0))), (q_2, .inl (cA, 6, .inl (fun _ => 0))), (q_4, .inl (cA, 30, .inl (fun _ => 0))), (q_6, .inl (cA, 160, .inl (fun _ => 0))), (q_8, .inl (cA, 1200, .inl (fun _ => 0))), (q_10, .inl (cA, 24, .inl (fun _ => 0))), (q_12, .inl (cA, 30, .inl (fun _ => 0))), (q_14, .inl (cA, 3, .inl (fun _ => 0))), (q_16, .inl (cA, 4, .inl (f_18))), (q_19, .inl (cA, 4, .inl (fun _ => 0))), (q_21, .inl (cA, 160, .inl (fun _ => 0))), (q_23, .inl (cA, 29, .inl (upd f_27 16 49)))] A s s.heap H _ := hW'
  clear hW'
  show W p l e _ s m ar below meth c _ _ _ _ Q (F0 m 209 ls _)
  refine lv_dup hx hb dX8_init_209 rfl ?_
  refine lv_bipush (v := 17) hx hb dX8_init_210 (by decide) ?_
  refine lv_bipush (v := 32) hx hb dX8_init_212 (by decide) ?_
  refine lw_iast (t0 := 0) F hW 12 rfl rfl (vp_in_nI (n := 17) (by decide) (by decide)) dX8_init_214 (fun H locs hW' => ?_)
  clear hW
  have hW : LWd D [(cA, .int)] [(h0, .inr (8, [.int 0, .ref q_1, .ref q_2, .ref q_4, .int 0, .ref q_6, .int 0, .ref q_8, .ref q_10, .int 0, .int 0, .int 0, .ref q_12, .ref q_14, .ref q_16, .ref q_19, .ref q_21, .null, .int 0, .int 0, .int 0, .int 0, .null, .null, .int 0, .int 0, .int 0, .null, .null, .null, .int 0])), (q_1, .inl (cA, 6, .inl (fun _ => 0))), (q_2, .inl (cA, 6, .inl (fun _ => 0))), (q_4, .inl (cA, 30, .inl (fun _ => 0))), (q_6, .inl (cA, 160, .inl (fun _ => 0))), (q_8, .inl (cA, 1200, .inl (fun _ => 0))), (q_10, .inl (cA, 24, .inl (fun _ => 0))), (q_12, .inl (cA, 30, .inl (fun _ => 0))), (q_14, .inl (cA, 3, .inl (fun _ => 0))), (q_16, .inl (cA, 4, .inl (f_18))), (q_19, .inl (cA, 4, .inl (fun _ => 0))), (q_21, .inl (cA, 160, .inl (fun _ => 0))), (q_23, .inl (cA, 29, .inl (upd (upd f_27 16 49) 17 32)))] A s s.heap H _ := hW'
  clear hW'
  show W p l e _ s m ar below meth c _ _ _ _ Q (F0 m 215 ls _)
  refine lv_dup hx hb dX8_init_215 rfl ?_
  refine lv_bipush (v := 18) hx hb dX8_init_216 (by decide) ?_
  refine lv_bipush (v := 59) hx hb dX8_init_218 (by decide) ?_
  refine lw_iast (t0 := 0) F hW 12 rfl rfl (vp_in_nI (n := 18) (by decide) (by decide)) dX8_init_220 (fun H locs hW' => ?_)
  clear hW
  have hW : LWd D [(cA, .int)] [(h0, .inr (8, [.int 0, .ref q_1, .ref q_2, .ref q_4, .int 0, .ref q_6, .int 0, .ref q_8, .ref q_10, .int 0, .int 0, .int 0, .ref q_12, .ref q_14, .ref q_16, .ref q_19, .ref q_21, .null, .int 0, .int 0, .int 0, .int 0, .null, .null, .int 0, .int 0, .int 0, .null, .null, .null, .int 0])), (q_1, .inl (cA, 6, .inl (fun _ => 0))), (q_2, .inl (cA, 6, .inl (fun _ => 0))), (q_4, .inl (cA, 30, .inl (fun _ => 0))), (q_6, .inl (cA, 160, .inl (fun _ => 0))), (q_8, .inl (cA, 1200, .inl (fun _ => 0))), (q_10, .inl (cA, 24, .inl (fun _ => 0))), (q_12, .inl (cA, 30, .inl (fun _ => 0))), (q_14, .inl (cA, 3, .inl (fun _ => 0))), (q_16, .inl (cA, 4, .inl (f_18))), (q_19, .inl (cA, 4, .inl (fun _ => 0))), (q_21, .inl (cA, 160, .inl (fun _ => 0))), (q_23, .inl (cA, 29, .inl (upd (upd (upd f_27 16 49) 17 32) 18 59)))] A s s.heap H _ := hW'
  clear hW'
  show W p l e _ s m ar below meth c _ _ _ _ Q (F0 m 221 ls _)
  refine lv_dup hx hb dX8_init_221 rfl ?_
  refine lv_bipush (v := 19) hx hb dX8_init_222 (by decide) ?_
  refine lv_bipush (v := 32) hx hb dX8_init_224 (by decide) ?_
  refine lw_iast (t0 := 0) F hW 12 rfl rfl (vp_in_nI (n := 19) (by decide) (by decide)) dX8_init_226 (fun H locs hW' => ?_)
  clear hW
  have hW : LWd D [(cA, .int)] [(h0, .inr (8, [.int 0, .ref q_1, .ref q_2, .ref q_4, .int 0, .ref q_6, .int 0, .ref q_8, .ref q_10, .int 0, .int 0, .int 0, .ref q_12, .ref q_14, .ref q_16, .ref q_19, .ref q_21, .null, .int 0, .int 0, .int 0, .int 0, .null, .null, .int 0, .int 0, .int 0, .null, .null, .null, .int 0])), (q_1, .inl (cA, 6, .inl (fun _ => 0))), (q_2, .inl (cA, 6, .inl (fun _ => 0))), (q_4, .inl (cA, 30, .inl (fun _ => 0))), (q_6, .inl (cA, 160, .inl (fun _ => 0))), (q_8, .inl (cA, 1200, .inl (fun _ => 0))), (q_10, .inl (cA, 24, .inl (fun _ => 0))), (q_12, .inl (cA, 30, .inl (fun _ => 0))), (q_14, .inl (cA, 3, .inl (fun _ => 0))), (q_16, .inl (cA, 4, .inl (f_18))), (q_19, .inl (cA, 4, .inl (fun _ => 0))), (q_21, .inl (cA, 160, .inl (fun _ => 0))), (q_23, .inl (cA, 29, .inl (upd (upd (upd (upd f_27 16 49) 17 32) 18 59) 19 32)))] A s s.heap H _ := hW'
  clear hW'
  show W p l e _ s m ar below meth c _ _ _ _ Q (F0 m 227 ls _)
  refine lv_dup hx hb dX8_init_227 rfl ?_
  refine lv_bipush (v := 20) hx hb dX8_init_228 (by decide) ?_
  refine lv_bipush (v := 116) hx hb dX8_init_230 (by decide) ?_
  refine lw_iast (t0 := 0) F hW 12 rfl rfl (vp_in_nI (n := 20) (by decide) (by decide)) dX8_init_232 (fun H locs hW' => ?_)
  clear hW
  have hW : LWd D [(cA, .int)] [(h0, .inr (8, [.int 0, .ref q_1, .ref q_2, .ref q_4, .int 0, .ref q_6, .int 0, .ref q_8, .ref q_10, .int 0, .int 0, .int 0, .ref q_12, .ref q_14, .ref q_16, .ref q_19, .ref q_21, .null, .int 0, .int 0, .int 0, .int 0, .null, .null, .int 0, .int 0, .int 0, .null, .null, .null, .int 0])), (q_1, .inl (cA, 6, .inl (fun _ => 0))), (q_2, .inl (cA, 6, .inl (fun _ => 0))), (q_4, .inl (cA, 30, .inl (fun _ => 0))), (q_6, .inl (cA, 160, .inl (fun _ => 0))), (q_8, .inl (cA, 1200, .inl (fun _ => 0))), (q_10, .inl (cA, 24, .inl (fun _ => 0))), (q_12, .inl (cA, 30, .inl (fun _ => 0))), (q_14, .inl (cA, 3, .inl (fun _ => 0))), (q_16, .inl (cA, 4, .inl (f_18))), (q_19, .inl (cA, 4, .inl (fun _ => 0))), (q_21, .inl (cA, 160, .inl (fun _ => 0))), (q_23, .inl (cA, 29, .inl (upd (upd (upd (upd (upd f_27 16 49) 17 32) 18 59) 19 32) 20 116)))] A s s.heap H _ := hW'
  clear hW'
  obtain ⟨f_28, ef_28⟩ : ∃ z : Nat → Int32, z = upd (upd (upd (upd (upd f_27 16 49) 17 32) 18 59) 19 32) 20 116 := ⟨_, rfl⟩
  rw [← ef_28] at hW
  have hW2 : LWd D [(cA, .int)] [(h0, .inr (8, [.int 0, .ref q_1, .ref q_2, .ref q_4, .int 0, .ref q_6, .int 0, .ref q_8, .ref q_10, .int 0, .int 0, .int 0, .ref q_12, .ref q_14, .ref q_16, .ref q_19, .ref q_21, .null, .int 0, .int 0, .int 0, .int 0, .null, .null, .int 0, .int 0, .int 0, .null, .null, .null, .int 0])), (q_1, .inl (cA, 6, .inl (fun _ => 0))), (q_2, .inl (cA, 6, .inl (fun _ => 0))), (q_4, .inl (cA, 30, .inl (fun _ => 0))), (q_6, .inl (cA, 160, .inl (fun _ => 0))), (q_8, .inl (cA, 1200, .inl (fun _ => 0))), (q_10, .inl (cA, 24, .inl (fun _ => 0))), (q_12, .inl (cA, 30, .inl (fun _ => 0))), (q_14, .inl (cA, 3, .inl (fun _ => 0))), (q_16, .inl (cA, 4, .inl (f_18))), (q_19, .inl (cA, 4, .inl (fun _ => 0))), (q_21, .inl (cA, 160, .inl (fun _ => 0))), (q_23, .inl (cA, 29, .inl (f_28)))] A s s.heap H _ := hW
  clear hW
  have hW := hW2
  clear hW2
  show W p l e _ s m ar below meth c _ _ _ _ Q (F0 m 233 ls _)
  refine lv_dup hx hb dX8_init_233 rfl ?_
  refine lv_bipush (v := 21) hx hb dX8_init_234 (by decide) ?_
  refine lv_bipush (v := 101) hx hb dX8_init_236 (by decide) ?_
  refine lw_iast (t0 := 0) F hW 12 rfl rfl (vp_in_nI (n := 21) (by decide) (by decide)) dX8_init_238 (fun H locs hW' => ?_)
  clear hW
  have hW : LWd D [(cA, .int)] [(h0, .inr (8, [.int 0, .ref q_1, .ref q_2, .ref q_4, .int 0, .ref q_6, .int 0, .ref q_8, .ref q_10, .int 0, .int 0, .int 0, .ref q_12, .ref q_14, .ref q_16, .ref q_19, .ref q_21, .null, .int 0, .int 0, .int 0, .int 0, .null, .null, .int 0, .int 0, .int 0, .null, .null, .null, .int 0])), (q_1, .inl (cA, 6, .inl (fun _ => 0))), (q_2, .inl (cA, 6, .inl (fun _ => 0))), (q_4, .inl (cA, 30, .inl (fun _ => 0))), (q_6, .inl (cA, 160, .inl (fun _ => 0))), (q_8, .inl (cA, 1200, .inl (fun _ => 0))), (q_10, .inl (cA, 24, .inl (fun _ => 0))), (q_12, .inl (cA, 30, .inl (fun _ => 0))), (q_14, .inl (cA, 3, .inl (fun _ => 0))), (q_16, .inl (cA, 4, .inl (f_18))), (q_19, .inl (cA, 4, .inl (fun _ => 0))), (q_21, .inl (cA, 160, .inl (fun _ => 0))), (q_23, .inl (cA, 29, .inl (upd f_28 21 101)))] A s s.heap H _ := hW'
  clear hW'
  show W p l e _ s m ar below meth c _ _ _ _ Q (F0 m 239 ls _)
  refine lv_dup hx hb dX8_init_239 rfl ?_
  refine lv_bipush (v := 22) hx hb dX8_init_240 (by decide) ?_
  refine lv_bipush (v := 108) hx hb dX8_init_242 (by decide) ?_
  refine lw_iast (t0 := 0) F hW 12 rfl rfl (vp_in_nI (n := 22) (by decide) (by decide)) dX8_init_244 (fun H locs hW' => ?_)
  clear hW
  have hW : LWd D [(cA, .int)] [(h0, .inr (8, [.int 0, .ref q_1, .ref q_2, .ref q_4, .int 0, .ref q_6, .int 0, .ref q_8, .ref q_10, .int 0, .int 0, .int 0, .ref q_12, .ref q_14, .ref q_16, .ref q_19, .ref q_21, .null, .int 0, .int 0, .int 0, .int 0, .null, .null, .int 0, .int 0, .int 0, .null, .null, .null, .int 0])), (q_1, .inl (cA, 6, .inl (fun _ => 0))), (q_2, .inl (cA, 6, .inl (fun _ => 0))), (q_4, .inl (cA, 30, .inl (fun _ => 0))), (q_6, .inl (cA, 160, .inl (fun _ => 0))), (q_8, .inl (cA, 1200, .inl (fun _ => 0))), (q_10, .inl (cA, 24, .inl (fun _ => 0))), (q_12, .inl (cA, 30, .inl (fun _ => 0))), (q_14, .inl (cA, 3, .inl (fun _ => 0))), (q_16, .inl (cA, 4, .inl (f_18))), (q_19, .inl (cA, 4, .inl (fun _ => 0))), (q_21, .inl (cA, 160, .inl (fun _ => 0))), (q_23, .inl (cA, 29, .inl (upd (upd f_28 21 101) 22 108)))] A s s.heap H _ := hW'
  clear hW'
  show W p l e _ s m ar below meth c _ _ _ _ Q (F0 m 245 ls _)
  refine lv_dup hx hb dX8_init_245 rfl ?_
  refine lv_bipush (v := 23) hx hb dX8_init_246 (by decide) ?_
  refine lv_bipush (v := 108) hx hb dX8_init_248 (by decide) ?_
  refine lw_iast (t0 := 0) F hW 12 rfl rfl (vp_in_nI (n := 23) (by decide) (by decide)) dX8_init_250 (fun H locs hW' => ?_)
  clear hW
  have hW : LWd D [(cA, .int)] [(h0, .inr (8, [.int 0, .ref q_1, .ref q_2, .ref q_4, .int 0, .ref q_6, .int 0, .ref q_8, .ref q_10, .int 0, .int 0, .int 0, .ref q_12, .ref q_14, .ref q_16, .ref q_19, .ref q_21, .null, .int 0, .int 0, .int 0, .int 0, .null, .null, .int 0, .int 0, .int 0, .null, .null, .null, .int 0])), (q_1, .inl (cA, 6, .inl (fun _ => 0))), (q_2, .inl (cA, 6, .inl (fun _ => 0))), (q_4, .inl (cA, 30, .inl (fun _ => 0))), (q_6, .inl (cA, 160, .inl (fun _ => 0))), (q_8, .inl (cA, 1200, .inl (fun _ => 0))), (q_10, .inl (cA, 24, .inl (fun _ => 0))), (q_12, .inl (cA, 30, .inl (fun _ => 0))), (q_14, .inl (cA, 3, .inl (fun _ => 0))), (q_16, .inl (cA, 4, .inl (f_18))), (q_19, .inl (cA, 4, .inl (fun _ => 0))), (q_21, .inl (cA, 160, .inl (fun _ => 0))), (q_23, .inl (cA, 29, .inl (upd (upd (upd f_28 21 101) 22 108) 23 108)))] A s s.heap H _ := hW'
  clear hW'
  show W p l e _ s m ar below meth c _ _ _ _ Q (F0 m 251 ls _)
  refine lv_dup hx hb dX8_init_251 rfl ?_
  refine lv_bipush (v := 24) hx hb dX8_init_252 (by decide) ?_
  refine lv_bipush (v := 115) hx hb dX8_init_254 (by decide) ?_
  refine lw_iast (t0 := 0) F hW 12 rfl rfl (vp_in_nI (n := 24) (by decide) (by decide)) dX8_init_256 (fun H locs hW' => ?_)
  clear hW
  have hW : LWd D [(cA, .int)] [(h0, .inr (8, [.int 0, .ref q_1, .ref q_2, .ref q_4, .int 0, .ref q_6, .int 0, .ref q_8, .ref q_10, .int 0, .int 0, .int 0, .ref q_12, .ref q_14, .ref q_16, .ref q_19, .ref q_21, .null, .int 0, .int 0, .int 0, .int 0, .null, .null, .int 0, .int 0, .int 0, .null, .null, .null, .int 0])), (q_1, .inl (cA, 6, .inl (fun _ => 0))), (q_2, .inl (cA, 6, .inl (fun _ => 0))), (q_4, .inl (cA, 30, .inl (fun _ => 0))), (q_6, .inl (cA, 160, .inl (fun _ => 0))), (q_8, .inl (cA, 1200, .inl (fun _ => 0))), (q_10, .inl (cA, 24, .inl (fun _ => 0))), (q_12, .inl (cA, 30, .inl (fun _ => 0))), (q_14, .inl (cA, 3, .inl (fun _ => 0))), (q_16, .inl (cA, 4, .inl (f_18))), (q_19, .inl (cA, 4, .inl (fun _ => 0))), (q_21, .inl (cA, 160, .inl (fun _ => 0))), (q_23, .inl (cA, 29, .inl (upd (upd (upd (upd f_28 21 101) 22 108) 23 108) 24 115)))] A s s.heap H _ := hW'
  clear hW'
  show W p l e _ s m ar below meth c _ _ _ _ Q (F0 m 257 ls _)
  refine lv_dup hx hb dX8_init_257 rfl ?_
  refine lv_bipush (v := 25) hx hb dX8_init_258 (by decide) ?_
  refine lv_bipush (v := 32) hx hb dX8_init_260 (by decide) ?_
  refine lw_iast (t0 := 0) F hW 12 rfl rfl (vp_in_nI (n := 25) (by decide) (by decide)) dX8_init_262 (fun H locs hW' => ?_)
  clear hW
  have hW : LWd D [(cA, .int)] [(h0, .inr (8, [.int 0, .ref q_1, .ref q_2, .ref q_4, .int 0, .ref q_6, .int 0, .ref q_8, .ref q_10, .int 0, .int 0, .int 0, .ref q_12, .ref q_14, .ref q_16, .ref q_19, .ref q_21, .null, .int 0, .int 0, .int 0, .int 0, .null, .null, .int 0, .int 0, .int 0, .null, .null, .null, .int 0])), (q_1, .inl (cA, 6, .inl (fun _ => 0))), (q_2, .inl (cA, 6, .inl (fun _ => 0))), (q_4, .inl (cA, 30, .inl (fun _ => 0))), (q_6, .inl (cA, 160, .inl (fun _ => 0))), (q_8, .inl (cA, 1200, .inl (fun _ => 0))), (q_10, .inl (cA, 24, .inl (fun _ => 0))), (q_12, .inl (cA, 30, .inl (fun _ => 0))), (q_14, .inl (cA, 3, .inl (fun _ => 0))), (q_16, .inl (cA, 4, .inl (f_18))), (q_19, .inl (cA, 4, .inl (fun _ => 0))), (q_21, .inl (cA, 160, .inl (fun _ => 0))), (q_23, .inl (cA, 29, .inl (upd (upd (upd (upd (upd f_28 21 101) 22 108) 23 108) 24 115) 25 32)))] A s s.heap H _ := hW'
  clear hW'
  obtain ⟨f_29, ef_29⟩ : ∃ z : Nat → Int32, z = upd (upd (upd (upd (upd f_28 21 101) 22 108) 23 108) 24 115) 25 32 := ⟨_, rfl⟩
  rw [← ef_29] at hW
  have hW2 : LWd D [(cA, .int)] [(h0, .inr (8, [.int 0, .ref q_1, .ref q_2, .ref q_4, .int 0, .ref q_6, .int 0, .ref q_8, .ref q_10, .int 0, .int 0, .int 0, .ref q_12, .ref q_14, .ref q_16, .ref q_19, .ref q_21, .null, .int 0, .int 0, .int 0, .int 0, .null, .null, .int 0, .int 0, .int 0, .null, .null, .null, .int 0])), (q_1, .inl (cA, 6, .inl (fun _ => 0))), (q_2, .inl (cA, 6, .inl (fun _ => 0))), (q_4, .inl (cA, 30, .inl (fun _ => 0))), (q_6, .inl (cA, 160, .inl (fun _ => 0))), (q_8, .inl (cA, 1200, .inl (fun _ => 0))), (q_10, .inl (cA, 24, .inl (fun _ => 0))), (q_12, .inl (cA, 30, .inl (fun _ => 0))), (q_14, .inl (cA, 3, .inl (fun _ => 0))), (q_16, .inl (cA, 4, .inl (f_18))), (q_19, .inl (cA, 4, .inl (fun _ => 0))), (q_21, .inl (cA, 160, .inl (fun _ => 0))), (q_23, .inl (cA, 29, .inl (f_29)))] A s s.heap H _ := hW
  clear hW
  have hW := hW2
  clear hW2
  show W p l e _ s m ar below meth c _ _ _ _ Q (F0 m 263 ls _)
  refine lv_dup hx hb dX8_init_263 rfl ?_
  refine lv_bipush (v := 26) hx hb dX8_init_264 (by decide) ?_
  refine lv_bipush (v := 49) hx hb dX8_init_266 (by decide) ?_
  refine lw_iast (t0 := 0) F hW 12 rfl rfl (vp_in_nI (n := 26) (by decide) (by decide)) dX8_init_268 (fun H locs hW' => ?_)
  clear hW
  have hW : LWd D [(cA, .int)] [(h0, .inr (8, [.int 0, .ref q_1, .ref q_2, .ref q_4, .int 0, .ref q_6, .int 0, .ref q_8, .ref q_10, .int 0, .int 0, .int 0, .ref q_12, .ref q_14, .ref q_16, .ref q_19, .ref q_21, .null, .int 0, .int 0, .int 0, .int 0, .null, .null, .int 0, .int 0, .int 0, .null, .null, .null, .int 0])), (q_1, .inl (cA, 6, .inl (fun _ => 0))), (q_2, .inl (cA, 6, .inl (fun _ => 0))), (q_4, .inl (cA, 30, .inl (fun _ => 0))), (q_6, .inl (cA, 160, .inl (fun _ => 0))), (q_8, .inl (cA, 1200, .inl (fun _ => 0))), (q_10, .inl (cA, 24, .inl (fun _ => 0))), (q_12, .inl (cA, 30, .inl (fun _ => 0))), (q_14, .inl (cA, 3, .inl (fun _ => 0))), (q_16, .inl (cA, 4, .inl (f_18))), (q_19, .inl (cA, 4, .inl (fun _ => 0))), (q_21, .inl (cA, 160, .inl (fun _ => 0))), (q_23, .inl (cA, 29, .inl (upd f_29 26 49)))] A s s.heap H _ := hW'
  clear hW'
  show W p l e _ s m ar below meth c _ _ _ _ Q (F0 m 269 ls _)
  refine lv_dup hx hb dX8_init_269 rfl ?_
  refine lv_bipush (v := 27) hx hb dX8_init_270 (by decide) ?_
  refine lv_bipush (v := 32) hx hb dX8_init_272 (by decide) ?_
  refine lw_iast (t0 := 0) F hW 12 rfl rfl (vp_in_nI (n := 27) (by decide) (by decide)) dX8_init_274 (fun H locs hW' => ?_)
  clear hW
  have hW : LWd D [(cA, .int)] [(h0, .inr (8, [.int 0, .ref q_1, .ref q_2, .ref q_4, .int 0, .ref q_6, .int 0, .ref q_8, .ref q_10, .int 0, .int 0, .int 0, .ref q_12, .ref q_14, .ref q_16, .ref q_19, .ref q_21, .null, .int 0, .int 0, .int 0, .int 0, .null, .null, .int 0, .int 0, .int 0, .null, .null, .null, .int 0])), (q_1, .inl (cA, 6, .inl (fun _ => 0))), (q_2, .inl (cA, 6, .inl (fun _ => 0))), (q_4, .inl (cA, 30, .inl (fun _ => 0))), (q_6, .inl (cA, 160, .inl (fun _ => 0))), (q_8, .inl (cA, 1200, .inl (fun _ => 0))), (q_10, .inl (cA, 24, .inl (fun _ => 0))), (q_12, .inl (cA, 30, .inl (fun _ => 0))), (q_14, .inl (cA, 3, .inl (fun _ => 0))), (q_16, .inl (cA, 4, .inl (f_18))), (q_19, .inl (cA, 4, .inl (fun _ => 0))), (q_21, .inl (cA, 160, .inl (fun _ => 0))), (q_23, .inl (cA, 29, .inl (upd (upd f_29 26 49) 27 32)))] A s s.heap H _ := hW'
  clear hW'
  show W p l e _ s m ar below meth c _ _ _ _ Q (F0 m 275 ls _)
  refine lv_dup hx hb dX8_init_275 rfl ?_
  refine lv_bipush (v := 28) hx hb dX8_init_276 (by decide) ?_
  refine lv_bipush (v := 59) hx hb dX8_init_278 (by decide) ?_
  refine lw_iast (t0 := 0) F hW 12 rfl rfl (vp_in_nI (n := 28) (by decide) (by decide)) dX8_init_280 (fun H locs hW' => ?_)
  clear hW
  have hW : LWd D [(cA, .int)] [(h0, .inr (8, [.int 0, .ref q_1, .ref q_2, .ref q_4, .int 0, .ref q_6, .int 0, .ref q_8, .ref q_10, .int 0, .int 0, .int 0, .ref q_12, .ref q_14, .ref q_16, .ref q_19, .ref q_21, .null, .int 0, .int 0, .int 0, .int 0, .null, .null, .int 0, .int 0, .int 0, .null, .null, .null, .int 0])), (q_1, .inl (cA, 6, .inl (fun _ => 0))), (q_2, .inl (cA, 6, .inl (fun _ => 0))), (q_4, .inl (cA, 30, .inl (fun _ => 0))), (q_6, .inl (cA, 160, .inl (fun _ => 0))), (q_8, .inl (cA, 1200, .inl (fun _ => 0))), (q_10, .inl (cA, 24, .inl (fun _ => 0))), (q_12, .inl (cA, 30, .inl (fun _ => 0))), (q_14, .inl (cA, 3, .inl (fun _ => 0))), (q_16, .inl (cA, 4, .inl (f_18))), (q_19, .inl (cA, 4, .inl (fun _ => 0))), (q_21, .inl (cA, 160, .inl (fun _ => 0))), (q_23, .inl (cA, 29, .inl (upd (upd (upd f_29 26 49) 27 32) 28 59)))] A s s.heap H _ := hW'
  clear hW'
  show W p l e _ s m ar below meth c _ _ _ _ Q (F0 m 281 ls _)
  have hlw0 : ∀ j, j < 29 → (upd (upd (upd f_29 26 49) 27 32) 28 59) j = lawB j := by rw [ef_29, ef_28, ef_27, ef_26, ef_25]; decide +kernel
  refine lw_put (ci := 8) (fs := [.int 0, .ref q_1, .ref q_2, .ref q_4, .int 0, .ref q_6, .int 0, .ref q_8, .ref q_10, .int 0, .int 0, .int 0, .ref q_12, .ref q_14, .ref q_16, .ref q_19, .ref q_21, .null, .int 0, .int 0, .int 0, .int 0, .null, .null, .int 0, .int 0, .int 0, .null, .null, .null, .int 0]) F hW 0 rfl (C := RX8) (T := TX8) (n := 31) rfl in_RX8 tyX8 tyX8_ok nmX8 17 (by decide) fl_RX8_43 hnm (by decide +kernel) rfl rfl rfl (show 17 < 31 by decide) dX8_init_281 (fun H locs hW' => ?_)
  clear hW
  have hW : LWd D [(cA, .int)] [(h0, .inr (8, [.int 0, .ref q_1, .ref q_2, .ref q_4, .int 0, .ref q_6, .int 0, .ref q_8, .ref q_10, .int 0, .int 0, .int 0, .ref q_12, .ref q_14, .ref q_16, .ref q_19, .ref q_21, .ref q_23, .int 0, .int 0, .int 0, .int 0, .null, .null, .int 0, .int 0, .int 0, .null, .null, .null, .int 0])), (q_1, .inl (cA, 6, .inl (fun _ => 0))), (q_2, .inl (cA, 6, .inl (fun _ => 0))), (q_4, .inl (cA, 30, .inl (fun _ => 0))), (q_6, .inl (cA, 160, .inl (fun _ => 0))), (q_8, .inl (cA, 1200, .inl (fun _ => 0))), (q_10, .inl (cA, 24, .inl (fun _ => 0))), (q_12, .inl (cA, 30, .inl (fun _ => 0))), (q_14, .inl (cA, 3, .inl (fun _ => 0))), (q_16, .inl (cA, 4, .inl (f_18))), (q_19, .inl (cA, 4, .inl (fun _ => 0))), (q_21, .inl (cA, 160, .inl (fun _ => 0))), (q_23, .inl (cA, 29, .inl (upd (upd (upd f_29 26 49) 27 32) 28 59)))] A s s.heap H _ := hW'
  clear hW'
  show W p l e _ s m ar below meth c _ _ _ _ Q (F0 m 284 ls _)
  refine lv_aload_n hx hb dX8_init_284 rfl (lv_at hl 0 rfl) ?_
  refine lv_bipush (v := 96) hx hb dX8_init_285 (by decide) ?_
  refine lw_newi (c2 := 13) (s2 := 1752) (N' := 96) F hW (by decide) rfl (by decide) rfl rfl ⟨Nat.le_of_ble_eq_true rfl, Nat.le_of_ble_eq_true rfl⟩ dX8_init_287 (fun q_30 cA_31 H hW' => ?_)
  clear hW
  have hW : LWd D [(cA, .int), (cA_31, .int)] [(h0, .inr (8, [.int 0, .ref q_1, .ref q_2, .ref q_4, .int 0, .ref q_6, .int 0, .ref q_8, .ref q_10, .int 0, .int 0, .int 0, .ref q_12, .ref q_14, .ref q_16, .ref q_19, .ref q_21, .ref q_23, .int 0, .int 0, .int 0, .int 0, .null, .null, .int 0, .int 0, .int 0, .null, .null, .null, .int 0])), (q_1, .inl (cA, 6, .inl (fun _ => 0))), (q_2, .inl (cA, 6, .inl (fun _ => 0))), (q_4, .inl (cA, 30, .inl (fun _ => 0))), (q_6, .inl (cA, 160, .inl (fun _ => 0))), (q_8, .inl (cA, 1200, .inl (fun _ => 0))), (q_10, .inl (cA, 24, .inl (fun _ => 0))), (q_12, .inl (cA, 30, .inl (fun _ => 0))), (q_14, .inl (cA, 3, .inl (fun _ => 0))), (q_16, .inl (cA, 4, .inl (f_18))), (q_19, .inl (cA, 4, .inl (fun _ => 0))), (q_21, .inl (cA, 160, .inl (fun _ => 0))), (q_23, .inl (cA, 29, .inl (upd (upd (upd f_29 26 49) 27 32) 28 59))), (q_30, .inl (cA_31, 96, .inl (fun _ => 0)))] A s s.heap H _ := hW'
  clear hW'
  obtain rfl : cA = cA_31 := lw_same (i := 0) (j := 1) hW rfl rfl
  have hW := lw_tys (t' := [(cA, .int)]) hW [0] rfl
  have hW2 : LWd D [(cA, .int)] [(h0, .inr (8, [.int 0, .ref q_1, .ref q_2, .ref q_4, .int 0, .ref q_6, .int 0, .ref q_8, .ref q_10, .int 0, .int 0, .int 0, .ref q_12, .ref q_14, .ref q_16, .ref q_19, .ref q_21, .ref q_23, .int 0, .int 0, .int 0, .int 0, .null, .null, .int 0, .int 0, .int 0, .null, .null, .null, .int 0])), (q_1, .inl (cA, 6, .inl (fun _ => 0))), (q_2, .inl (cA, 6, .inl (fun _ => 0))), (q_4, .inl (cA, 30, .inl (fun _ => 0))), (q_6, .inl (cA, 160, .inl (fun _ => 0))), (q_8, .inl (cA, 1200, .inl (fun _ => 0))), (q_10, .inl (cA, 24, .inl (fun _ => 0))), (q_12, .inl (cA, 30, .inl (fun _ => 0))), (q_14, .inl (cA, 3, .inl (fun _ => 0))), (q_16, .inl (cA, 4, .inl (f_18))), (q_19, .inl (cA, 4, .inl (fun _ => 0))), (q_21, .inl (cA, 160, .inl (fun _ => 0))), (q_23, .inl (cA, 29, .inl (upd (upd (upd f_29 26 49) 27 32) 28 59))), (q_30, .inl (cA, 96, .inl (fun _ => 0)))] A s s.heap H _ := hW
  clear hW
  have hW := hW2
  clear hW2
  show W p l e _ s m ar below meth c _ _ _ _ Q (F0 m 289 ls _)
  refine lv_dup hx hb dX8_init_289 rfl ?_
  refine lv_iconst (v := 0) hx hb dX8_init_290 (by decide) ?_
  refine lv_bipush (v := 100) hx hb dX8_init_291 (by decide) ?_
  refine lw_iast (t0 := 0) F hW 13 rfl rfl (vp_in_nI (n := 0) (by decide) (by decide)) dX8_init_293 (fun H locs hW' => ?_)
  clear hW
  have hW : LWd D [(cA, .int)] [(h0, .inr (8, [.int 0, .ref q_1, .ref q_2, .ref q_4, .int 0, .ref q_6, .int 0, .ref q_8, .ref q_10, .int 0, .int 0, .int 0, .ref q_12, .ref q_14, .ref q_16, .ref q_19, .ref q_21, .ref q_23, .int 0, .int 0, .int 0, .int 0, .null, .null, .int 0, .int 0, .int 0, .null, .null, .null, .int 0])), (q_1, .inl (cA, 6, .inl (fun _ => 0))), (q_2, .inl (cA, 6, .inl (fun _ => 0))), (q_4, .inl (cA, 30, .inl (fun _ => 0))), (q_6, .inl (cA, 160, .inl (fun _ => 0))), (q_8, .inl (cA, 1200, .inl (fun _ => 0))), (q_10, .inl (cA, 24, .inl (fun _ => 0))), (q_12, .inl (cA, 30, .inl (fun _ => 0))), (q_14, .inl (cA, 3, .inl (fun _ => 0))), (q_16, .inl (cA, 4, .inl (f_18))), (q_19, .inl (cA, 4, .inl (fun _ => 0))), (q_21, .inl (cA, 160, .inl (fun _ => 0))), (q_23, .inl (cA, 29, .inl (upd (upd (upd f_29 26 49) 27 32) 28 59))), (q_30, .inl (cA, 96, .inl (upd (fun _ => 0) 0 100)))] A s s.heap H _ := hW'
  clear hW'
  show W p l e _ s m ar below meth c _ _ _ _ Q (F0 m 294 ls _)
  refine lv_dup hx hb dX8_init_294 rfl ?_
  refine lv_iconst (v := 1) hx hb dX8_init_295 (by decide) ?_
  refine lv_bipush (v := 97) hx hb dX8_init_296 (by decide) ?_
  refine lw_iast (t0 := 0) F hW 13 rfl rfl (vp_in_nI (n := 1) (by decide) (by decide)) dX8_init_298 (fun H locs hW' => ?_)
  clear hW
  have hW : LWd D [(cA, .int)] [(h0, .inr (8, [.int 0, .ref q_1, .ref q_2, .ref q_4, .int 0, .ref q_6, .int 0, .ref q_8, .ref q_10, .int 0, .int 0, .int 0, .ref q_12, .ref q_14, .ref q_16, .ref q_19, .ref q_21, .ref q_23, .int 0, .int 0, .int 0, .int 0, .null, .null, .int 0, .int 0, .int 0, .null, .null, .null, .int 0])), (q_1, .inl (cA, 6, .inl (fun _ => 0))), (q_2, .inl (cA, 6, .inl (fun _ => 0))), (q_4, .inl (cA, 30, .inl (fun _ => 0))), (q_6, .inl (cA, 160, .inl (fun _ => 0))), (q_8, .inl (cA, 1200, .inl (fun _ => 0))), (q_10, .inl (cA, 24, .inl (fun _ => 0))), (q_12, .inl (cA, 30, .inl (fun _ => 0))), (q_14, .inl (cA, 3, .inl (fun _ => 0))), (q_16, .inl (cA, 4, .inl (f_18))), (q_19, .inl (cA, 4, .inl (fun _ => 0))), (q_21, .inl (cA, 160, .inl (fun _ => 0))), (q_23, .inl (cA, 29, .inl (upd (upd (upd f_29 26 49) 27 32) 28 59))), (q_30, .inl (cA, 96, .inl (upd (upd (fun _ => 0) 0 100) 1 97)))] A s s.heap H _ := hW'
  clear hW'
  show W p l e _ s m ar below meth c _ _ _ _ Q (F0 m 299 ls _)
  refine lv_dup hx hb dX8_init_299 rfl ?_
  refine lv_iconst (v := 2) hx hb dX8_init_300 (by decide) ?_
  refine lv_bipush (v := 114) hx hb dX8_init_301 (by decide) ?_
  refine lw_iast (t0 := 0) F hW 13 rfl rfl (vp_in_nI (n := 2) (by decide) (by decide)) dX8_init_303 (fun H locs hW' => ?_)
  clear hW
  have hW : LWd D [(cA, .int)] [(h0, .inr (8, [.int 0, .ref q_1, .ref q_2, .ref q_4, .int 0, .ref q_6, .int 0, .ref q_8, .ref q_10, .int 0, .int 0, .int 0, .ref q_12, .ref q_14, .ref q_16, .ref q_19, .ref q_21, .ref q_23, .int 0, .int 0, .int 0, .int 0, .null, .null, .int 0, .int 0, .int 0, .null, .null, .null, .int 0])), (q_1, .inl (cA, 6, .inl (fun _ => 0))), (q_2, .inl (cA, 6, .inl (fun _ => 0))), (q_4, .inl (cA, 30, .inl (fun _ => 0))), (q_6, .inl (cA, 160, .inl (fun _ => 0))), (q_8, .inl (cA, 1200, .inl (fun _ => 0))), (q_10, .inl (cA, 24, .inl (fun _ => 0))), (q_12, .inl (cA, 30, .inl (fun _ => 0))), (q_14, .inl (cA, 3, .inl (fun _ => 0))), (q_16, .inl (cA, 4, .inl (f_18))), (q_19, .inl (cA, 4, .inl (fun _ => 0))), (q_21, .inl (cA, 160, .inl (fun _ => 0))), (q_23, .inl (cA, 29, .inl (upd (upd (upd f_29 26 49) 27 32) 28 59))), (q_30, .inl (cA, 96, .inl (upd (upd (upd (fun _ => 0) 0 100) 1 97) 2 114)))] A s s.heap H _ := hW'
  clear hW'
  show W p l e _ s m ar below meth c _ _ _ _ Q (F0 m 304 ls _)
  refine lv_dup hx hb dX8_init_304 rfl ?_
  refine lv_iconst (v := 3) hx hb dX8_init_305 (by decide) ?_
  refine lv_bipush (v := 101) hx hb dX8_init_306 (by decide) ?_
  refine lw_iast (t0 := 0) F hW 13 rfl rfl (vp_in_nI (n := 3) (by decide) (by decide)) dX8_init_308 (fun H locs hW' => ?_)
  clear hW
  have hW : LWd D [(cA, .int)] [(h0, .inr (8, [.int 0, .ref q_1, .ref q_2, .ref q_4, .int 0, .ref q_6, .int 0, .ref q_8, .ref q_10, .int 0, .int 0, .int 0, .ref q_12, .ref q_14, .ref q_16, .ref q_19, .ref q_21, .ref q_23, .int 0, .int 0, .int 0, .int 0, .null, .null, .int 0, .int 0, .int 0, .null, .null, .null, .int 0])), (q_1, .inl (cA, 6, .inl (fun _ => 0))), (q_2, .inl (cA, 6, .inl (fun _ => 0))), (q_4, .inl (cA, 30, .inl (fun _ => 0))), (q_6, .inl (cA, 160, .inl (fun _ => 0))), (q_8, .inl (cA, 1200, .inl (fun _ => 0))), (q_10, .inl (cA, 24, .inl (fun _ => 0))), (q_12, .inl (cA, 30, .inl (fun _ => 0))), (q_14, .inl (cA, 3, .inl (fun _ => 0))), (q_16, .inl (cA, 4, .inl (f_18))), (q_19, .inl (cA, 4, .inl (fun _ => 0))), (q_21, .inl (cA, 160, .inl (fun _ => 0))), (q_23, .inl (cA, 29, .inl (upd (upd (upd f_29 26 49) 27 32) 28 59))), (q_30, .inl (cA, 96, .inl (upd (upd (upd (upd (fun _ => 0) 0 100) 1 97) 2 114) 3 101)))] A s s.heap H _ := hW'
  clear hW'
  show W p l e _ s m ar below meth c _ _ _ _ Q (F0 m 309 ls _)
  refine lv_dup hx hb dX8_init_309 rfl ?_
  refine lv_iconst (v := 4) hx hb dX8_init_310 (by decide) ?_
  refine lv_bipush (v := 115) hx hb dX8_init_311 (by decide) ?_
  refine lw_iast (t0 := 0) F hW 13 rfl rfl (vp_in_nI (n := 4) (by decide) (by decide)) dX8_init_313 (fun H locs hW' => ?_)
  clear hW
  have hW : LWd D [(cA, .int)] [(h0, .inr (8, [.int 0, .ref q_1, .ref q_2, .ref q_4, .int 0, .ref q_6, .int 0, .ref q_8, .ref q_10, .int 0, .int 0, .int 0, .ref q_12, .ref q_14, .ref q_16, .ref q_19, .ref q_21, .ref q_23, .int 0, .int 0, .int 0, .int 0, .null, .null, .int 0, .int 0, .int 0, .null, .null, .null, .int 0])), (q_1, .inl (cA, 6, .inl (fun _ => 0))), (q_2, .inl (cA, 6, .inl (fun _ => 0))), (q_4, .inl (cA, 30, .inl (fun _ => 0))), (q_6, .inl (cA, 160, .inl (fun _ => 0))), (q_8, .inl (cA, 1200, .inl (fun _ => 0))), (q_10, .inl (cA, 24, .inl (fun _ => 0))), (q_12, .inl (cA, 30, .inl (fun _ => 0))), (q_14, .inl (cA, 3, .inl (fun _ => 0))), (q_16, .inl (cA, 4, .inl (f_18))), (q_19, .inl (cA, 4, .inl (fun _ => 0))), (q_21, .inl (cA, 160, .inl (fun _ => 0))), (q_23, .inl (cA, 29, .inl (upd (upd (upd f_29 26 49) 27 32) 28 59))), (q_30, .inl (cA, 96, .inl (upd (upd (upd (upd (upd (fun _ => 0) 0 100) 1 97) 2 114) 3 101) 4 115)))] A s s.heap H _ := hW'
  clear hW'
  obtain ⟨f_32, ef_32⟩ : ∃ z : Nat → Int32, z = upd (upd (upd (upd (upd (fun _ => 0) 0 100) 1 97) 2 114) 3 101) 4 115 := ⟨_, rfl⟩
  rw [← ef_32] at hW
  have hW2 : LWd D [(cA, .int)] [(h0, .inr (8, [.int 0, .ref q_1, .ref q_2, .ref q_4, .int 0, .ref q_6, .int 0, .ref q_8, .ref q_10, .int 0, .int 0, .int 0, .ref q_12, .ref q_14, .ref q_16, .ref q_19, .ref q_21, .ref q_23, .int 0, .int 0, .int 0, .int 0, .null, .null, .int 0, .int 0, .int 0, .null, .null, .null, .int 0])), (q_1, .inl (cA, 6, .inl (fun _ => 0))), (q_2, .inl (cA, 6, .inl (fun _ => 0))), (q_4, .inl (cA, 30, .inl (fun _ => 0))), (q_6, .inl (cA, 160, .inl (fun _ => 0))), (q_8, .inl (cA, 1200, .inl (fun _ => 0))), (q_10, .inl (cA, 24, .inl (fun _ => 0))), (q_12, .inl (cA, 30, .inl (fun _ => 0))), (q_14, .inl (cA, 3, .inl (fun _ => 0))), (q_16, .inl (cA, 4, .inl (f_18))), (q_19, .inl (cA, 4, .inl (fun _ => 0))), (q_21, .inl (cA, 160, .inl (fun _ => 0))), (q_23, .inl (cA, 29, .inl (upd (upd (upd f_29 26 49) 27 32) 28 59))), (q_30, .inl (cA, 96, .inl (f_32)))] A s s.heap H _ := hW
  clear hW
  have hW := hW2
  clear hW2
  show W p l e _ s m ar below meth c _ _ _ _ Q (F0 m 314 ls _)
  refine lv_dup hx hb dX8_init_314 rfl ?_
  refine lv_iconst (v := 5) hx hb dX8_init_315 (by decide) ?_
  refine lv_bipush (v := 32) hx hb dX8_init_316 (by decide) ?_
  refine lw_iast (t0 := 0) F hW 13 rfl rfl (vp_in_nI (n := 5) (by decide) (by decide)) dX8_init_318 (fun H locs hW' => ?_)
  clear hW
  have hW : LWd D [(cA, .int)] [(h0, .inr (8, [.int 0, .ref q_1, .ref q_2, .ref q_4, .int 0, .ref q_6, .int 0, .ref q_8, .ref q_10, .int 0, .int 0, .int 0, .ref q_12, .ref q_14, .ref q_16, .ref q_19, .ref q_21, .ref q_23, .int 0, .int 0, .int 0, .int 0, .null, .null, .int 0, .int 0, .int 0, .null, .null, .null, .int 0])), (q_1, .inl (cA, 6, .inl (fun _ => 0))), (q_2, .inl (cA, 6, .inl (fun _ => 0))), (q_4, .inl (cA, 30, .inl (fun _ => 0))), (q_6, .inl (cA, 160, .inl (fun _ => 0))), (q_8, .inl (cA, 1200, .inl (fun _ => 0))), (q_10, .inl (cA, 24, .inl (fun _ => 0))), (q_12, .inl (cA, 30, .inl (fun _ => 0))), (q_14, .inl (cA, 3, .inl (fun _ => 0))), (q_16, .inl (cA, 4, .inl (f_18))), (q_19, .inl (cA, 4, .inl (fun _ => 0))), (q_21, .inl (cA, 160, .inl (fun _ => 0))), (q_23, .inl (cA, 29, .inl (upd (upd (upd f_29 26 49) 27 32) 28 59))), (q_30, .inl (cA, 96, .inl (upd f_32 5 32)))] A s s.heap H _ := hW'
  clear hW'
  show W p l e _ s m ar below meth c _ _ _ _ Q (F0 m 319 ls _)
  refine lv_dup hx hb dX8_init_319 rfl ?_
  refine lv_bipush (v := 6) hx hb dX8_init_320 (by decide) ?_
  refine lv_bipush (v := 32) hx hb dX8_init_322 (by decide) ?_
  refine lw_iast (t0 := 0) F hW 13 rfl rfl (vp_in_nI (n := 6) (by decide) (by decide)) dX8_init_324 (fun H locs hW' => ?_)
  clear hW
  have hW : LWd D [(cA, .int)] [(h0, .inr (8, [.int 0, .ref q_1, .ref q_2, .ref q_4, .int 0, .ref q_6, .int 0, .ref q_8, .ref q_10, .int 0, .int 0, .int 0, .ref q_12, .ref q_14, .ref q_16, .ref q_19, .ref q_21, .ref q_23, .int 0, .int 0, .int 0, .int 0, .null, .null, .int 0, .int 0, .int 0, .null, .null, .null, .int 0])), (q_1, .inl (cA, 6, .inl (fun _ => 0))), (q_2, .inl (cA, 6, .inl (fun _ => 0))), (q_4, .inl (cA, 30, .inl (fun _ => 0))), (q_6, .inl (cA, 160, .inl (fun _ => 0))), (q_8, .inl (cA, 1200, .inl (fun _ => 0))), (q_10, .inl (cA, 24, .inl (fun _ => 0))), (q_12, .inl (cA, 30, .inl (fun _ => 0))), (q_14, .inl (cA, 3, .inl (fun _ => 0))), (q_16, .inl (cA, 4, .inl (f_18))), (q_19, .inl (cA, 4, .inl (fun _ => 0))), (q_21, .inl (cA, 160, .inl (fun _ => 0))), (q_23, .inl (cA, 29, .inl (upd (upd (upd f_29 26 49) 27 32) 28 59))), (q_30, .inl (cA, 96, .inl (upd (upd f_32 5 32) 6 32)))] A s s.heap H _ := hW'
  clear hW'
  show W p l e _ s m ar below meth c _ _ _ _ Q (F0 m 325 ls _)
  refine lv_dup hx hb dX8_init_325 rfl ?_
  refine lv_bipush (v := 7) hx hb dX8_init_326 (by decide) ?_
  refine lv_bipush (v := 32) hx hb dX8_init_328 (by decide) ?_
  refine lw_iast (t0 := 0) F hW 13 rfl rfl (vp_in_nI (n := 7) (by decide) (by decide)) dX8_init_330 (fun H locs hW' => ?_)
  clear hW
  have hW : LWd D [(cA, .int)] [(h0, .inr (8, [.int 0, .ref q_1, .ref q_2, .ref q_4, .int 0, .ref q_6, .int 0, .ref q_8, .ref q_10, .int 0, .int 0, .int 0, .ref q_12, .ref q_14, .ref q_16, .ref q_19, .ref q_21, .ref q_23, .int 0, .int 0, .int 0, .int 0, .null, .null, .int 0, .int 0, .int 0, .null, .null, .null, .int 0])), (q_1, .inl (cA, 6, .inl (fun _ => 0))), (q_2, .inl (cA, 6, .inl (fun _ => 0))), (q_4, .inl (cA, 30, .inl (fun _ => 0))), (q_6, .inl (cA, 160, .inl (fun _ => 0))), (q_8, .inl (cA, 1200, .inl (fun _ => 0))), (q_10, .inl (cA, 24, .inl (fun _ => 0))), (q_12, .inl (cA, 30, .inl (fun _ => 0))), (q_14, .inl (cA, 3, .inl (fun _ => 0))), (q_16, .inl (cA, 4, .inl (f_18))), (q_19, .inl (cA, 4, .inl (fun _ => 0))), (q_21, .inl (cA, 160, .inl (fun _ => 0))), (q_23, .inl (cA, 29, .inl (upd (upd (upd f_29 26 49) 27 32) 28 59))), (q_30, .inl (cA, 96, .inl (upd (upd (upd f_32 5 32) 6 32) 7 32)))] A s s.heap H _ := hW'
  clear hW'
  show W p l e _ s m ar below meth c _ _ _ _ Q (F0 m 331 ls _)
  refine lv_dup hx hb dX8_init_331 rfl ?_
  refine lv_bipush (v := 8) hx hb dX8_init_332 (by decide) ?_
  refine lv_bipush (v := 101) hx hb dX8_init_334 (by decide) ?_
  refine lw_iast (t0 := 0) F hW 13 rfl rfl (vp_in_nI (n := 8) (by decide) (by decide)) dX8_init_336 (fun H locs hW' => ?_)
  clear hW
  have hW : LWd D [(cA, .int)] [(h0, .inr (8, [.int 0, .ref q_1, .ref q_2, .ref q_4, .int 0, .ref q_6, .int 0, .ref q_8, .ref q_10, .int 0, .int 0, .int 0, .ref q_12, .ref q_14, .ref q_16, .ref q_19, .ref q_21, .ref q_23, .int 0, .int 0, .int 0, .int 0, .null, .null, .int 0, .int 0, .int 0, .null, .null, .null, .int 0])), (q_1, .inl (cA, 6, .inl (fun _ => 0))), (q_2, .inl (cA, 6, .inl (fun _ => 0))), (q_4, .inl (cA, 30, .inl (fun _ => 0))), (q_6, .inl (cA, 160, .inl (fun _ => 0))), (q_8, .inl (cA, 1200, .inl (fun _ => 0))), (q_10, .inl (cA, 24, .inl (fun _ => 0))), (q_12, .inl (cA, 30, .inl (fun _ => 0))), (q_14, .inl (cA, 3, .inl (fun _ => 0))), (q_16, .inl (cA, 4, .inl (f_18))), (q_19, .inl (cA, 4, .inl (fun _ => 0))), (q_21, .inl (cA, 160, .inl (fun _ => 0))), (q_23, .inl (cA, 29, .inl (upd (upd (upd f_29 26 49) 27 32) 28 59))), (q_30, .inl (cA, 96, .inl (upd (upd (upd (upd f_32 5 32) 6 32) 7 32) 8 101)))] A s s.heap H _ := hW'
  clear hW'
  show W p l e _ s m ar below meth c _ _ _ _ Q (F0 m 337 ls _)
  refine lv_dup hx hb dX8_init_337 rfl ?_
  refine lv_bipush (v := 9) hx hb dX8_init_338 (by decide) ?_
  refine lv_bipush (v := 97) hx hb dX8_init_340 (by decide) ?_
  refine lw_iast (t0 := 0) F hW 13 rfl rfl (vp_in_nI (n := 9) (by decide) (by decide)) dX8_init_342 (fun H locs hW' => ?_)
  clear hW
  have hW : LWd D [(cA, .int)] [(h0, .inr (8, [.int 0, .ref q_1, .ref q_2, .ref q_4, .int 0, .ref q_6, .int 0, .ref q_8, .ref q_10, .int 0, .int 0, .int 0, .ref q_12, .ref q_14, .ref q_16, .ref q_19, .ref q_21, .ref q_23, .int 0, .int 0, .int 0, .int 0, .null, .null, .int 0, .int 0, .int 0, .null, .null, .null, .int 0])), (q_1, .inl (cA, 6, .inl (fun _ => 0))), (q_2, .inl (cA, 6, .inl (fun _ => 0))), (q_4, .inl (cA, 30, .inl (fun _ => 0))), (q_6, .inl (cA, 160, .inl (fun _ => 0))), (q_8, .inl (cA, 1200, .inl (fun _ => 0))), (q_10, .inl (cA, 24, .inl (fun _ => 0))), (q_12, .inl (cA, 30, .inl (fun _ => 0))), (q_14, .inl (cA, 3, .inl (fun _ => 0))), (q_16, .inl (cA, 4, .inl (f_18))), (q_19, .inl (cA, 4, .inl (fun _ => 0))), (q_21, .inl (cA, 160, .inl (fun _ => 0))), (q_23, .inl (cA, 29, .inl (upd (upd (upd f_29 26 49) 27 32) 28 59))), (q_30, .inl (cA, 96, .inl (upd (upd (upd (upd (upd f_32 5 32) 6 32) 7 32) 8 101) 9 97)))] A s s.heap H _ := hW'
  clear hW'
  show W p l e _ s m ar below meth c _ _ _ _ Q (F0 m 343 ls _)
  refine lv_dup hx hb dX8_init_343 rfl ?_
  refine lv_bipush (v := 10) hx hb dX8_init_344 (by decide) ?_
  refine lv_bipush (v := 116) hx hb dX8_init_346 (by decide) ?_
  refine lw_iast (t0 := 0) F hW 13 rfl rfl (vp_in_nI (n := 10) (by decide) (by decide)) dX8_init_348 (fun H locs hW' => ?_)
  clear hW
  have hW : LWd D [(cA, .int)] [(h0, .inr (8, [.int 0, .ref q_1, .ref q_2, .ref q_4, .int 0, .ref q_6, .int 0, .ref q_8, .ref q_10, .int 0, .int 0, .int 0, .ref q_12, .ref q_14, .ref q_16, .ref q_19, .ref q_21, .ref q_23, .int 0, .int 0, .int 0, .int 0, .null, .null, .int 0, .int 0, .int 0, .null, .null, .null, .int 0])), (q_1, .inl (cA, 6, .inl (fun _ => 0))), (q_2, .inl (cA, 6, .inl (fun _ => 0))), (q_4, .inl (cA, 30, .inl (fun _ => 0))), (q_6, .inl (cA, 160, .inl (fun _ => 0))), (q_8, .inl (cA, 1200, .inl (fun _ => 0))), (q_10, .inl (cA, 24, .inl (fun _ => 0))), (q_12, .inl (cA, 30, .inl (fun _ => 0))), (q_14, .inl (cA, 3, .inl (fun _ => 0))), (q_16, .inl (cA, 4, .inl (f_18))), (q_19, .inl (cA, 4, .inl (fun _ => 0))), (q_21, .inl (cA, 160, .inl (fun _ => 0))), (q_23, .inl (cA, 29, .inl (upd (upd (upd f_29 26 49) 27 32) 28 59))), (q_30, .inl (cA, 96, .inl (upd (upd (upd (upd (upd (upd f_32 5 32) 6 32) 7 32) 8 101) 9 97) 10 116)))] A s s.heap H _ := hW'
  clear hW'
  obtain ⟨f_33, ef_33⟩ : ∃ z : Nat → Int32, z = upd (upd (upd (upd (upd (upd f_32 5 32) 6 32) 7 32) 8 101) 9 97) 10 116 := ⟨_, rfl⟩
  rw [← ef_33] at hW
  have hW2 : LWd D [(cA, .int)] [(h0, .inr (8, [.int 0, .ref q_1, .ref q_2, .ref q_4, .int 0, .ref q_6, .int 0, .ref q_8, .ref q_10, .int 0, .int 0, .int 0, .ref q_12, .ref q_14, .ref q_16, .ref q_19, .ref q_21, .ref q_23, .int 0, .int 0, .int 0, .int 0, .null, .null, .int 0, .int 0, .int 0, .null, .null, .null, .int 0])), (q_1, .inl (cA, 6, .inl (fun _ => 0))), (q_2, .inl (cA, 6, .inl (fun _ => 0))), (q_4, .inl (cA, 30, .inl (fun _ => 0))), (q_6, .inl (cA, 160, .inl (fun _ => 0))), (q_8, .inl (cA, 1200, .inl (fun _ => 0))), (q_10, .inl (cA, 24, .inl (fun _ => 0))), (q_12, .inl (cA, 30, .inl (fun _ => 0))), (q_14, .inl (cA, 3, .inl (fun _ => 0))), (q_16, .inl (cA, 4, .inl (f_18))), (q_19, .inl (cA, 4, .inl (fun _ => 0))), (q_21, .inl (cA, 160, .inl (fun _ => 0))), (q_23, .inl (cA, 29, .inl (upd (upd (upd f_29 26 49) 27 32) 28 59))), (q_30, .inl (cA, 96, .inl (f_33)))] A s s.heap H _ := hW
  clear hW
  have hW := hW2
  clear hW2
  show W p l e _ s m ar below meth c _ _ _ _ Q (F0 m 349 ls _)
  refine lv_dup hx hb dX8_init_349 rfl ?_
  refine lv_bipush (v := 11) hx hb dX8_init_350 (by decide) ?_
  refine lv_bipush (v := 115) hx hb dX8_init_352 (by decide) ?_
  refine lw_iast (t0 := 0) F hW 13 rfl rfl (vp_in_nI (n := 11) (by decide) (by decide)) dX8_init_354 (fun H locs hW' => ?_)
  clear hW
  have hW : LWd D [(cA, .int)] [(h0, .inr (8, [.int 0, .ref q_1, .ref q_2, .ref q_4, .int 0, .ref q_6, .int 0, .ref q_8, .ref q_10, .int 0, .int 0, .int 0, .ref q_12, .ref q_14, .ref q_16, .ref q_19, .ref q_21, .ref q_23, .int 0, .int 0, .int 0, .int 0, .null, .null, .int 0, .int 0, .int 0, .null, .null, .null, .int 0])), (q_1, .inl (cA, 6, .inl (fun _ => 0))), (q_2, .inl (cA, 6, .inl (fun _ => 0))), (q_4, .inl (cA, 30, .inl (fun _ => 0))), (q_6, .inl (cA, 160, .inl (fun _ => 0))), (q_8, .inl (cA, 1200, .inl (fun _ => 0))), (q_10, .inl (cA, 24, .inl (fun _ => 0))), (q_12, .inl (cA, 30, .inl (fun _ => 0))), (q_14, .inl (cA, 3, .inl (fun _ => 0))), (q_16, .inl (cA, 4, .inl (f_18))), (q_19, .inl (cA, 4, .inl (fun _ => 0))), (q_21, .inl (cA, 160, .inl (fun _ => 0))), (q_23, .inl (cA, 29, .inl (upd (upd (upd f_29 26 49) 27 32) 28 59))), (q_30, .inl (cA, 96, .inl (upd f_33 11 115)))] A s s.heap H _ := hW'
  clear hW'
  show W p l e _ s m ar below meth c _ _ _ _ Q (F0 m 355 ls _)
  refine lv_dup hx hb dX8_init_355 rfl ?_
  refine lv_bipush (v := 12) hx hb dX8_init_356 (by decide) ?_
  refine lv_bipush (v := 32) hx hb dX8_init_358 (by decide) ?_
  refine lw_iast (t0 := 0) F hW 13 rfl rfl (vp_in_nI (n := 12) (by decide) (by decide)) dX8_init_360 (fun H locs hW' => ?_)
  clear hW
  have hW : LWd D [(cA, .int)] [(h0, .inr (8, [.int 0, .ref q_1, .ref q_2, .ref q_4, .int 0, .ref q_6, .int 0, .ref q_8, .ref q_10, .int 0, .int 0, .int 0, .ref q_12, .ref q_14, .ref q_16, .ref q_19, .ref q_21, .ref q_23, .int 0, .int 0, .int 0, .int 0, .null, .null, .int 0, .int 0, .int 0, .null, .null, .null, .int 0])), (q_1, .inl (cA, 6, .inl (fun _ => 0))), (q_2, .inl (cA, 6, .inl (fun _ => 0))), (q_4, .inl (cA, 30, .inl (fun _ => 0))), (q_6, .inl (cA, 160, .inl (fun _ => 0))), (q_8, .inl (cA, 1200, .inl (fun _ => 0))), (q_10, .inl (cA, 24, .inl (fun _ => 0))), (q_12, .inl (cA, 30, .inl (fun _ => 0))), (q_14, .inl (cA, 3, .inl (fun _ => 0))), (q_16, .inl (cA, 4, .inl (f_18))), (q_19, .inl (cA, 4, .inl (fun _ => 0))), (q_21, .inl (cA, 160, .inl (fun _ => 0))), (q_23, .inl (cA, 29, .inl (upd (upd (upd f_29 26 49) 27 32) 28 59))), (q_30, .inl (cA, 96, .inl (upd (upd f_33 11 115) 12 32)))] A s s.heap H _ := hW'
  clear hW'
  show W p l e _ s m ar below meth c _ _ _ _ Q (F0 m 361 ls _)
  refine lv_dup hx hb dX8_init_361 rfl ?_
  refine lv_bipush (v := 13) hx hb dX8_init_362 (by decide) ?_
  refine lv_bipush (v := 32) hx hb dX8_init_364 (by decide) ?_
  refine lw_iast (t0 := 0) F hW 13 rfl rfl (vp_in_nI (n := 13) (by decide) (by decide)) dX8_init_366 (fun H locs hW' => ?_)
  clear hW
  have hW : LWd D [(cA, .int)] [(h0, .inr (8, [.int 0, .ref q_1, .ref q_2, .ref q_4, .int 0, .ref q_6, .int 0, .ref q_8, .ref q_10, .int 0, .int 0, .int 0, .ref q_12, .ref q_14, .ref q_16, .ref q_19, .ref q_21, .ref q_23, .int 0, .int 0, .int 0, .int 0, .null, .null, .int 0, .int 0, .int 0, .null, .null, .null, .int 0])), (q_1, .inl (cA, 6, .inl (fun _ => 0))), (q_2, .inl (cA, 6, .inl (fun _ => 0))), (q_4, .inl (cA, 30, .inl (fun _ => 0))), (q_6, .inl (cA, 160, .inl (fun _ => 0))), (q_8, .inl (cA, 1200, .inl (fun _ => 0))), (q_10, .inl (cA, 24, .inl (fun _ => 0))), (q_12, .inl (cA, 30, .inl (fun _ => 0))), (q_14, .inl (cA, 3, .inl (fun _ => 0))), (q_16, .inl (cA, 4, .inl (f_18))), (q_19, .inl (cA, 4, .inl (fun _ => 0))), (q_21, .inl (cA, 160, .inl (fun _ => 0))), (q_23, .inl (cA, 29, .inl (upd (upd (upd f_29 26 49) 27 32) 28 59))), (q_30, .inl (cA, 96, .inl (upd (upd (upd f_33 11 115) 12 32) 13 32)))] A s s.heap H _ := hW'
  clear hW'
  show W p l e _ s m ar below meth c _ _ _ _ Q (F0 m 367 ls _)
  refine lv_dup hx hb dX8_init_367 rfl ?_
  refine lv_bipush (v := 14) hx hb dX8_init_368 (by decide) ?_
  refine lv_bipush (v := 32) hx hb dX8_init_370 (by decide) ?_
  refine lw_iast (t0 := 0) F hW 13 rfl rfl (vp_in_nI (n := 14) (by decide) (by decide)) dX8_init_372 (fun H locs hW' => ?_)
  clear hW
  have hW : LWd D [(cA, .int)] [(h0, .inr (8, [.int 0, .ref q_1, .ref q_2, .ref q_4, .int 0, .ref q_6, .int 0, .ref q_8, .ref q_10, .int 0, .int 0, .int 0, .ref q_12, .ref q_14, .ref q_16, .ref q_19, .ref q_21, .ref q_23, .int 0, .int 0, .int 0, .int 0, .null, .null, .int 0, .int 0, .int 0, .null, .null, .null, .int 0])), (q_1, .inl (cA, 6, .inl (fun _ => 0))), (q_2, .inl (cA, 6, .inl (fun _ => 0))), (q_4, .inl (cA, 30, .inl (fun _ => 0))), (q_6, .inl (cA, 160, .inl (fun _ => 0))), (q_8, .inl (cA, 1200, .inl (fun _ => 0))), (q_10, .inl (cA, 24, .inl (fun _ => 0))), (q_12, .inl (cA, 30, .inl (fun _ => 0))), (q_14, .inl (cA, 3, .inl (fun _ => 0))), (q_16, .inl (cA, 4, .inl (f_18))), (q_19, .inl (cA, 4, .inl (fun _ => 0))), (q_21, .inl (cA, 160, .inl (fun _ => 0))), (q_23, .inl (cA, 29, .inl (upd (upd (upd f_29 26 49) 27 32) 28 59))), (q_30, .inl (cA, 96, .inl (upd (upd (upd (upd f_33 11 115) 12 32) 13 32) 14 32)))] A s s.heap H _ := hW'
  clear hW'
  show W p l e _ s m ar below meth c _ _ _ _ Q (F0 m 373 ls _)
  refine lv_dup hx hb dX8_init_373 rfl ?_
  refine lv_bipush (v := 15) hx hb dX8_init_374 (by decide) ?_
  refine lv_bipush (v := 32) hx hb dX8_init_376 (by decide) ?_
  refine lw_iast (t0 := 0) F hW 13 rfl rfl (vp_in_nI (n := 15) (by decide) (by decide)) dX8_init_378 (fun H locs hW' => ?_)
  clear hW
  have hW : LWd D [(cA, .int)] [(h0, .inr (8, [.int 0, .ref q_1, .ref q_2, .ref q_4, .int 0, .ref q_6, .int 0, .ref q_8, .ref q_10, .int 0, .int 0, .int 0, .ref q_12, .ref q_14, .ref q_16, .ref q_19, .ref q_21, .ref q_23, .int 0, .int 0, .int 0, .int 0, .null, .null, .int 0, .int 0, .int 0, .null, .null, .null, .int 0])), (q_1, .inl (cA, 6, .inl (fun _ => 0))), (q_2, .inl (cA, 6, .inl (fun _ => 0))), (q_4, .inl (cA, 30, .inl (fun _ => 0))), (q_6, .inl (cA, 160, .inl (fun _ => 0))), (q_8, .inl (cA, 1200, .inl (fun _ => 0))), (q_10, .inl (cA, 24, .inl (fun _ => 0))), (q_12, .inl (cA, 30, .inl (fun _ => 0))), (q_14, .inl (cA, 3, .inl (fun _ => 0))), (q_16, .inl (cA, 4, .inl (f_18))), (q_19, .inl (cA, 4, .inl (fun _ => 0))), (q_21, .inl (cA, 160, .inl (fun _ => 0))), (q_23, .inl (cA, 29, .inl (upd (upd (upd f_29 26 49) 27 32) 28 59))), (q_30, .inl (cA, 96, .inl (upd (upd (upd (upd (upd f_33 11 115) 12 32) 13 32) 14 32) 15 32)))] A s s.heap H _ := hW'
  clear hW'
  obtain ⟨f_34, ef_34⟩ : ∃ z : Nat → Int32, z = upd (upd (upd (upd (upd f_33 11 115) 12 32) 13 32) 14 32) 15 32 := ⟨_, rfl⟩
  rw [← ef_34] at hW
  have hW2 : LWd D [(cA, .int)] [(h0, .inr (8, [.int 0, .ref q_1, .ref q_2, .ref q_4, .int 0, .ref q_6, .int 0, .ref q_8, .ref q_10, .int 0, .int 0, .int 0, .ref q_12, .ref q_14, .ref q_16, .ref q_19, .ref q_21, .ref q_23, .int 0, .int 0, .int 0, .int 0, .null, .null, .int 0, .int 0, .int 0, .null, .null, .null, .int 0])), (q_1, .inl (cA, 6, .inl (fun _ => 0))), (q_2, .inl (cA, 6, .inl (fun _ => 0))), (q_4, .inl (cA, 30, .inl (fun _ => 0))), (q_6, .inl (cA, 160, .inl (fun _ => 0))), (q_8, .inl (cA, 1200, .inl (fun _ => 0))), (q_10, .inl (cA, 24, .inl (fun _ => 0))), (q_12, .inl (cA, 30, .inl (fun _ => 0))), (q_14, .inl (cA, 3, .inl (fun _ => 0))), (q_16, .inl (cA, 4, .inl (f_18))), (q_19, .inl (cA, 4, .inl (fun _ => 0))), (q_21, .inl (cA, 160, .inl (fun _ => 0))), (q_23, .inl (cA, 29, .inl (upd (upd (upd f_29 26 49) 27 32) 28 59))), (q_30, .inl (cA, 96, .inl (f_34)))] A s s.heap H _ := hW
  clear hW
  have hW := hW2
  clear hW2
  show W p l e _ s m ar below meth c _ _ _ _ Q (F0 m 379 ls _)
  refine lv_dup hx hb dX8_init_379 rfl ?_
  refine lv_bipush (v := 16) hx hb dX8_init_380 (by decide) ?_
  refine lv_bipush (v := 116) hx hb dX8_init_382 (by decide) ?_
  refine lw_iast (t0 := 0) F hW 13 rfl rfl (vp_in_nI (n := 16) (by decide) (by decide)) dX8_init_384 (fun H locs hW' => ?_)
  clear hW
  have hW : LWd D [(cA, .int)] [(h0, .inr (8, [.int 0, .ref q_1, .ref q_2, .ref q_4, .int 0, .ref q_6, .int 0, .ref q_8, .ref q_10, .int 0, .int 0, .int 0, .ref q_12, .ref q_14, .ref q_16, .ref q_19, .ref q_21, .ref q_23, .int 0, .int 0, .int 0, .int 0, .null, .null, .int 0, .int 0, .int 0, .null, .null, .null, .int 0])), (q_1, .inl (cA, 6, .inl (fun _ => 0))), (q_2, .inl (cA, 6, .inl (fun _ => 0))), (q_4, .inl (cA, 30, .inl (fun _ => 0))), (q_6, .inl (cA, 160, .inl (fun _ => 0))), (q_8, .inl (cA, 1200, .inl (fun _ => 0))), (q_10, .inl (cA, 24, .inl (fun _ => 0))), (q_12, .inl (cA, 30, .inl (fun _ => 0))), (q_14, .inl (cA, 3, .inl (fun _ => 0))), (q_16, .inl (cA, 4, .inl (f_18))), (q_19, .inl (cA, 4, .inl (fun _ => 0))), (q_21, .inl (cA, 160, .inl (fun _ => 0))), (q_23, .inl (cA, 29, .inl (upd (upd (upd f_29 26 49) 27 32) 28 59))), (q_30, .inl (cA, 96, .inl (upd f_34 16 116)))] A s s.heap H _ := hW'
  clear hW'
  show W p l e _ s m ar below meth c _ _ _ _ Q (F0 m 385 ls _)
  refine lv_dup hx hb dX8_init_385 rfl ?_
  refine lv_bipush (v := 17) hx hb dX8_init_386 (by decide) ?_
  refine lv_bipush (v := 101) hx hb dX8_init_388 (by decide) ?_
  refine lw_iast (t0 := 0) F hW 13 rfl rfl (vp_in_nI (n := 17) (by decide) (by decide)) dX8_init_390 (fun H locs hW' => ?_)
  clear hW
  have hW : LWd D [(cA, .int)] [(h0, .inr (8, [.int 0, .ref q_1, .ref q_2, .ref q_4, .int 0, .ref q_6, .int 0, .ref q_8, .ref q_10, .int 0, .int 0, .int 0, .ref q_12, .ref q_14, .ref q_16, .ref q_19, .ref q_21, .ref q_23, .int 0, .int 0, .int 0, .int 0, .null, .null, .int 0, .int 0, .int 0, .null, .null, .null, .int 0])), (q_1, .inl (cA, 6, .inl (fun _ => 0))), (q_2, .inl (cA, 6, .inl (fun _ => 0))), (q_4, .inl (cA, 30, .inl (fun _ => 0))), (q_6, .inl (cA, 160, .inl (fun _ => 0))), (q_8, .inl (cA, 1200, .inl (fun _ => 0))), (q_10, .inl (cA, 24, .inl (fun _ => 0))), (q_12, .inl (cA, 30, .inl (fun _ => 0))), (q_14, .inl (cA, 3, .inl (fun _ => 0))), (q_16, .inl (cA, 4, .inl (f_18))), (q_19, .inl (cA, 4, .inl (fun _ => 0))), (q_21, .inl (cA, 160, .inl (fun _ => 0))), (q_23, .inl (cA, 29, .inl (upd (upd (upd f_29 26 49) 27 32) 28 59))), (q_30, .inl (cA, 96, .inl (upd (upd f_34 16 116) 17 101)))] A s s.heap H _ := hW'
  clear hW'
  show W p l e _ s m ar below meth c _ _ _ _ Q (F0 m 391 ls _)
  refine lv_dup hx hb dX8_init_391 rfl ?_
  refine lv_bipush (v := 18) hx hb dX8_init_392 (by decide) ?_
  refine lv_bipush (v := 108) hx hb dX8_init_394 (by decide) ?_
  refine lw_iast (t0 := 0) F hW 13 rfl rfl (vp_in_nI (n := 18) (by decide) (by decide)) dX8_init_396 (fun H locs hW' => ?_)
  clear hW
  have hW : LWd D [(cA, .int)] [(h0, .inr (8, [.int 0, .ref q_1, .ref q_2, .ref q_4, .int 0, .ref q_6, .int 0, .ref q_8, .ref q_10, .int 0, .int 0, .int 0, .ref q_12, .ref q_14, .ref q_16, .ref q_19, .ref q_21, .ref q_23, .int 0, .int 0, .int 0, .int 0, .null, .null, .int 0, .int 0, .int 0, .null, .null, .null, .int 0])), (q_1, .inl (cA, 6, .inl (fun _ => 0))), (q_2, .inl (cA, 6, .inl (fun _ => 0))), (q_4, .inl (cA, 30, .inl (fun _ => 0))), (q_6, .inl (cA, 160, .inl (fun _ => 0))), (q_8, .inl (cA, 1200, .inl (fun _ => 0))), (q_10, .inl (cA, 24, .inl (fun _ => 0))), (q_12, .inl (cA, 30, .inl (fun _ => 0))), (q_14, .inl (cA, 3, .inl (fun _ => 0))), (q_16, .inl (cA, 4, .inl (f_18))), (q_19, .inl (cA, 4, .inl (fun _ => 0))), (q_21, .inl (cA, 160, .inl (fun _ => 0))), (q_23, .inl (cA, 29, .inl (upd (upd (upd f_29 26 49) 27 32) 28 59))), (q_30, .inl (cA, 96, .inl (upd (upd (upd f_34 16 116) 17 101) 18 108)))] A s s.heap H _ := hW'
  clear hW'
  show W p l e _ s m ar below meth c _ _ _ _ Q (F0 m 397 ls _)
  refine lv_dup hx hb dX8_init_397 rfl ?_
  refine lv_bipush (v := 19) hx hb dX8_init_398 (by decide) ?_
  refine lv_bipush (v := 108) hx hb dX8_init_400 (by decide) ?_
  refine lw_iast (t0 := 0) F hW 13 rfl rfl (vp_in_nI (n := 19) (by decide) (by decide)) dX8_init_402 (fun H locs hW' => ?_)
  clear hW
  have hW : LWd D [(cA, .int)] [(h0, .inr (8, [.int 0, .ref q_1, .ref q_2, .ref q_4, .int 0, .ref q_6, .int 0, .ref q_8, .ref q_10, .int 0, .int 0, .int 0, .ref q_12, .ref q_14, .ref q_16, .ref q_19, .ref q_21, .ref q_23, .int 0, .int 0, .int 0, .int 0, .null, .null, .int 0, .int 0, .int 0, .null, .null, .null, .int 0])), (q_1, .inl (cA, 6, .inl (fun _ => 0))), (q_2, .inl (cA, 6, .inl (fun _ => 0))), (q_4, .inl (cA, 30, .inl (fun _ => 0))), (q_6, .inl (cA, 160, .inl (fun _ => 0))), (q_8, .inl (cA, 1200, .inl (fun _ => 0))), (q_10, .inl (cA, 24, .inl (fun _ => 0))), (q_12, .inl (cA, 30, .inl (fun _ => 0))), (q_14, .inl (cA, 3, .inl (fun _ => 0))), (q_16, .inl (cA, 4, .inl (f_18))), (q_19, .inl (cA, 4, .inl (fun _ => 0))), (q_21, .inl (cA, 160, .inl (fun _ => 0))), (q_23, .inl (cA, 29, .inl (upd (upd (upd f_29 26 49) 27 32) 28 59))), (q_30, .inl (cA, 96, .inl (upd (upd (upd (upd f_34 16 116) 17 101) 18 108) 19 108)))] A s s.heap H _ := hW'
  clear hW'
  show W p l e _ s m ar below meth c _ _ _ _ Q (F0 m 403 ls _)
  refine lv_dup hx hb dX8_init_403 rfl ?_
  refine lv_bipush (v := 20) hx hb dX8_init_404 (by decide) ?_
  refine lv_bipush (v := 115) hx hb dX8_init_406 (by decide) ?_
  refine lw_iast (t0 := 0) F hW 13 rfl rfl (vp_in_nI (n := 20) (by decide) (by decide)) dX8_init_408 (fun H locs hW' => ?_)
  clear hW
  have hW : LWd D [(cA, .int)] [(h0, .inr (8, [.int 0, .ref q_1, .ref q_2, .ref q_4, .int 0, .ref q_6, .int 0, .ref q_8, .ref q_10, .int 0, .int 0, .int 0, .ref q_12, .ref q_14, .ref q_16, .ref q_19, .ref q_21, .ref q_23, .int 0, .int 0, .int 0, .int 0, .null, .null, .int 0, .int 0, .int 0, .null, .null, .null, .int 0])), (q_1, .inl (cA, 6, .inl (fun _ => 0))), (q_2, .inl (cA, 6, .inl (fun _ => 0))), (q_4, .inl (cA, 30, .inl (fun _ => 0))), (q_6, .inl (cA, 160, .inl (fun _ => 0))), (q_8, .inl (cA, 1200, .inl (fun _ => 0))), (q_10, .inl (cA, 24, .inl (fun _ => 0))), (q_12, .inl (cA, 30, .inl (fun _ => 0))), (q_14, .inl (cA, 3, .inl (fun _ => 0))), (q_16, .inl (cA, 4, .inl (f_18))), (q_19, .inl (cA, 4, .inl (fun _ => 0))), (q_21, .inl (cA, 160, .inl (fun _ => 0))), (q_23, .inl (cA, 29, .inl (upd (upd (upd f_29 26 49) 27 32) 28 59))), (q_30, .inl (cA, 96, .inl (upd (upd (upd (upd (upd f_34 16 116) 17 101) 18 108) 19 108) 20 115)))] A s s.heap H _ := hW'
  clear hW'
  obtain ⟨f_35, ef_35⟩ : ∃ z : Nat → Int32, z = upd (upd (upd (upd (upd f_34 16 116) 17 101) 18 108) 19 108) 20 115 := ⟨_, rfl⟩
  rw [← ef_35] at hW
  have hW2 : LWd D [(cA, .int)] [(h0, .inr (8, [.int 0, .ref q_1, .ref q_2, .ref q_4, .int 0, .ref q_6, .int 0, .ref q_8, .ref q_10, .int 0, .int 0, .int 0, .ref q_12, .ref q_14, .ref q_16, .ref q_19, .ref q_21, .ref q_23, .int 0, .int 0, .int 0, .int 0, .null, .null, .int 0, .int 0, .int 0, .null, .null, .null, .int 0])), (q_1, .inl (cA, 6, .inl (fun _ => 0))), (q_2, .inl (cA, 6, .inl (fun _ => 0))), (q_4, .inl (cA, 30, .inl (fun _ => 0))), (q_6, .inl (cA, 160, .inl (fun _ => 0))), (q_8, .inl (cA, 1200, .inl (fun _ => 0))), (q_10, .inl (cA, 24, .inl (fun _ => 0))), (q_12, .inl (cA, 30, .inl (fun _ => 0))), (q_14, .inl (cA, 3, .inl (fun _ => 0))), (q_16, .inl (cA, 4, .inl (f_18))), (q_19, .inl (cA, 4, .inl (fun _ => 0))), (q_21, .inl (cA, 160, .inl (fun _ => 0))), (q_23, .inl (cA, 29, .inl (upd (upd (upd f_29 26 49) 27 32) 28 59))), (q_30, .inl (cA, 96, .inl (f_35)))] A s s.heap H _ := hW
  clear hW
  have hW := hW2
  clear hW2
  show W p l e _ s m ar below meth c _ _ _ _ Q (F0 m 409 ls _)
  refine lv_dup hx hb dX8_init_409 rfl ?_
  refine lv_bipush (v := 21) hx hb dX8_init_410 (by decide) ?_
  refine lv_bipush (v := 32) hx hb dX8_init_412 (by decide) ?_
  refine lw_iast (t0 := 0) F hW 13 rfl rfl (vp_in_nI (n := 21) (by decide) (by decide)) dX8_init_414 (fun H locs hW' => ?_)
  clear hW
  have hW : LWd D [(cA, .int)] [(h0, .inr (8, [.int 0, .ref q_1, .ref q_2, .ref q_4, .int 0, .ref q_6, .int 0, .ref q_8, .ref q_10, .int 0, .int 0, .int 0, .ref q_12, .ref q_14, .ref q_16, .ref q_19, .ref q_21, .ref q_23, .int 0, .int 0, .int 0, .int 0, .null, .null, .int 0, .int 0, .int 0, .null, .null, .null, .int 0])), (q_1, .inl (cA, 6, .inl (fun _ => 0))), (q_2, .inl (cA, 6, .inl (fun _ => 0))), (q_4, .inl (cA, 30, .inl (fun _ => 0))), (q_6, .inl (cA, 160, .inl (fun _ => 0))), (q_8, .inl (cA, 1200, .inl (fun _ => 0))), (q_10, .inl (cA, 24, .inl (fun _ => 0))), (q_12, .inl (cA, 30, .inl (fun _ => 0))), (q_14, .inl (cA, 3, .inl (fun _ => 0))), (q_16, .inl (cA, 4, .inl (f_18))), (q_19, .inl (cA, 4, .inl (fun _ => 0))), (q_21, .inl (cA, 160, .inl (fun _ => 0))), (q_23, .inl (cA, 29, .inl (upd (upd (upd f_29 26 49) 27 32) 28 59))), (q_30, .inl (cA, 96, .inl (upd f_35 21 32)))] A s s.heap H _ := hW'
  clear hW'
  show W p l e _ s m ar below meth c _ _ _ _ Q (F0 m 415 ls _)
  refine lv_dup hx hb dX8_init_415 rfl ?_
  refine lv_bipush (v := 22) hx hb dX8_init_416 (by decide) ?_
  refine lv_bipush (v := 32) hx hb dX8_init_418 (by decide) ?_
  refine lw_iast (t0 := 0) F hW 13 rfl rfl (vp_in_nI (n := 22) (by decide) (by decide)) dX8_init_420 (fun H locs hW' => ?_)
  clear hW
  have hW : LWd D [(cA, .int)] [(h0, .inr (8, [.int 0, .ref q_1, .ref q_2, .ref q_4, .int 0, .ref q_6, .int 0, .ref q_8, .ref q_10, .int 0, .int 0, .int 0, .ref q_12, .ref q_14, .ref q_16, .ref q_19, .ref q_21, .ref q_23, .int 0, .int 0, .int 0, .int 0, .null, .null, .int 0, .int 0, .int 0, .null, .null, .null, .int 0])), (q_1, .inl (cA, 6, .inl (fun _ => 0))), (q_2, .inl (cA, 6, .inl (fun _ => 0))), (q_4, .inl (cA, 30, .inl (fun _ => 0))), (q_6, .inl (cA, 160, .inl (fun _ => 0))), (q_8, .inl (cA, 1200, .inl (fun _ => 0))), (q_10, .inl (cA, 24, .inl (fun _ => 0))), (q_12, .inl (cA, 30, .inl (fun _ => 0))), (q_14, .inl (cA, 3, .inl (fun _ => 0))), (q_16, .inl (cA, 4, .inl (f_18))), (q_19, .inl (cA, 4, .inl (fun _ => 0))), (q_21, .inl (cA, 160, .inl (fun _ => 0))), (q_23, .inl (cA, 29, .inl (upd (upd (upd f_29 26 49) 27 32) 28 59))), (q_30, .inl (cA, 96, .inl (upd (upd f_35 21 32) 22 32)))] A s s.heap H _ := hW'
  clear hW'
  show W p l e _ s m ar below meth c _ _ _ _ Q (F0 m 421 ls _)
  refine lv_dup hx hb dX8_init_421 rfl ?_
  refine lv_bipush (v := 23) hx hb dX8_init_422 (by decide) ?_
  refine lv_bipush (v := 32) hx hb dX8_init_424 (by decide) ?_
  refine lw_iast (t0 := 0) F hW 13 rfl rfl (vp_in_nI (n := 23) (by decide) (by decide)) dX8_init_426 (fun H locs hW' => ?_)
  clear hW
  have hW : LWd D [(cA, .int)] [(h0, .inr (8, [.int 0, .ref q_1, .ref q_2, .ref q_4, .int 0, .ref q_6, .int 0, .ref q_8, .ref q_10, .int 0, .int 0, .int 0, .ref q_12, .ref q_14, .ref q_16, .ref q_19, .ref q_21, .ref q_23, .int 0, .int 0, .int 0, .int 0, .null, .null, .int 0, .int 0, .int 0, .null, .null, .null, .int 0])), (q_1, .inl (cA, 6, .inl (fun _ => 0))), (q_2, .inl (cA, 6, .inl (fun _ => 0))), (q_4, .inl (cA, 30, .inl (fun _ => 0))), (q_6, .inl (cA, 160, .inl (fun _ => 0))), (q_8, .inl (cA, 1200, .inl (fun _ => 0))), (q_10, .inl (cA, 24, .inl (fun _ => 0))), (q_12, .inl (cA, 30, .inl (fun _ => 0))), (q_14, .inl (cA, 3, .inl (fun _ => 0))), (q_16, .inl (cA, 4, .inl (f_18))), (q_19, .inl (cA, 4, .inl (fun _ => 0))), (q_21, .inl (cA, 160, .inl (fun _ => 0))), (q_23, .inl (cA, 29, .inl (upd (upd (upd f_29 26 49) 27 32) 28 59))), (q_30, .inl (cA, 96, .inl (upd (upd (upd f_35 21 32) 22 32) 23 32)))] A s s.heap H _ := hW'
  clear hW'
  show W p l e _ s m ar below meth c _ _ _ _ Q (F0 m 427 ls _)
  refine lv_dup hx hb dX8_init_427 rfl ?_
  refine lv_bipush (v := 24) hx hb dX8_init_428 (by decide) ?_
  refine lv_bipush (v := 115) hx hb dX8_init_430 (by decide) ?_
  refine lw_iast (t0 := 0) F hW 13 rfl rfl (vp_in_nI (n := 24) (by decide) (by decide)) dX8_init_432 (fun H locs hW' => ?_)
  clear hW
  have hW : LWd D [(cA, .int)] [(h0, .inr (8, [.int 0, .ref q_1, .ref q_2, .ref q_4, .int 0, .ref q_6, .int 0, .ref q_8, .ref q_10, .int 0, .int 0, .int 0, .ref q_12, .ref q_14, .ref q_16, .ref q_19, .ref q_21, .ref q_23, .int 0, .int 0, .int 0, .int 0, .null, .null, .int 0, .int 0, .int 0, .null, .null, .null, .int 0])), (q_1, .inl (cA, 6, .inl (fun _ => 0))), (q_2, .inl (cA, 6, .inl (fun _ => 0))), (q_4, .inl (cA, 30, .inl (fun _ => 0))), (q_6, .inl (cA, 160, .inl (fun _ => 0))), (q_8, .inl (cA, 1200, .inl (fun _ => 0))), (q_10, .inl (cA, 24, .inl (fun _ => 0))), (q_12, .inl (cA, 30, .inl (fun _ => 0))), (q_14, .inl (cA, 3, .inl (fun _ => 0))), (q_16, .inl (cA, 4, .inl (f_18))), (q_19, .inl (cA, 4, .inl (fun _ => 0))), (q_21, .inl (cA, 160, .inl (fun _ => 0))), (q_23, .inl (cA, 29, .inl (upd (upd (upd f_29 26 49) 27 32) 28 59))), (q_30, .inl (cA, 96, .inl (upd (upd (upd (upd f_35 21 32) 22 32) 23 32) 24 115)))] A s s.heap H _ := hW'
  clear hW'
  show W p l e _ s m ar below meth c _ _ _ _ Q (F0 m 433 ls _)
  refine lv_dup hx hb dX8_init_433 rfl ?_
  refine lv_bipush (v := 25) hx hb dX8_init_434 (by decide) ?_
  refine lv_bipush (v := 104) hx hb dX8_init_436 (by decide) ?_
  refine lw_iast (t0 := 0) F hW 13 rfl rfl (vp_in_nI (n := 25) (by decide) (by decide)) dX8_init_438 (fun H locs hW' => ?_)
  clear hW
  have hW : LWd D [(cA, .int)] [(h0, .inr (8, [.int 0, .ref q_1, .ref q_2, .ref q_4, .int 0, .ref q_6, .int 0, .ref q_8, .ref q_10, .int 0, .int 0, .int 0, .ref q_12, .ref q_14, .ref q_16, .ref q_19, .ref q_21, .ref q_23, .int 0, .int 0, .int 0, .int 0, .null, .null, .int 0, .int 0, .int 0, .null, .null, .null, .int 0])), (q_1, .inl (cA, 6, .inl (fun _ => 0))), (q_2, .inl (cA, 6, .inl (fun _ => 0))), (q_4, .inl (cA, 30, .inl (fun _ => 0))), (q_6, .inl (cA, 160, .inl (fun _ => 0))), (q_8, .inl (cA, 1200, .inl (fun _ => 0))), (q_10, .inl (cA, 24, .inl (fun _ => 0))), (q_12, .inl (cA, 30, .inl (fun _ => 0))), (q_14, .inl (cA, 3, .inl (fun _ => 0))), (q_16, .inl (cA, 4, .inl (f_18))), (q_19, .inl (cA, 4, .inl (fun _ => 0))), (q_21, .inl (cA, 160, .inl (fun _ => 0))), (q_23, .inl (cA, 29, .inl (upd (upd (upd f_29 26 49) 27 32) 28 59))), (q_30, .inl (cA, 96, .inl (upd (upd (upd (upd (upd f_35 21 32) 22 32) 23 32) 24 115) 25 104)))] A s s.heap H _ := hW'
  clear hW'
  obtain ⟨f_36, ef_36⟩ : ∃ z : Nat → Int32, z = upd (upd (upd (upd (upd f_35 21 32) 22 32) 23 32) 24 115) 25 104 := ⟨_, rfl⟩
  rw [← ef_36] at hW
  have hW2 : LWd D [(cA, .int)] [(h0, .inr (8, [.int 0, .ref q_1, .ref q_2, .ref q_4, .int 0, .ref q_6, .int 0, .ref q_8, .ref q_10, .int 0, .int 0, .int 0, .ref q_12, .ref q_14, .ref q_16, .ref q_19, .ref q_21, .ref q_23, .int 0, .int 0, .int 0, .int 0, .null, .null, .int 0, .int 0, .int 0, .null, .null, .null, .int 0])), (q_1, .inl (cA, 6, .inl (fun _ => 0))), (q_2, .inl (cA, 6, .inl (fun _ => 0))), (q_4, .inl (cA, 30, .inl (fun _ => 0))), (q_6, .inl (cA, 160, .inl (fun _ => 0))), (q_8, .inl (cA, 1200, .inl (fun _ => 0))), (q_10, .inl (cA, 24, .inl (fun _ => 0))), (q_12, .inl (cA, 30, .inl (fun _ => 0))), (q_14, .inl (cA, 3, .inl (fun _ => 0))), (q_16, .inl (cA, 4, .inl (f_18))), (q_19, .inl (cA, 4, .inl (fun _ => 0))), (q_21, .inl (cA, 160, .inl (fun _ => 0))), (q_23, .inl (cA, 29, .inl (upd (upd (upd f_29 26 49) 27 32) 28 59))), (q_30, .inl (cA, 96, .inl (f_36)))] A s s.heap H _ := hW
  clear hW
  have hW := hW2
  clear hW2
  show W p l e _ s m ar below meth c _ _ _ _ Q (F0 m 439 ls _)
  refine lv_dup hx hb dX8_init_439 rfl ?_
  refine lv_bipush (v := 26) hx hb dX8_init_440 (by decide) ?_
  refine lv_bipush (v := 121) hx hb dX8_init_442 (by decide) ?_
  refine lw_iast (t0 := 0) F hW 13 rfl rfl (vp_in_nI (n := 26) (by decide) (by decide)) dX8_init_444 (fun H locs hW' => ?_)
  clear hW
  have hW : LWd D [(cA, .int)] [(h0, .inr (8, [.int 0, .ref q_1, .ref q_2, .ref q_4, .int 0, .ref q_6, .int 0, .ref q_8, .ref q_10, .int 0, .int 0, .int 0, .ref q_12, .ref q_14, .ref q_16, .ref q_19, .ref q_21, .ref q_23, .int 0, .int 0, .int 0, .int 0, .null, .null, .int 0, .int 0, .int 0, .null, .null, .null, .int 0])), (q_1, .inl (cA, 6, .inl (fun _ => 0))), (q_2, .inl (cA, 6, .inl (fun _ => 0))), (q_4, .inl (cA, 30, .inl (fun _ => 0))), (q_6, .inl (cA, 160, .inl (fun _ => 0))), (q_8, .inl (cA, 1200, .inl (fun _ => 0))), (q_10, .inl (cA, 24, .inl (fun _ => 0))), (q_12, .inl (cA, 30, .inl (fun _ => 0))), (q_14, .inl (cA, 3, .inl (fun _ => 0))), (q_16, .inl (cA, 4, .inl (f_18))), (q_19, .inl (cA, 4, .inl (fun _ => 0))), (q_21, .inl (cA, 160, .inl (fun _ => 0))), (q_23, .inl (cA, 29, .inl (upd (upd (upd f_29 26 49) 27 32) 28 59))), (q_30, .inl (cA, 96, .inl (upd f_36 26 121)))] A s s.heap H _ := hW'
  clear hW'
  show W p l e _ s m ar below meth c _ _ _ _ Q (F0 m 445 ls _)
  refine lv_dup hx hb dX8_init_445 rfl ?_
  refine lv_bipush (v := 27) hx hb dX8_init_446 (by decide) ?_
  refine lv_bipush (v := 32) hx hb dX8_init_448 (by decide) ?_
  refine lw_iast (t0 := 0) F hW 13 rfl rfl (vp_in_nI (n := 27) (by decide) (by decide)) dX8_init_450 (fun H locs hW' => ?_)
  clear hW
  have hW : LWd D [(cA, .int)] [(h0, .inr (8, [.int 0, .ref q_1, .ref q_2, .ref q_4, .int 0, .ref q_6, .int 0, .ref q_8, .ref q_10, .int 0, .int 0, .int 0, .ref q_12, .ref q_14, .ref q_16, .ref q_19, .ref q_21, .ref q_23, .int 0, .int 0, .int 0, .int 0, .null, .null, .int 0, .int 0, .int 0, .null, .null, .null, .int 0])), (q_1, .inl (cA, 6, .inl (fun _ => 0))), (q_2, .inl (cA, 6, .inl (fun _ => 0))), (q_4, .inl (cA, 30, .inl (fun _ => 0))), (q_6, .inl (cA, 160, .inl (fun _ => 0))), (q_8, .inl (cA, 1200, .inl (fun _ => 0))), (q_10, .inl (cA, 24, .inl (fun _ => 0))), (q_12, .inl (cA, 30, .inl (fun _ => 0))), (q_14, .inl (cA, 3, .inl (fun _ => 0))), (q_16, .inl (cA, 4, .inl (f_18))), (q_19, .inl (cA, 4, .inl (fun _ => 0))), (q_21, .inl (cA, 160, .inl (fun _ => 0))), (q_23, .inl (cA, 29, .inl (upd (upd (upd f_29 26 49) 27 32) 28 59))), (q_30, .inl (cA, 96, .inl (upd (upd f_36 26 121) 27 32)))] A s s.heap H _ := hW'
  clear hW'
  show W p l e _ s m ar below meth c _ _ _ _ Q (F0 m 451 ls _)
  refine lv_dup hx hb dX8_init_451 rfl ?_
  refine lv_bipush (v := 28) hx hb dX8_init_452 (by decide) ?_
  refine lv_bipush (v := 32) hx hb dX8_init_454 (by decide) ?_
  refine lw_iast (t0 := 0) F hW 13 rfl rfl (vp_in_nI (n := 28) (by decide) (by decide)) dX8_init_456 (fun H locs hW' => ?_)
  clear hW
  have hW : LWd D [(cA, .int)] [(h0, .inr (8, [.int 0, .ref q_1, .ref q_2, .ref q_4, .int 0, .ref q_6, .int 0, .ref q_8, .ref q_10, .int 0, .int 0, .int 0, .ref q_12, .ref q_14, .ref q_16, .ref q_19, .ref q_21, .ref q_23, .int 0, .int 0, .int 0, .int 0, .null, .null, .int 0, .int 0, .int 0, .null, .null, .null, .int 0])), (q_1, .inl (cA, 6, .inl (fun _ => 0))), (q_2, .inl (cA, 6, .inl (fun _ => 0))), (q_4, .inl (cA, 30, .inl (fun _ => 0))), (q_6, .inl (cA, 160, .inl (fun _ => 0))), (q_8, .inl (cA, 1200, .inl (fun _ => 0))), (q_10, .inl (cA, 24, .inl (fun _ => 0))), (q_12, .inl (cA, 30, .inl (fun _ => 0))), (q_14, .inl (cA, 3, .inl (fun _ => 0))), (q_16, .inl (cA, 4, .inl (f_18))), (q_19, .inl (cA, 4, .inl (fun _ => 0))), (q_21, .inl (cA, 160, .inl (fun _ => 0))), (q_23, .inl (cA, 29, .inl (upd (upd (upd f_29 26 49) 27 32) 28 59))), (q_30, .inl (cA, 96, .inl (upd (upd (upd f_36 26 121) 27 32) 28 32)))] A s s.heap H _ := hW'
  clear hW'
  show W p l e _ s m ar below meth c _ _ _ _ Q (F0 m 457 ls _)
  refine lv_dup hx hb dX8_init_457 rfl ?_
  refine lv_bipush (v := 29) hx hb dX8_init_458 (by decide) ?_
  refine lv_bipush (v := 32) hx hb dX8_init_460 (by decide) ?_
  refine lw_iast (t0 := 0) F hW 13 rfl rfl (vp_in_nI (n := 29) (by decide) (by decide)) dX8_init_462 (fun H locs hW' => ?_)
  clear hW
  have hW : LWd D [(cA, .int)] [(h0, .inr (8, [.int 0, .ref q_1, .ref q_2, .ref q_4, .int 0, .ref q_6, .int 0, .ref q_8, .ref q_10, .int 0, .int 0, .int 0, .ref q_12, .ref q_14, .ref q_16, .ref q_19, .ref q_21, .ref q_23, .int 0, .int 0, .int 0, .int 0, .null, .null, .int 0, .int 0, .int 0, .null, .null, .null, .int 0])), (q_1, .inl (cA, 6, .inl (fun _ => 0))), (q_2, .inl (cA, 6, .inl (fun _ => 0))), (q_4, .inl (cA, 30, .inl (fun _ => 0))), (q_6, .inl (cA, 160, .inl (fun _ => 0))), (q_8, .inl (cA, 1200, .inl (fun _ => 0))), (q_10, .inl (cA, 24, .inl (fun _ => 0))), (q_12, .inl (cA, 30, .inl (fun _ => 0))), (q_14, .inl (cA, 3, .inl (fun _ => 0))), (q_16, .inl (cA, 4, .inl (f_18))), (q_19, .inl (cA, 4, .inl (fun _ => 0))), (q_21, .inl (cA, 160, .inl (fun _ => 0))), (q_23, .inl (cA, 29, .inl (upd (upd (upd f_29 26 49) 27 32) 28 59))), (q_30, .inl (cA, 96, .inl (upd (upd (upd (upd f_36 26 121) 27 32) 28 32) 29 32)))] A s s.heap H _ := hW'
  clear hW'
  show W p l e _ s m ar below meth c _ _ _ _ Q (F0 m 463 ls _)
  refine lv_dup hx hb dX8_init_463 rfl ?_
  refine lv_bipush (v := 30) hx hb dX8_init_464 (by decide) ?_
  refine lv_bipush (v := 32) hx hb dX8_init_466 (by decide) ?_
  refine lw_iast (t0 := 0) F hW 13 rfl rfl (vp_in_nI (n := 30) (by decide) (by decide)) dX8_init_468 (fun H locs hW' => ?_)
  clear hW
  have hW : LWd D [(cA, .int)] [(h0, .inr (8, [.int 0, .ref q_1, .ref q_2, .ref q_4, .int 0, .ref q_6, .int 0, .ref q_8, .ref q_10, .int 0, .int 0, .int 0, .ref q_12, .ref q_14, .ref q_16, .ref q_19, .ref q_21, .ref q_23, .int 0, .int 0, .int 0, .int 0, .null, .null, .int 0, .int 0, .int 0, .null, .null, .null, .int 0])), (q_1, .inl (cA, 6, .inl (fun _ => 0))), (q_2, .inl (cA, 6, .inl (fun _ => 0))), (q_4, .inl (cA, 30, .inl (fun _ => 0))), (q_6, .inl (cA, 160, .inl (fun _ => 0))), (q_8, .inl (cA, 1200, .inl (fun _ => 0))), (q_10, .inl (cA, 24, .inl (fun _ => 0))), (q_12, .inl (cA, 30, .inl (fun _ => 0))), (q_14, .inl (cA, 3, .inl (fun _ => 0))), (q_16, .inl (cA, 4, .inl (f_18))), (q_19, .inl (cA, 4, .inl (fun _ => 0))), (q_21, .inl (cA, 160, .inl (fun _ => 0))), (q_23, .inl (cA, 29, .inl (upd (upd (upd f_29 26 49) 27 32) 28 59))), (q_30, .inl (cA, 96, .inl (upd (upd (upd (upd (upd f_36 26 121) 27 32) 28 32) 29 32) 30 32)))] A s s.heap H _ := hW'
  clear hW'
  obtain ⟨f_37, ef_37⟩ : ∃ z : Nat → Int32, z = upd (upd (upd (upd (upd f_36 26 121) 27 32) 28 32) 29 32) 30 32 := ⟨_, rfl⟩
  rw [← ef_37] at hW
  have hW2 : LWd D [(cA, .int)] [(h0, .inr (8, [.int 0, .ref q_1, .ref q_2, .ref q_4, .int 0, .ref q_6, .int 0, .ref q_8, .ref q_10, .int 0, .int 0, .int 0, .ref q_12, .ref q_14, .ref q_16, .ref q_19, .ref q_21, .ref q_23, .int 0, .int 0, .int 0, .int 0, .null, .null, .int 0, .int 0, .int 0, .null, .null, .null, .int 0])), (q_1, .inl (cA, 6, .inl (fun _ => 0))), (q_2, .inl (cA, 6, .inl (fun _ => 0))), (q_4, .inl (cA, 30, .inl (fun _ => 0))), (q_6, .inl (cA, 160, .inl (fun _ => 0))), (q_8, .inl (cA, 1200, .inl (fun _ => 0))), (q_10, .inl (cA, 24, .inl (fun _ => 0))), (q_12, .inl (cA, 30, .inl (fun _ => 0))), (q_14, .inl (cA, 3, .inl (fun _ => 0))), (q_16, .inl (cA, 4, .inl (f_18))), (q_19, .inl (cA, 4, .inl (fun _ => 0))), (q_21, .inl (cA, 160, .inl (fun _ => 0))), (q_23, .inl (cA, 29, .inl (upd (upd (upd f_29 26 49) 27 32) 28 59))), (q_30, .inl (cA, 96, .inl (f_37)))] A s s.heap H _ := hW
  clear hW
  have hW := hW2
  clear hW2
  show W p l e _ s m ar below meth c _ _ _ _ Q (F0 m 469 ls _)
  refine lv_dup hx hb dX8_init_469 rfl ?_
  refine lv_bipush (v := 31) hx hb dX8_init_470 (by decide) ?_
  refine lv_bipush (v := 32) hx hb dX8_init_472 (by decide) ?_
  refine lw_iast (t0 := 0) F hW 13 rfl rfl (vp_in_nI (n := 31) (by decide) (by decide)) dX8_init_474 (fun H locs hW' => ?_)
  clear hW
  have hW : LWd D [(cA, .int)] [(h0, .inr (8, [.int 0, .ref q_1, .ref q_2, .ref q_4, .int 0, .ref q_6, .int 0, .ref q_8, .ref q_10, .int 0, .int 0, .int 0, .ref q_12, .ref q_14, .ref q_16, .ref q_19, .ref q_21, .ref q_23, .int 0, .int 0, .int 0, .int 0, .null, .null, .int 0, .int 0, .int 0, .null, .null, .null, .int 0])), (q_1, .inl (cA, 6, .inl (fun _ => 0))), (q_2, .inl (cA, 6, .inl (fun _ => 0))), (q_4, .inl (cA, 30, .inl (fun _ => 0))), (q_6, .inl (cA, 160, .inl (fun _ => 0))), (q_8, .inl (cA, 1200, .inl (fun _ => 0))), (q_10, .inl (cA, 24, .inl (fun _ => 0))), (q_12, .inl (cA, 30, .inl (fun _ => 0))), (q_14, .inl (cA, 3, .inl (fun _ => 0))), (q_16, .inl (cA, 4, .inl (f_18))), (q_19, .inl (cA, 4, .inl (fun _ => 0))), (q_21, .inl (cA, 160, .inl (fun _ => 0))), (q_23, .inl (cA, 29, .inl (upd (upd (upd f_29 26 49) 27 32) 28 59))), (q_30, .inl (cA, 96, .inl (upd f_37 31 32)))] A s s.heap H _ := hW'
  clear hW'
  show W p l e _ s m ar below meth c _ _ _ _ Q (F0 m 475 ls _)
  refine lv_dup hx hb dX8_init_475 rfl ?_
  refine lv_bipush (v := 32) hx hb dX8_init_476 (by decide) ?_
  refine lv_bipush (v := 98) hx hb dX8_init_478 (by decide) ?_
  refine lw_iast (t0 := 0) F hW 13 rfl rfl (vp_in_nI (n := 32) (by decide) (by decide)) dX8_init_480 (fun H locs hW' => ?_)
  clear hW
  have hW : LWd D [(cA, .int)] [(h0, .inr (8, [.int 0, .ref q_1, .ref q_2, .ref q_4, .int 0, .ref q_6, .int 0, .ref q_8, .ref q_10, .int 0, .int 0, .int 0, .ref q_12, .ref q_14, .ref q_16, .ref q_19, .ref q_21, .ref q_23, .int 0, .int 0, .int 0, .int 0, .null, .null, .int 0, .int 0, .int 0, .null, .null, .null, .int 0])), (q_1, .inl (cA, 6, .inl (fun _ => 0))), (q_2, .inl (cA, 6, .inl (fun _ => 0))), (q_4, .inl (cA, 30, .inl (fun _ => 0))), (q_6, .inl (cA, 160, .inl (fun _ => 0))), (q_8, .inl (cA, 1200, .inl (fun _ => 0))), (q_10, .inl (cA, 24, .inl (fun _ => 0))), (q_12, .inl (cA, 30, .inl (fun _ => 0))), (q_14, .inl (cA, 3, .inl (fun _ => 0))), (q_16, .inl (cA, 4, .inl (f_18))), (q_19, .inl (cA, 4, .inl (fun _ => 0))), (q_21, .inl (cA, 160, .inl (fun _ => 0))), (q_23, .inl (cA, 29, .inl (upd (upd (upd f_29 26 49) 27 32) 28 59))), (q_30, .inl (cA, 96, .inl (upd (upd f_37 31 32) 32 98)))] A s s.heap H _ := hW'
  clear hW'
  show W p l e _ s m ar below meth c _ _ _ _ Q (F0 m 481 ls _)
  refine lv_dup hx hb dX8_init_481 rfl ?_
  refine lv_bipush (v := 33) hx hb dX8_init_482 (by decide) ?_
  refine lv_bipush (v := 111) hx hb dX8_init_484 (by decide) ?_
  refine lw_iast (t0 := 0) F hW 13 rfl rfl (vp_in_nI (n := 33) (by decide) (by decide)) dX8_init_486 (fun H locs hW' => ?_)
  clear hW
  have hW : LWd D [(cA, .int)] [(h0, .inr (8, [.int 0, .ref q_1, .ref q_2, .ref q_4, .int 0, .ref q_6, .int 0, .ref q_8, .ref q_10, .int 0, .int 0, .int 0, .ref q_12, .ref q_14, .ref q_16, .ref q_19, .ref q_21, .ref q_23, .int 0, .int 0, .int 0, .int 0, .null, .null, .int 0, .int 0, .int 0, .null, .null, .null, .int 0])), (q_1, .inl (cA, 6, .inl (fun _ => 0))), (q_2, .inl (cA, 6, .inl (fun _ => 0))), (q_4, .inl (cA, 30, .inl (fun _ => 0))), (q_6, .inl (cA, 160, .inl (fun _ => 0))), (q_8, .inl (cA, 1200, .inl (fun _ => 0))), (q_10, .inl (cA, 24, .inl (fun _ => 0))), (q_12, .inl (cA, 30, .inl (fun _ => 0))), (q_14, .inl (cA, 3, .inl (fun _ => 0))), (q_16, .inl (cA, 4, .inl (f_18))), (q_19, .inl (cA, 4, .inl (fun _ => 0))), (q_21, .inl (cA, 160, .inl (fun _ => 0))), (q_23, .inl (cA, 29, .inl (upd (upd (upd f_29 26 49) 27 32) 28 59))), (q_30, .inl (cA, 96, .inl (upd (upd (upd f_37 31 32) 32 98) 33 111)))] A s s.heap H _ := hW'
  clear hW'
  show W p l e _ s m ar below meth c _ _ _ _ Q (F0 m 487 ls _)
  refine lv_dup hx hb dX8_init_487 rfl ?_
  refine lv_bipush (v := 34) hx hb dX8_init_488 (by decide) ?_
  refine lv_bipush (v := 114) hx hb dX8_init_490 (by decide) ?_
  refine lw_iast (t0 := 0) F hW 13 rfl rfl (vp_in_nI (n := 34) (by decide) (by decide)) dX8_init_492 (fun H locs hW' => ?_)
  clear hW
  have hW : LWd D [(cA, .int)] [(h0, .inr (8, [.int 0, .ref q_1, .ref q_2, .ref q_4, .int 0, .ref q_6, .int 0, .ref q_8, .ref q_10, .int 0, .int 0, .int 0, .ref q_12, .ref q_14, .ref q_16, .ref q_19, .ref q_21, .ref q_23, .int 0, .int 0, .int 0, .int 0, .null, .null, .int 0, .int 0, .int 0, .null, .null, .null, .int 0])), (q_1, .inl (cA, 6, .inl (fun _ => 0))), (q_2, .inl (cA, 6, .inl (fun _ => 0))), (q_4, .inl (cA, 30, .inl (fun _ => 0))), (q_6, .inl (cA, 160, .inl (fun _ => 0))), (q_8, .inl (cA, 1200, .inl (fun _ => 0))), (q_10, .inl (cA, 24, .inl (fun _ => 0))), (q_12, .inl (cA, 30, .inl (fun _ => 0))), (q_14, .inl (cA, 3, .inl (fun _ => 0))), (q_16, .inl (cA, 4, .inl (f_18))), (q_19, .inl (cA, 4, .inl (fun _ => 0))), (q_21, .inl (cA, 160, .inl (fun _ => 0))), (q_23, .inl (cA, 29, .inl (upd (upd (upd f_29 26 49) 27 32) 28 59))), (q_30, .inl (cA, 96, .inl (upd (upd (upd (upd f_37 31 32) 32 98) 33 111) 34 114)))] A s s.heap H _ := hW'
  clear hW'
  show W p l e _ s m ar below meth c _ _ _ _ Q (F0 m 493 ls _)
  refine lv_dup hx hb dX8_init_493 rfl ?_
  refine lv_bipush (v := 35) hx hb dX8_init_494 (by decide) ?_
  refine lv_bipush (v := 101) hx hb dX8_init_496 (by decide) ?_
  refine lw_iast (t0 := 0) F hW 13 rfl rfl (vp_in_nI (n := 35) (by decide) (by decide)) dX8_init_498 (fun H locs hW' => ?_)
  clear hW
  have hW : LWd D [(cA, .int)] [(h0, .inr (8, [.int 0, .ref q_1, .ref q_2, .ref q_4, .int 0, .ref q_6, .int 0, .ref q_8, .ref q_10, .int 0, .int 0, .int 0, .ref q_12, .ref q_14, .ref q_16, .ref q_19, .ref q_21, .ref q_23, .int 0, .int 0, .int 0, .int 0, .null, .null, .int 0, .int 0, .int 0, .null, .null, .null, .int 0])), (q_1, .inl (cA, 6, .inl (fun _ => 0))), (q_2, .inl (cA, 6, .inl (fun _ => 0))), (q_4, .inl (cA, 30, .inl (fun _ => 0))), (q_6, .inl (cA, 160, .inl (fun _ => 0))), (q_8, .inl (cA, 1200, .inl (fun _ => 0))), (q_10, .inl (cA, 24, .inl (fun _ => 0))), (q_12, .inl (cA, 30, .inl (fun _ => 0))), (q_14, .inl (cA, 3, .inl (fun _ => 0))), (q_16, .inl (cA, 4, .inl (f_18))), (q_19, .inl (cA, 4, .inl (fun _ => 0))), (q_21, .inl (cA, 160, .inl (fun _ => 0))), (q_23, .inl (cA, 29, .inl (upd (upd (upd f_29 26 49) 27 32) 28 59))), (q_30, .inl (cA, 96, .inl (upd (upd (upd (upd (upd f_37 31 32) 32 98) 33 111) 34 114) 35 101)))] A s s.heap H _ := hW'
  clear hW'
  obtain ⟨f_38, ef_38⟩ : ∃ z : Nat → Int32, z = upd (upd (upd (upd (upd f_37 31 32) 32 98) 33 111) 34 114) 35 101 := ⟨_, rfl⟩
  rw [← ef_38] at hW
  have hW2 : LWd D [(cA, .int)] [(h0, .inr (8, [.int 0, .ref q_1, .ref q_2, .ref q_4, .int 0, .ref q_6, .int 0, .ref q_8, .ref q_10, .int 0, .int 0, .int 0, .ref q_12, .ref q_14, .ref q_16, .ref q_19, .ref q_21, .ref q_23, .int 0, .int 0, .int 0, .int 0, .null, .null, .int 0, .int 0, .int 0, .null, .null, .null, .int 0])), (q_1, .inl (cA, 6, .inl (fun _ => 0))), (q_2, .inl (cA, 6, .inl (fun _ => 0))), (q_4, .inl (cA, 30, .inl (fun _ => 0))), (q_6, .inl (cA, 160, .inl (fun _ => 0))), (q_8, .inl (cA, 1200, .inl (fun _ => 0))), (q_10, .inl (cA, 24, .inl (fun _ => 0))), (q_12, .inl (cA, 30, .inl (fun _ => 0))), (q_14, .inl (cA, 3, .inl (fun _ => 0))), (q_16, .inl (cA, 4, .inl (f_18))), (q_19, .inl (cA, 4, .inl (fun _ => 0))), (q_21, .inl (cA, 160, .inl (fun _ => 0))), (q_23, .inl (cA, 29, .inl (upd (upd (upd f_29 26 49) 27 32) 28 59))), (q_30, .inl (cA, 96, .inl (f_38)))] A s s.heap H _ := hW
  clear hW
  have hW := hW2
  clear hW2
  show W p l e _ s m ar below meth c _ _ _ _ Q (F0 m 499 ls _)
  refine lv_dup hx hb dX8_init_499 rfl ?_
  refine lv_bipush (v := 36) hx hb dX8_init_500 (by decide) ?_
  refine lv_bipush (v := 100) hx hb dX8_init_502 (by decide) ?_
  refine lw_iast (t0 := 0) F hW 13 rfl rfl (vp_in_nI (n := 36) (by decide) (by decide)) dX8_init_504 (fun H locs hW' => ?_)
  clear hW
  have hW : LWd D [(cA, .int)] [(h0, .inr (8, [.int 0, .ref q_1, .ref q_2, .ref q_4, .int 0, .ref q_6, .int 0, .ref q_8, .ref q_10, .int 0, .int 0, .int 0, .ref q_12, .ref q_14, .ref q_16, .ref q_19, .ref q_21, .ref q_23, .int 0, .int 0, .int 0, .int 0, .null, .null, .int 0, .int 0, .int 0, .null, .null, .null, .int 0])), (q_1, .inl (cA, 6, .inl (fun _ => 0))), (q_2, .inl (cA, 6, .inl (fun _ => 0))), (q_4, .inl (cA, 30, .inl (fun _ => 0))), (q_6, .inl (cA, 160, .inl (fun _ => 0))), (q_8, .inl (cA, 1200, .inl (fun _ => 0))), (q_10, .inl (cA, 24, .inl (fun _ => 0))), (q_12, .inl (cA, 30, .inl (fun _ => 0))), (q_14, .inl (cA, 3, .inl (fun _ => 0))), (q_16, .inl (cA, 4, .inl (f_18))), (q_19, .inl (cA, 4, .inl (fun _ => 0))), (q_21, .inl (cA, 160, .inl (fun _ => 0))), (q_23, .inl (cA, 29, .inl (upd (upd (upd f_29 26 49) 27 32) 28 59))), (q_30, .inl (cA, 96, .inl (upd f_38 36 100)))] A s s.heap H _ := hW'
  clear hW'
  show W p l e _ s m ar below meth c _ _ _ _ Q (F0 m 505 ls _)
  refine lv_dup hx hb dX8_init_505 rfl ?_
  refine lv_bipush (v := 37) hx hb dX8_init_506 (by decide) ?_
  refine lv_bipush (v := 32) hx hb dX8_init_508 (by decide) ?_
  refine lw_iast (t0 := 0) F hW 13 rfl rfl (vp_in_nI (n := 37) (by decide) (by decide)) dX8_init_510 (fun H locs hW' => ?_)
  clear hW
  have hW : LWd D [(cA, .int)] [(h0, .inr (8, [.int 0, .ref q_1, .ref q_2, .ref q_4, .int 0, .ref q_6, .int 0, .ref q_8, .ref q_10, .int 0, .int 0, .int 0, .ref q_12, .ref q_14, .ref q_16, .ref q_19, .ref q_21, .ref q_23, .int 0, .int 0, .int 0, .int 0, .null, .null, .int 0, .int 0, .int 0, .null, .null, .null, .int 0])), (q_1, .inl (cA, 6, .inl (fun _ => 0))), (q_2, .inl (cA, 6, .inl (fun _ => 0))), (q_4, .inl (cA, 30, .inl (fun _ => 0))), (q_6, .inl (cA, 160, .inl (fun _ => 0))), (q_8, .inl (cA, 1200, .inl (fun _ => 0))), (q_10, .inl (cA, 24, .inl (fun _ => 0))), (q_12, .inl (cA, 30, .inl (fun _ => 0))), (q_14, .inl (cA, 3, .inl (fun _ => 0))), (q_16, .inl (cA, 4, .inl (f_18))), (q_19, .inl (cA, 4, .inl (fun _ => 0))), (q_21, .inl (cA, 160, .inl (fun _ => 0))), (q_23, .inl (cA, 29, .inl (upd (upd (upd f_29 26 49) 27 32) 28 59))), (q_30, .inl (cA, 96, .inl (upd (upd f_38 36 100) 37 32)))] A s s.heap H _ := hW'
  clear hW'
  show W p l e _ s m ar below meth c _ _ _ _ Q (F0 m 511 ls _)
  refine lv_dup hx hb dX8_init_511 rfl ?_
  refine lv_bipush (v := 38) hx hb dX8_init_512 (by decide) ?_
  refine lv_bipush (v := 32) hx hb dX8_init_514 (by decide) ?_
  refine lw_iast (t0 := 0) F hW 13 rfl rfl (vp_in_nI (n := 38) (by decide) (by decide)) dX8_init_516 (fun H locs hW' => ?_)
  clear hW
  have hW : LWd D [(cA, .int)] [(h0, .inr (8, [.int 0, .ref q_1, .ref q_2, .ref q_4, .int 0, .ref q_6, .int 0, .ref q_8, .ref q_10, .int 0, .int 0, .int 0, .ref q_12, .ref q_14, .ref q_16, .ref q_19, .ref q_21, .ref q_23, .int 0, .int 0, .int 0, .int 0, .null, .null, .int 0, .int 0, .int 0, .null, .null, .null, .int 0])), (q_1, .inl (cA, 6, .inl (fun _ => 0))), (q_2, .inl (cA, 6, .inl (fun _ => 0))), (q_4, .inl (cA, 30, .inl (fun _ => 0))), (q_6, .inl (cA, 160, .inl (fun _ => 0))), (q_8, .inl (cA, 1200, .inl (fun _ => 0))), (q_10, .inl (cA, 24, .inl (fun _ => 0))), (q_12, .inl (cA, 30, .inl (fun _ => 0))), (q_14, .inl (cA, 3, .inl (fun _ => 0))), (q_16, .inl (cA, 4, .inl (f_18))), (q_19, .inl (cA, 4, .inl (fun _ => 0))), (q_21, .inl (cA, 160, .inl (fun _ => 0))), (q_23, .inl (cA, 29, .inl (upd (upd (upd f_29 26 49) 27 32) 28 59))), (q_30, .inl (cA, 96, .inl (upd (upd (upd f_38 36 100) 37 32) 38 32)))] A s s.heap H _ := hW'
  clear hW'
  show W p l e _ s m ar below meth c _ _ _ _ Q (F0 m 517 ls _)
  refine lv_dup hx hb dX8_init_517 rfl ?_
  refine lv_bipush (v := 39) hx hb dX8_init_518 (by decide) ?_
  refine lv_bipush (v := 32) hx hb dX8_init_520 (by decide) ?_
  refine lw_iast (t0 := 0) F hW 13 rfl rfl (vp_in_nI (n := 39) (by decide) (by decide)) dX8_init_522 (fun H locs hW' => ?_)
  clear hW
  have hW : LWd D [(cA, .int)] [(h0, .inr (8, [.int 0, .ref q_1, .ref q_2, .ref q_4, .int 0, .ref q_6, .int 0, .ref q_8, .ref q_10, .int 0, .int 0, .int 0, .ref q_12, .ref q_14, .ref q_16, .ref q_19, .ref q_21, .ref q_23, .int 0, .int 0, .int 0, .int 0, .null, .null, .int 0, .int 0, .int 0, .null, .null, .null, .int 0])), (q_1, .inl (cA, 6, .inl (fun _ => 0))), (q_2, .inl (cA, 6, .inl (fun _ => 0))), (q_4, .inl (cA, 30, .inl (fun _ => 0))), (q_6, .inl (cA, 160, .inl (fun _ => 0))), (q_8, .inl (cA, 1200, .inl (fun _ => 0))), (q_10, .inl (cA, 24, .inl (fun _ => 0))), (q_12, .inl (cA, 30, .inl (fun _ => 0))), (q_14, .inl (cA, 3, .inl (fun _ => 0))), (q_16, .inl (cA, 4, .inl (f_18))), (q_19, .inl (cA, 4, .inl (fun _ => 0))), (q_21, .inl (cA, 160, .inl (fun _ => 0))), (q_23, .inl (cA, 29, .inl (upd (upd (upd f_29 26 49) 27 32) 28 59))), (q_30, .inl (cA, 96, .inl (upd (upd (upd (upd f_38 36 100) 37 32) 38 32) 39 32)))] A s s.heap H _ := hW'
  clear hW'
  show W p l e _ s m ar below meth c _ _ _ _ Q (F0 m 523 ls _)
  refine lv_dup hx hb dX8_init_523 rfl ?_
  refine lv_bipush (v := 40) hx hb dX8_init_524 (by decide) ?_
  refine lv_bipush (v := 97) hx hb dX8_init_526 (by decide) ?_
  refine lw_iast (t0 := 0) F hW 13 rfl rfl (vp_in_nI (n := 40) (by decide) (by decide)) dX8_init_528 (fun H locs hW' => ?_)
  clear hW
  have hW : LWd D [(cA, .int)] [(h0, .inr (8, [.int 0, .ref q_1, .ref q_2, .ref q_4, .int 0, .ref q_6, .int 0, .ref q_8, .ref q_10, .int 0, .int 0, .int 0, .ref q_12, .ref q_14, .ref q_16, .ref q_19, .ref q_21, .ref q_23, .int 0, .int 0, .int 0, .int 0, .null, .null, .int 0, .int 0, .int 0, .null, .null, .null, .int 0])), (q_1, .inl (cA, 6, .inl (fun _ => 0))), (q_2, .inl (cA, 6, .inl (fun _ => 0))), (q_4, .inl (cA, 30, .inl (fun _ => 0))), (q_6, .inl (cA, 160, .inl (fun _ => 0))), (q_8, .inl (cA, 1200, .inl (fun _ => 0))), (q_10, .inl (cA, 24, .inl (fun _ => 0))), (q_12, .inl (cA, 30, .inl (fun _ => 0))), (q_14, .inl (cA, 3, .inl (fun _ => 0))), (q_16, .inl (cA, 4, .inl (f_18))), (q_19, .inl (cA, 4, .inl (fun _ => 0))), (q_21, .inl (cA, 160, .inl (fun _ => 0))), (q_23, .inl (cA, 29, .inl (upd (upd (upd f_29 26 49) 27 32) 28 59))), (q_30, .inl (cA, 96, .inl (upd (upd (upd (upd (upd f_38 36 100) 37 32) 38 32) 39 32) 40 97)))] A s s.heap H _ := hW'
  clear hW'
  obtain ⟨f_39, ef_39⟩ : ∃ z : Nat → Int32, z = upd (upd (upd (upd (upd f_38 36 100) 37 32) 38 32) 39 32) 40 97 := ⟨_, rfl⟩
  rw [← ef_39] at hW
  have hW2 : LWd D [(cA, .int)] [(h0, .inr (8, [.int 0, .ref q_1, .ref q_2, .ref q_4, .int 0, .ref q_6, .int 0, .ref q_8, .ref q_10, .int 0, .int 0, .int 0, .ref q_12, .ref q_14, .ref q_16, .ref q_19, .ref q_21, .ref q_23, .int 0, .int 0, .int 0, .int 0, .null, .null, .int 0, .int 0, .int 0, .null, .null, .null, .int 0])), (q_1, .inl (cA, 6, .inl (fun _ => 0))), (q_2, .inl (cA, 6, .inl (fun _ => 0))), (q_4, .inl (cA, 30, .inl (fun _ => 0))), (q_6, .inl (cA, 160, .inl (fun _ => 0))), (q_8, .inl (cA, 1200, .inl (fun _ => 0))), (q_10, .inl (cA, 24, .inl (fun _ => 0))), (q_12, .inl (cA, 30, .inl (fun _ => 0))), (q_14, .inl (cA, 3, .inl (fun _ => 0))), (q_16, .inl (cA, 4, .inl (f_18))), (q_19, .inl (cA, 4, .inl (fun _ => 0))), (q_21, .inl (cA, 160, .inl (fun _ => 0))), (q_23, .inl (cA, 29, .inl (upd (upd (upd f_29 26 49) 27 32) 28 59))), (q_30, .inl (cA, 96, .inl (f_39)))] A s s.heap H _ := hW
  clear hW
  have hW := hW2
  clear hW2
  show W p l e _ s m ar below meth c _ _ _ _ Q (F0 m 529 ls _)
  refine lv_dup hx hb dX8_init_529 rfl ?_
  refine lv_bipush (v := 41) hx hb dX8_init_530 (by decide) ?_
  refine lv_bipush (v := 116) hx hb dX8_init_532 (by decide) ?_
  refine lw_iast (t0 := 0) F hW 13 rfl rfl (vp_in_nI (n := 41) (by decide) (by decide)) dX8_init_534 (fun H locs hW' => ?_)
  clear hW
  have hW : LWd D [(cA, .int)] [(h0, .inr (8, [.int 0, .ref q_1, .ref q_2, .ref q_4, .int 0, .ref q_6, .int 0, .ref q_8, .ref q_10, .int 0, .int 0, .int 0, .ref q_12, .ref q_14, .ref q_16, .ref q_19, .ref q_21, .ref q_23, .int 0, .int 0, .int 0, .int 0, .null, .null, .int 0, .int 0, .int 0, .null, .null, .null, .int 0])), (q_1, .inl (cA, 6, .inl (fun _ => 0))), (q_2, .inl (cA, 6, .inl (fun _ => 0))), (q_4, .inl (cA, 30, .inl (fun _ => 0))), (q_6, .inl (cA, 160, .inl (fun _ => 0))), (q_8, .inl (cA, 1200, .inl (fun _ => 0))), (q_10, .inl (cA, 24, .inl (fun _ => 0))), (q_12, .inl (cA, 30, .inl (fun _ => 0))), (q_14, .inl (cA, 3, .inl (fun _ => 0))), (q_16, .inl (cA, 4, .inl (f_18))), (q_19, .inl (cA, 4, .inl (fun _ => 0))), (q_21, .inl (cA, 160, .inl (fun _ => 0))), (q_23, .inl (cA, 29, .inl (upd (upd (upd f_29 26 49) 27 32) 28 59))), (q_30, .inl (cA, 96, .inl (upd f_39 41 116)))] A s s.heap H _ := hW'
  clear hW'
  show W p l e _ s m ar below meth c _ _ _ _ Q (F0 m 535 ls _)
  refine lv_dup hx hb dX8_init_535 rfl ?_
  refine lv_bipush (v := 42) hx hb dX8_init_536 (by decide) ?_
  refine lv_bipush (v := 101) hx hb dX8_init_538 (by decide) ?_
  refine lw_iast (t0 := 0) F hW 13 rfl rfl (vp_in_nI (n := 42) (by decide) (by decide)) dX8_init_540 (fun H locs hW' => ?_)
  clear hW
  have hW : LWd D [(cA, .int)] [(h0, .inr (8, [.int 0, .ref q_1, .ref q_2, .ref q_4, .int 0, .ref q_6, .int 0, .ref q_8, .ref q_10, .int 0, .int 0, .int 0, .ref q_12, .ref q_14, .ref q_16, .ref q_19, .ref q_21, .ref q_23, .int 0, .int 0, .int 0, .int 0, .null, .null, .int 0, .int 0, .int 0, .null, .null, .null, .int 0])), (q_1, .inl (cA, 6, .inl (fun _ => 0))), (q_2, .inl (cA, 6, .inl (fun _ => 0))), (q_4, .inl (cA, 30, .inl (fun _ => 0))), (q_6, .inl (cA, 160, .inl (fun _ => 0))), (q_8, .inl (cA, 1200, .inl (fun _ => 0))), (q_10, .inl (cA, 24, .inl (fun _ => 0))), (q_12, .inl (cA, 30, .inl (fun _ => 0))), (q_14, .inl (cA, 3, .inl (fun _ => 0))), (q_16, .inl (cA, 4, .inl (f_18))), (q_19, .inl (cA, 4, .inl (fun _ => 0))), (q_21, .inl (cA, 160, .inl (fun _ => 0))), (q_23, .inl (cA, 29, .inl (upd (upd (upd f_29 26 49) 27 32) 28 59))), (q_30, .inl (cA, 96, .inl (upd (upd f_39 41 116) 42 101)))] A s s.heap H _ := hW'
  clear hW'
  show W p l e _ s m ar below meth c _ _ _ _ Q (F0 m 541 ls _)
  refine lv_dup hx hb dX8_init_541 rfl ?_
  refine lv_bipush (v := 43) hx hb dX8_init_542 (by decide) ?_
  refine lv_bipush (v := 32) hx hb dX8_init_544 (by decide) ?_
  refine lw_iast (t0 := 0) F hW 13 rfl rfl (vp_in_nI (n := 43) (by decide) (by decide)) dX8_init_546 (fun H locs hW' => ?_)
  clear hW
  have hW : LWd D [(cA, .int)] [(h0, .inr (8, [.int 0, .ref q_1, .ref q_2, .ref q_4, .int 0, .ref q_6, .int 0, .ref q_8, .ref q_10, .int 0, .int 0, .int 0, .ref q_12, .ref q_14, .ref q_16, .ref q_19, .ref q_21, .ref q_23, .int 0, .int 0, .int 0, .int 0, .null, .null, .int 0, .int 0, .int 0, .null, .null, .null, .int 0])), (q_1, .inl (cA, 6, .inl (fun _ => 0))), (q_2, .inl (cA, 6, .inl (fun _ => 0))), (q_4, .inl (cA, 30, .inl (fun _ => 0))), (q_6, .inl (cA, 160, .inl (fun _ => 0))), (q_8, .inl (cA, 1200, .inl (fun _ => 0))), (q_10, .inl (cA, 24, .inl (fun _ => 0))), (q_12, .inl (cA, 30, .inl (fun _ => 0))), (q_14, .inl (cA, 3, .inl (fun _ => 0))), (q_16, .inl (cA, 4, .inl (f_18))), (q_19, .inl (cA, 4, .inl (fun _ => 0))), (q_21, .inl (cA, 160, .inl (fun _ => 0))), (q_23, .inl (cA, 29, .inl (upd (upd (upd f_29 26 49) 27 32) 28 59))), (q_30, .inl (cA, 96, .inl (upd (upd (upd f_39 41 116) 42 101) 43 32)))] A s s.heap H _ := hW'
  clear hW'
  show W p l e _ s m ar below meth c _ _ _ _ Q (F0 m 547 ls _)
  refine lv_dup hx hb dX8_init_547 rfl ?_
  refine lv_bipush (v := 44) hx hb dX8_init_548 (by decide) ?_
  refine lv_bipush (v := 32) hx hb dX8_init_550 (by decide) ?_
  refine lw_iast (t0 := 0) F hW 13 rfl rfl (vp_in_nI (n := 44) (by decide) (by decide)) dX8_init_552 (fun H locs hW' => ?_)
  clear hW
  have hW : LWd D [(cA, .int)] [(h0, .inr (8, [.int 0, .ref q_1, .ref q_2, .ref q_4, .int 0, .ref q_6, .int 0, .ref q_8, .ref q_10, .int 0, .int 0, .int 0, .ref q_12, .ref q_14, .ref q_16, .ref q_19, .ref q_21, .ref q_23, .int 0, .int 0, .int 0, .int 0, .null, .null, .int 0, .int 0, .int 0, .null, .null, .null, .int 0])), (q_1, .inl (cA, 6, .inl (fun _ => 0))), (q_2, .inl (cA, 6, .inl (fun _ => 0))), (q_4, .inl (cA, 30, .inl (fun _ => 0))), (q_6, .inl (cA, 160, .inl (fun _ => 0))), (q_8, .inl (cA, 1200, .inl (fun _ => 0))), (q_10, .inl (cA, 24, .inl (fun _ => 0))), (q_12, .inl (cA, 30, .inl (fun _ => 0))), (q_14, .inl (cA, 3, .inl (fun _ => 0))), (q_16, .inl (cA, 4, .inl (f_18))), (q_19, .inl (cA, 4, .inl (fun _ => 0))), (q_21, .inl (cA, 160, .inl (fun _ => 0))), (q_23, .inl (cA, 29, .inl (upd (upd (upd f_29 26 49) 27 32) 28 59))), (q_30, .inl (cA, 96, .inl (upd (upd (upd (upd f_39 41 116) 42 101) 43 32) 44 32)))] A s s.heap H _ := hW'
  clear hW'
  show W p l e _ s m ar below meth c _ _ _ _ Q (F0 m 553 ls _)
  refine lv_dup hx hb dX8_init_553 rfl ?_
  refine lv_bipush (v := 45) hx hb dX8_init_554 (by decide) ?_
  refine lv_bipush (v := 32) hx hb dX8_init_556 (by decide) ?_
  refine lw_iast (t0 := 0) F hW 13 rfl rfl (vp_in_nI (n := 45) (by decide) (by decide)) dX8_init_558 (fun H locs hW' => ?_)
  clear hW
  have hW : LWd D [(cA, .int)] [(h0, .inr (8, [.int 0, .ref q_1, .ref q_2, .ref q_4, .int 0, .ref q_6, .int 0, .ref q_8, .ref q_10, .int 0, .int 0, .int 0, .ref q_12, .ref q_14, .ref q_16, .ref q_19, .ref q_21, .ref q_23, .int 0, .int 0, .int 0, .int 0, .null, .null, .int 0, .int 0, .int 0, .null, .null, .null, .int 0])), (q_1, .inl (cA, 6, .inl (fun _ => 0))), (q_2, .inl (cA, 6, .inl (fun _ => 0))), (q_4, .inl (cA, 30, .inl (fun _ => 0))), (q_6, .inl (cA, 160, .inl (fun _ => 0))), (q_8, .inl (cA, 1200, .inl (fun _ => 0))), (q_10, .inl (cA, 24, .inl (fun _ => 0))), (q_12, .inl (cA, 30, .inl (fun _ => 0))), (q_14, .inl (cA, 3, .inl (fun _ => 0))), (q_16, .inl (cA, 4, .inl (f_18))), (q_19, .inl (cA, 4, .inl (fun _ => 0))), (q_21, .inl (cA, 160, .inl (fun _ => 0))), (q_23, .inl (cA, 29, .inl (upd (upd (upd f_29 26 49) 27 32) 28 59))), (q_30, .inl (cA, 96, .inl (upd (upd (upd (upd (upd f_39 41 116) 42 101) 43 32) 44 32) 45 32)))] A s s.heap H _ := hW'
  clear hW'
  obtain ⟨f_40, ef_40⟩ : ∃ z : Nat → Int32, z = upd (upd (upd (upd (upd f_39 41 116) 42 101) 43 32) 44 32) 45 32 := ⟨_, rfl⟩
  rw [← ef_40] at hW
  have hW2 : LWd D [(cA, .int)] [(h0, .inr (8, [.int 0, .ref q_1, .ref q_2, .ref q_4, .int 0, .ref q_6, .int 0, .ref q_8, .ref q_10, .int 0, .int 0, .int 0, .ref q_12, .ref q_14, .ref q_16, .ref q_19, .ref q_21, .ref q_23, .int 0, .int 0, .int 0, .int 0, .null, .null, .int 0, .int 0, .int 0, .null, .null, .null, .int 0])), (q_1, .inl (cA, 6, .inl (fun _ => 0))), (q_2, .inl (cA, 6, .inl (fun _ => 0))), (q_4, .inl (cA, 30, .inl (fun _ => 0))), (q_6, .inl (cA, 160, .inl (fun _ => 0))), (q_8, .inl (cA, 1200, .inl (fun _ => 0))), (q_10, .inl (cA, 24, .inl (fun _ => 0))), (q_12, .inl (cA, 30, .inl (fun _ => 0))), (q_14, .inl (cA, 3, .inl (fun _ => 0))), (q_16, .inl (cA, 4, .inl (f_18))), (q_19, .inl (cA, 4, .inl (fun _ => 0))), (q_21, .inl (cA, 160, .inl (fun _ => 0))), (q_23, .inl (cA, 29, .inl (upd (upd (upd f_29 26 49) 27 32) 28 59))), (q_30, .inl (cA, 96, .inl (f_40)))] A s s.heap H _ := hW
  clear hW
  have hW := hW2
  clear hW2
  show W p l e _ s m ar below meth c _ _ _ _ Q (F0 m 559 ls _)
  refine lv_dup hx hb dX8_init_559 rfl ?_
  refine lv_bipush (v := 46) hx hb dX8_init_560 (by decide) ?_
  refine lv_bipush (v := 32) hx hb dX8_init_562 (by decide) ?_
  refine lw_iast (t0 := 0) F hW 13 rfl rfl (vp_in_nI (n := 46) (by decide) (by decide)) dX8_init_564 (fun H locs hW' => ?_)
  clear hW
  have hW : LWd D [(cA, .int)] [(h0, .inr (8, [.int 0, .ref q_1, .ref q_2, .ref q_4, .int 0, .ref q_6, .int 0, .ref q_8, .ref q_10, .int 0, .int 0, .int 0, .ref q_12, .ref q_14, .ref q_16, .ref q_19, .ref q_21, .ref q_23, .int 0, .int 0, .int 0, .int 0, .null, .null, .int 0, .int 0, .int 0, .null, .null, .null, .int 0])), (q_1, .inl (cA, 6, .inl (fun _ => 0))), (q_2, .inl (cA, 6, .inl (fun _ => 0))), (q_4, .inl (cA, 30, .inl (fun _ => 0))), (q_6, .inl (cA, 160, .inl (fun _ => 0))), (q_8, .inl (cA, 1200, .inl (fun _ => 0))), (q_10, .inl (cA, 24, .inl (fun _ => 0))), (q_12, .inl (cA, 30, .inl (fun _ => 0))), (q_14, .inl (cA, 3, .inl (fun _ => 0))), (q_16, .inl (cA, 4, .inl (f_18))), (q_19, .inl (cA, 4, .inl (fun _ => 0))), (q_21, .inl (cA, 160, .inl (fun _ => 0))), (q_23, .inl (cA, 29, .inl (upd (upd (upd f_29 26 49) 27 32) 28 59))), (q_30, .inl (cA, 96, .inl (upd f_40 46 32)))] A s s.heap H _ := hW'
  clear hW'
  show W p l e _ s m ar below meth c _ _ _ _ Q (F0 m 565 ls _)
  refine lv_dup hx hb dX8_init_565 rfl ?_
  refine lv_bipush (v := 47) hx hb dX8_init_566 (by decide) ?_
  refine lv_bipush (v := 32) hx hb dX8_init_568 (by decide) ?_
  refine lw_iast (t0 := 0) F hW 13 rfl rfl (vp_in_nI (n := 47) (by decide) (by decide)) dX8_init_570 (fun H locs hW' => ?_)
  clear hW
  have hW : LWd D [(cA, .int)] [(h0, .inr (8, [.int 0, .ref q_1, .ref q_2, .ref q_4, .int 0, .ref q_6, .int 0, .ref q_8, .ref q_10, .int 0, .int 0, .int 0, .ref q_12, .ref q_14, .ref q_16, .ref q_19, .ref q_21, .ref q_23, .int 0, .int 0, .int 0, .int 0, .null, .null, .int 0, .int 0, .int 0, .null, .null, .null, .int 0])), (q_1, .inl (cA, 6, .inl (fun _ => 0))), (q_2, .inl (cA, 6, .inl (fun _ => 0))), (q_4, .inl (cA, 30, .inl (fun _ => 0))), (q_6, .inl (cA, 160, .inl (fun _ => 0))), (q_8, .inl (cA, 1200, .inl (fun _ => 0))), (q_10, .inl (cA, 24, .inl (fun _ => 0))), (q_12, .inl (cA, 30, .inl (fun _ => 0))), (q_14, .inl (cA, 3, .inl (fun _ => 0))), (q_16, .inl (cA, 4, .inl (f_18))), (q_19, .inl (cA, 4, .inl (fun _ => 0))), (q_21, .inl (cA, 160, .inl (fun _ => 0))), (q_23, .inl (cA, 29, .inl (upd (upd (upd f_29 26 49) 27 32) 28 59))), (q_30, .inl (cA, 96, .inl (upd (upd f_40 46 32) 47 32)))] A s s.heap H _ := hW'
  clear hW'
  show W p l e _ s m ar below meth c _ _ _ _ Q (F0 m 571 ls _)
  refine lv_dup hx hb dX8_init_571 rfl ?_
  refine lv_bipush (v := 48) hx hb dX8_init_572 (by decide) ?_
  refine lv_bipush (v := 109) hx hb dX8_init_574 (by decide) ?_
  refine lw_iast (t0 := 0) F hW 13 rfl rfl (vp_in_nI (n := 48) (by decide) (by decide)) dX8_init_576 (fun H locs hW' => ?_)
  clear hW
  have hW : LWd D [(cA, .int)] [(h0, .inr (8, [.int 0, .ref q_1, .ref q_2, .ref q_4, .int 0, .ref q_6, .int 0, .ref q_8, .ref q_10, .int 0, .int 0, .int 0, .ref q_12, .ref q_14, .ref q_16, .ref q_19, .ref q_21, .ref q_23, .int 0, .int 0, .int 0, .int 0, .null, .null, .int 0, .int 0, .int 0, .null, .null, .null, .int 0])), (q_1, .inl (cA, 6, .inl (fun _ => 0))), (q_2, .inl (cA, 6, .inl (fun _ => 0))), (q_4, .inl (cA, 30, .inl (fun _ => 0))), (q_6, .inl (cA, 160, .inl (fun _ => 0))), (q_8, .inl (cA, 1200, .inl (fun _ => 0))), (q_10, .inl (cA, 24, .inl (fun _ => 0))), (q_12, .inl (cA, 30, .inl (fun _ => 0))), (q_14, .inl (cA, 3, .inl (fun _ => 0))), (q_16, .inl (cA, 4, .inl (f_18))), (q_19, .inl (cA, 4, .inl (fun _ => 0))), (q_21, .inl (cA, 160, .inl (fun _ => 0))), (q_23, .inl (cA, 29, .inl (upd (upd (upd f_29 26 49) 27 32) 28 59))), (q_30, .inl (cA, 96, .inl (upd (upd (upd f_40 46 32) 47 32) 48 109)))] A s s.heap H _ := hW'
  clear hW'
  show W p l e _ s m ar below meth c _ _ _ _ Q (F0 m 577 ls _)
  refine lv_dup hx hb dX8_init_577 rfl ?_
  refine lv_bipush (v := 49) hx hb dX8_init_578 (by decide) ?_
  refine lv_bipush (v := 105) hx hb dX8_init_580 (by decide) ?_
  refine lw_iast (t0 := 0) F hW 13 rfl rfl (vp_in_nI (n := 49) (by decide) (by decide)) dX8_init_582 (fun H locs hW' => ?_)
  clear hW
  have hW : LWd D [(cA, .int)] [(h0, .inr (8, [.int 0, .ref q_1, .ref q_2, .ref q_4, .int 0, .ref q_6, .int 0, .ref q_8, .ref q_10, .int 0, .int 0, .int 0, .ref q_12, .ref q_14, .ref q_16, .ref q_19, .ref q_21, .ref q_23, .int 0, .int 0, .int 0, .int 0, .null, .null, .int 0, .int 0, .int 0, .null, .null, .null, .int 0])), (q_1, .inl (cA, 6, .inl (fun _ => 0))), (q_2, .inl (cA, 6, .inl (fun _ => 0))), (q_4, .inl (cA, 30, .inl (fun _ => 0))), (q_6, .inl (cA, 160, .inl (fun _ => 0))), (q_8, .inl (cA, 1200, .inl (fun _ => 0))), (q_10, .inl (cA, 24, .inl (fun _ => 0))), (q_12, .inl (cA, 30, .inl (fun _ => 0))), (q_14, .inl (cA, 3, .inl (fun _ => 0))), (q_16, .inl (cA, 4, .inl (f_18))), (q_19, .inl (cA, 4, .inl (fun _ => 0))), (q_21, .inl (cA, 160, .inl (fun _ => 0))), (q_23, .inl (cA, 29, .inl (upd (upd (upd f_29 26 49) 27 32) 28 59))), (q_30, .inl (cA, 96, .inl (upd (upd (upd (upd f_40 46 32) 47 32) 48 109) 49 105)))] A s s.heap H _ := hW'
  clear hW'
  show W p l e _ s m ar below meth c _ _ _ _ Q (F0 m 583 ls _)
  refine lv_dup hx hb dX8_init_583 rfl ?_
  refine lv_bipush (v := 50) hx hb dX8_init_584 (by decide) ?_
  refine lv_bipush (v := 110) hx hb dX8_init_586 (by decide) ?_
  refine lw_iast (t0 := 0) F hW 13 rfl rfl (vp_in_nI (n := 50) (by decide) (by decide)) dX8_init_588 (fun H locs hW' => ?_)
  clear hW
  have hW : LWd D [(cA, .int)] [(h0, .inr (8, [.int 0, .ref q_1, .ref q_2, .ref q_4, .int 0, .ref q_6, .int 0, .ref q_8, .ref q_10, .int 0, .int 0, .int 0, .ref q_12, .ref q_14, .ref q_16, .ref q_19, .ref q_21, .ref q_23, .int 0, .int 0, .int 0, .int 0, .null, .null, .int 0, .int 0, .int 0, .null, .null, .null, .int 0])), (q_1, .inl (cA, 6, .inl (fun _ => 0))), (q_2, .inl (cA, 6, .inl (fun _ => 0))), (q_4, .inl (cA, 30, .inl (fun _ => 0))), (q_6, .inl (cA, 160, .inl (fun _ => 0))), (q_8, .inl (cA, 1200, .inl (fun _ => 0))), (q_10, .inl (cA, 24, .inl (fun _ => 0))), (q_12, .inl (cA, 30, .inl (fun _ => 0))), (q_14, .inl (cA, 3, .inl (fun _ => 0))), (q_16, .inl (cA, 4, .inl (f_18))), (q_19, .inl (cA, 4, .inl (fun _ => 0))), (q_21, .inl (cA, 160, .inl (fun _ => 0))), (q_23, .inl (cA, 29, .inl (upd (upd (upd f_29 26 49) 27 32) 28 59))), (q_30, .inl (cA, 96, .inl (upd (upd (upd (upd (upd f_40 46 32) 47 32) 48 109) 49 105) 50 110)))] A s s.heap H _ := hW'
  clear hW'
  obtain ⟨f_41, ef_41⟩ : ∃ z : Nat → Int32, z = upd (upd (upd (upd (upd f_40 46 32) 47 32) 48 109) 49 105) 50 110 := ⟨_, rfl⟩
  rw [← ef_41] at hW
  have hW2 : LWd D [(cA, .int)] [(h0, .inr (8, [.int 0, .ref q_1, .ref q_2, .ref q_4, .int 0, .ref q_6, .int 0, .ref q_8, .ref q_10, .int 0, .int 0, .int 0, .ref q_12, .ref q_14, .ref q_16, .ref q_19, .ref q_21, .ref q_23, .int 0, .int 0, .int 0, .int 0, .null, .null, .int 0, .int 0, .int 0, .null, .null, .null, .int 0])), (q_1, .inl (cA, 6, .inl (fun _ => 0))), (q_2, .inl (cA, 6, .inl (fun _ => 0))), (q_4, .inl (cA, 30, .inl (fun _ => 0))), (q_6, .inl (cA, 160, .inl (fun _ => 0))), (q_8, .inl (cA, 1200, .inl (fun _ => 0))), (q_10, .inl (cA, 24, .inl (fun _ => 0))), (q_12, .inl (cA, 30, .inl (fun _ => 0))), (q_14, .inl (cA, 3, .inl (fun _ => 0))), (q_16, .inl (cA, 4, .inl (f_18))), (q_19, .inl (cA, 4, .inl (fun _ => 0))), (q_21, .inl (cA, 160, .inl (fun _ => 0))), (q_23, .inl (cA, 29, .inl (upd (upd (upd f_29 26 49) 27 32) 28 59))), (q_30, .inl (cA, 96, .inl (f_41)))] A s s.heap H _ := hW
  clear hW
  have hW := hW2
  clear hW2
  show W p l e _ s m ar below meth c _ _ _ _ Q (F0 m 589 ls _)
  refine lv_dup hx hb dX8_init_589 rfl ?_
  refine lv_bipush (v := 51) hx hb dX8_init_590 (by decide) ?_
  refine lv_bipush (v := 117) hx hb dX8_init_592 (by decide) ?_
  refine lw_iast (t0 := 0) F hW 13 rfl rfl (vp_in_nI (n := 51) (by decide) (by decide)) dX8_init_594 (fun H locs hW' => ?_)
  clear hW
  have hW : LWd D [(cA, .int)] [(h0, .inr (8, [.int 0, .ref q_1, .ref q_2, .ref q_4, .int 0, .ref q_6, .int 0, .ref q_8, .ref q_10, .int 0, .int 0, .int 0, .ref q_12, .ref q_14, .ref q_16, .ref q_19, .ref q_21, .ref q_23, .int 0, .int 0, .int 0, .int 0, .null, .null, .int 0, .int 0, .int 0, .null, .null, .null, .int 0])), (q_1, .inl (cA, 6, .inl (fun _ => 0))), (q_2, .inl (cA, 6, .inl (fun _ => 0))), (q_4, .inl (cA, 30, .inl (fun _ => 0))), (q_6, .inl (cA, 160, .inl (fun _ => 0))), (q_8, .inl (cA, 1200, .inl (fun _ => 0))), (q_10, .inl (cA, 24, .inl (fun _ => 0))), (q_12, .inl (cA, 30, .inl (fun _ => 0))), (q_14, .inl (cA, 3, .inl (fun _ => 0))), (q_16, .inl (cA, 4, .inl (f_18))), (q_19, .inl (cA, 4, .inl (fun _ => 0))), (q_21, .inl (cA, 160, .inl (fun _ => 0))), (q_23, .inl (cA, 29, .inl (upd (upd (upd f_29 26 49) 27 32) 28 59))), (q_30, .inl (cA, 96, .inl (upd f_41 51 117)))] A s s.heap H _ := hW'
  clear hW'
  show W p l e _ s m ar below meth c _ _ _ _ Q (F0 m 595 ls _)
  refine lv_dup hx hb dX8_init_595 rfl ?_
  refine lv_bipush (v := 52) hx hb dX8_init_596 (by decide) ?_
  refine lv_bipush (v := 116) hx hb dX8_init_598 (by decide) ?_
  refine lw_iast (t0 := 0) F hW 13 rfl rfl (vp_in_nI (n := 52) (by decide) (by decide)) dX8_init_600 (fun H locs hW' => ?_)
  clear hW
  have hW : LWd D [(cA, .int)] [(h0, .inr (8, [.int 0, .ref q_1, .ref q_2, .ref q_4, .int 0, .ref q_6, .int 0, .ref q_8, .ref q_10, .int 0, .int 0, .int 0, .ref q_12, .ref q_14, .ref q_16, .ref q_19, .ref q_21, .ref q_23, .int 0, .int 0, .int 0, .int 0, .null, .null, .int 0, .int 0, .int 0, .null, .null, .null, .int 0])), (q_1, .inl (cA, 6, .inl (fun _ => 0))), (q_2, .inl (cA, 6, .inl (fun _ => 0))), (q_4, .inl (cA, 30, .inl (fun _ => 0))), (q_6, .inl (cA, 160, .inl (fun _ => 0))), (q_8, .inl (cA, 1200, .inl (fun _ => 0))), (q_10, .inl (cA, 24, .inl (fun _ => 0))), (q_12, .inl (cA, 30, .inl (fun _ => 0))), (q_14, .inl (cA, 3, .inl (fun _ => 0))), (q_16, .inl (cA, 4, .inl (f_18))), (q_19, .inl (cA, 4, .inl (fun _ => 0))), (q_21, .inl (cA, 160, .inl (fun _ => 0))), (q_23, .inl (cA, 29, .inl (upd (upd (upd f_29 26 49) 27 32) 28 59))), (q_30, .inl (cA, 96, .inl (upd (upd f_41 51 117) 52 116)))] A s s.heap H _ := hW'
  clear hW'
  show W p l e _ s m ar below meth c _ _ _ _ Q (F0 m 601 ls _)
  refine lv_dup hx hb dX8_init_601 rfl ?_
  refine lv_bipush (v := 53) hx hb dX8_init_602 (by decide) ?_
  refine lv_bipush (v := 101) hx hb dX8_init_604 (by decide) ?_
  refine lw_iast (t0 := 0) F hW 13 rfl rfl (vp_in_nI (n := 53) (by decide) (by decide)) dX8_init_606 (fun H locs hW' => ?_)
  clear hW
  have hW : LWd D [(cA, .int)] [(h0, .inr (8, [.int 0, .ref q_1, .ref q_2, .ref q_4, .int 0, .ref q_6, .int 0, .ref q_8, .ref q_10, .int 0, .int 0, .int 0, .ref q_12, .ref q_14, .ref q_16, .ref q_19, .ref q_21, .ref q_23, .int 0, .int 0, .int 0, .int 0, .null, .null, .int 0, .int 0, .int 0, .null, .null, .null, .int 0])), (q_1, .inl (cA, 6, .inl (fun _ => 0))), (q_2, .inl (cA, 6, .inl (fun _ => 0))), (q_4, .inl (cA, 30, .inl (fun _ => 0))), (q_6, .inl (cA, 160, .inl (fun _ => 0))), (q_8, .inl (cA, 1200, .inl (fun _ => 0))), (q_10, .inl (cA, 24, .inl (fun _ => 0))), (q_12, .inl (cA, 30, .inl (fun _ => 0))), (q_14, .inl (cA, 3, .inl (fun _ => 0))), (q_16, .inl (cA, 4, .inl (f_18))), (q_19, .inl (cA, 4, .inl (fun _ => 0))), (q_21, .inl (cA, 160, .inl (fun _ => 0))), (q_23, .inl (cA, 29, .inl (upd (upd (upd f_29 26 49) 27 32) 28 59))), (q_30, .inl (cA, 96, .inl (upd (upd (upd f_41 51 117) 52 116) 53 101)))] A s s.heap H _ := hW'
  clear hW'
  show W p l e _ s m ar below meth c _ _ _ _ Q (F0 m 607 ls _)
  refine lv_dup hx hb dX8_init_607 rfl ?_
  refine lv_bipush (v := 54) hx hb dX8_init_608 (by decide) ?_
  refine lv_bipush (v := 32) hx hb dX8_init_610 (by decide) ?_
  refine lw_iast (t0 := 0) F hW 13 rfl rfl (vp_in_nI (n := 54) (by decide) (by decide)) dX8_init_612 (fun H locs hW' => ?_)
  clear hW
  have hW : LWd D [(cA, .int)] [(h0, .inr (8, [.int 0, .ref q_1, .ref q_2, .ref q_4, .int 0, .ref q_6, .int 0, .ref q_8, .ref q_10, .int 0, .int 0, .int 0, .ref q_12, .ref q_14, .ref q_16, .ref q_19, .ref q_21, .ref q_23, .int 0, .int 0, .int 0, .int 0, .null, .null, .int 0, .int 0, .int 0, .null, .null, .null, .int 0])), (q_1, .inl (cA, 6, .inl (fun _ => 0))), (q_2, .inl (cA, 6, .inl (fun _ => 0))), (q_4, .inl (cA, 30, .inl (fun _ => 0))), (q_6, .inl (cA, 160, .inl (fun _ => 0))), (q_8, .inl (cA, 1200, .inl (fun _ => 0))), (q_10, .inl (cA, 24, .inl (fun _ => 0))), (q_12, .inl (cA, 30, .inl (fun _ => 0))), (q_14, .inl (cA, 3, .inl (fun _ => 0))), (q_16, .inl (cA, 4, .inl (f_18))), (q_19, .inl (cA, 4, .inl (fun _ => 0))), (q_21, .inl (cA, 160, .inl (fun _ => 0))), (q_23, .inl (cA, 29, .inl (upd (upd (upd f_29 26 49) 27 32) 28 59))), (q_30, .inl (cA, 96, .inl (upd (upd (upd (upd f_41 51 117) 52 116) 53 101) 54 32)))] A s s.heap H _ := hW'
  clear hW'
  show W p l e _ s m ar below meth c _ _ _ _ Q (F0 m 613 ls _)
  refine lv_dup hx hb dX8_init_613 rfl ?_
  refine lv_bipush (v := 55) hx hb dX8_init_614 (by decide) ?_
  refine lv_bipush (v := 32) hx hb dX8_init_616 (by decide) ?_
  refine lw_iast (t0 := 0) F hW 13 rfl rfl (vp_in_nI (n := 55) (by decide) (by decide)) dX8_init_618 (fun H locs hW' => ?_)
  clear hW
  have hW : LWd D [(cA, .int)] [(h0, .inr (8, [.int 0, .ref q_1, .ref q_2, .ref q_4, .int 0, .ref q_6, .int 0, .ref q_8, .ref q_10, .int 0, .int 0, .int 0, .ref q_12, .ref q_14, .ref q_16, .ref q_19, .ref q_21, .ref q_23, .int 0, .int 0, .int 0, .int 0, .null, .null, .int 0, .int 0, .int 0, .null, .null, .null, .int 0])), (q_1, .inl (cA, 6, .inl (fun _ => 0))), (q_2, .inl (cA, 6, .inl (fun _ => 0))), (q_4, .inl (cA, 30, .inl (fun _ => 0))), (q_6, .inl (cA, 160, .inl (fun _ => 0))), (q_8, .inl (cA, 1200, .inl (fun _ => 0))), (q_10, .inl (cA, 24, .inl (fun _ => 0))), (q_12, .inl (cA, 30, .inl (fun _ => 0))), (q_14, .inl (cA, 3, .inl (fun _ => 0))), (q_16, .inl (cA, 4, .inl (f_18))), (q_19, .inl (cA, 4, .inl (fun _ => 0))), (q_21, .inl (cA, 160, .inl (fun _ => 0))), (q_23, .inl (cA, 29, .inl (upd (upd (upd f_29 26 49) 27 32) 28 59))), (q_30, .inl (cA, 96, .inl (upd (upd (upd (upd (upd f_41 51 117) 52 116) 53 101) 54 32) 55 32)))] A s s.heap H _ := hW'
  clear hW'
  obtain ⟨f_42, ef_42⟩ : ∃ z : Nat → Int32, z = upd (upd (upd (upd (upd f_41 51 117) 52 116) 53 101) 54 32) 55 32 := ⟨_, rfl⟩
  rw [← ef_42] at hW
  have hW2 : LWd D [(cA, .int)] [(h0, .inr (8, [.int 0, .ref q_1, .ref q_2, .ref q_4, .int 0, .ref q_6, .int 0, .ref q_8, .ref q_10, .int 0, .int 0, .int 0, .ref q_12, .ref q_14, .ref q_16, .ref q_19, .ref q_21, .ref q_23, .int 0, .int 0, .int 0, .int 0, .null, .null, .int 0, .int 0, .int 0, .null, .null, .null, .int 0])), (q_1, .inl (cA, 6, .inl (fun _ => 0))), (q_2, .inl (cA, 6, .inl (fun _ => 0))), (q_4, .inl (cA, 30, .inl (fun _ => 0))), (q_6, .inl (cA, 160, .inl (fun _ => 0))), (q_8, .inl (cA, 1200, .inl (fun _ => 0))), (q_10, .inl (cA, 24, .inl (fun _ => 0))), (q_12, .inl (cA, 30, .inl (fun _ => 0))), (q_14, .inl (cA, 3, .inl (fun _ => 0))), (q_16, .inl (cA, 4, .inl (f_18))), (q_19, .inl (cA, 4, .inl (fun _ => 0))), (q_21, .inl (cA, 160, .inl (fun _ => 0))), (q_23, .inl (cA, 29, .inl (upd (upd (upd f_29 26 49) 27 32) 28 59))), (q_30, .inl (cA, 96, .inl (f_42)))] A s s.heap H _ := hW
  clear hW
  have hW := hW2
  clear hW2
  show W p l e _ s m ar below meth c _ _ _ _ Q (F0 m 619 ls _)
  refine lv_dup hx hb dX8_init_619 rfl ?_
  refine lv_bipush (v := 56) hx hb dX8_init_620 (by decide) ?_
  refine lv_bipush (v := 119) hx hb dX8_init_622 (by decide) ?_
  refine lw_iast (t0 := 0) F hW 13 rfl rfl (vp_in_nI (n := 56) (by decide) (by decide)) dX8_init_624 (fun H locs hW' => ?_)
  clear hW
  have hW : LWd D [(cA, .int)] [(h0, .inr (8, [.int 0, .ref q_1, .ref q_2, .ref q_4, .int 0, .ref q_6, .int 0, .ref q_8, .ref q_10, .int 0, .int 0, .int 0, .ref q_12, .ref q_14, .ref q_16, .ref q_19, .ref q_21, .ref q_23, .int 0, .int 0, .int 0, .int 0, .null, .null, .int 0, .int 0, .int 0, .null, .null, .null, .int 0])), (q_1, .inl (cA, 6, .inl (fun _ => 0))), (q_2, .inl (cA, 6, .inl (fun _ => 0))), (q_4, .inl (cA, 30, .inl (fun _ => 0))), (q_6, .inl (cA, 160, .inl (fun _ => 0))), (q_8, .inl (cA, 1200, .inl (fun _ => 0))), (q_10, .inl (cA, 24, .inl (fun _ => 0))), (q_12, .inl (cA, 30, .inl (fun _ => 0))), (q_14, .inl (cA, 3, .inl (fun _ => 0))), (q_16, .inl (cA, 4, .inl (f_18))), (q_19, .inl (cA, 4, .inl (fun _ => 0))), (q_21, .inl (cA, 160, .inl (fun _ => 0))), (q_23, .inl (cA, 29, .inl (upd (upd (upd f_29 26 49) 27 32) 28 59))), (q_30, .inl (cA, 96, .inl (upd f_42 56 119)))] A s s.heap H _ := hW'
  clear hW'
  show W p l e _ s m ar below meth c _ _ _ _ Q (F0 m 625 ls _)
  refine lv_dup hx hb dX8_init_625 rfl ?_
  refine lv_bipush (v := 57) hx hb dX8_init_626 (by decide) ?_
  refine lv_bipush (v := 114) hx hb dX8_init_628 (by decide) ?_
  refine lw_iast (t0 := 0) F hW 13 rfl rfl (vp_in_nI (n := 57) (by decide) (by decide)) dX8_init_630 (fun H locs hW' => ?_)
  clear hW
  have hW : LWd D [(cA, .int)] [(h0, .inr (8, [.int 0, .ref q_1, .ref q_2, .ref q_4, .int 0, .ref q_6, .int 0, .ref q_8, .ref q_10, .int 0, .int 0, .int 0, .ref q_12, .ref q_14, .ref q_16, .ref q_19, .ref q_21, .ref q_23, .int 0, .int 0, .int 0, .int 0, .null, .null, .int 0, .int 0, .int 0, .null, .null, .null, .int 0])), (q_1, .inl (cA, 6, .inl (fun _ => 0))), (q_2, .inl (cA, 6, .inl (fun _ => 0))), (q_4, .inl (cA, 30, .inl (fun _ => 0))), (q_6, .inl (cA, 160, .inl (fun _ => 0))), (q_8, .inl (cA, 1200, .inl (fun _ => 0))), (q_10, .inl (cA, 24, .inl (fun _ => 0))), (q_12, .inl (cA, 30, .inl (fun _ => 0))), (q_14, .inl (cA, 3, .inl (fun _ => 0))), (q_16, .inl (cA, 4, .inl (f_18))), (q_19, .inl (cA, 4, .inl (fun _ => 0))), (q_21, .inl (cA, 160, .inl (fun _ => 0))), (q_23, .inl (cA, 29, .inl (upd (upd (upd f_29 26 49) 27 32) 28 59))), (q_30, .inl (cA, 96, .inl (upd (upd f_42 56 119) 57 114)))] A s s.heap H _ := hW'
  clear hW'
  show W p l e _ s m ar below meth c _ _ _ _ Q (F0 m 631 ls _)
  refine lv_dup hx hb dX8_init_631 rfl ?_
  refine lv_bipush (v := 58) hx hb dX8_init_632 (by decide) ?_
  refine lv_bipush (v := 111) hx hb dX8_init_634 (by decide) ?_
  refine lw_iast (t0 := 0) F hW 13 rfl rfl (vp_in_nI (n := 58) (by decide) (by decide)) dX8_init_636 (fun H locs hW' => ?_)
  clear hW
  have hW : LWd D [(cA, .int)] [(h0, .inr (8, [.int 0, .ref q_1, .ref q_2, .ref q_4, .int 0, .ref q_6, .int 0, .ref q_8, .ref q_10, .int 0, .int 0, .int 0, .ref q_12, .ref q_14, .ref q_16, .ref q_19, .ref q_21, .ref q_23, .int 0, .int 0, .int 0, .int 0, .null, .null, .int 0, .int 0, .int 0, .null, .null, .null, .int 0])), (q_1, .inl (cA, 6, .inl (fun _ => 0))), (q_2, .inl (cA, 6, .inl (fun _ => 0))), (q_4, .inl (cA, 30, .inl (fun _ => 0))), (q_6, .inl (cA, 160, .inl (fun _ => 0))), (q_8, .inl (cA, 1200, .inl (fun _ => 0))), (q_10, .inl (cA, 24, .inl (fun _ => 0))), (q_12, .inl (cA, 30, .inl (fun _ => 0))), (q_14, .inl (cA, 3, .inl (fun _ => 0))), (q_16, .inl (cA, 4, .inl (f_18))), (q_19, .inl (cA, 4, .inl (fun _ => 0))), (q_21, .inl (cA, 160, .inl (fun _ => 0))), (q_23, .inl (cA, 29, .inl (upd (upd (upd f_29 26 49) 27 32) 28 59))), (q_30, .inl (cA, 96, .inl (upd (upd (upd f_42 56 119) 57 114) 58 111)))] A s s.heap H _ := hW'
  clear hW'
  show W p l e _ s m ar below meth c _ _ _ _ Q (F0 m 637 ls _)
  refine lv_dup hx hb dX8_init_637 rfl ?_
  refine lv_bipush (v := 59) hx hb dX8_init_638 (by decide) ?_
  refine lv_bipush (v := 110) hx hb dX8_init_640 (by decide) ?_
  refine lw_iast (t0 := 0) F hW 13 rfl rfl (vp_in_nI (n := 59) (by decide) (by decide)) dX8_init_642 (fun H locs hW' => ?_)
  clear hW
  have hW : LWd D [(cA, .int)] [(h0, .inr (8, [.int 0, .ref q_1, .ref q_2, .ref q_4, .int 0, .ref q_6, .int 0, .ref q_8, .ref q_10, .int 0, .int 0, .int 0, .ref q_12, .ref q_14, .ref q_16, .ref q_19, .ref q_21, .ref q_23, .int 0, .int 0, .int 0, .int 0, .null, .null, .int 0, .int 0, .int 0, .null, .null, .null, .int 0])), (q_1, .inl (cA, 6, .inl (fun _ => 0))), (q_2, .inl (cA, 6, .inl (fun _ => 0))), (q_4, .inl (cA, 30, .inl (fun _ => 0))), (q_6, .inl (cA, 160, .inl (fun _ => 0))), (q_8, .inl (cA, 1200, .inl (fun _ => 0))), (q_10, .inl (cA, 24, .inl (fun _ => 0))), (q_12, .inl (cA, 30, .inl (fun _ => 0))), (q_14, .inl (cA, 3, .inl (fun _ => 0))), (q_16, .inl (cA, 4, .inl (f_18))), (q_19, .inl (cA, 4, .inl (fun _ => 0))), (q_21, .inl (cA, 160, .inl (fun _ => 0))), (q_23, .inl (cA, 29, .inl (upd (upd (upd f_29 26 49) 27 32) 28 59))), (q_30, .inl (cA, 96, .inl (upd (upd (upd (upd f_42 56 119) 57 114) 58 111) 59 110)))] A s s.heap H _ := hW'
  clear hW'
  show W p l e _ s m ar below meth c _ _ _ _ Q (F0 m 643 ls _)
  refine lv_dup hx hb dX8_init_643 rfl ?_
  refine lv_bipush (v := 60) hx hb dX8_init_644 (by decide) ?_
  refine lv_bipush (v := 103) hx hb dX8_init_646 (by decide) ?_
  refine lw_iast (t0 := 0) F hW 13 rfl rfl (vp_in_nI (n := 60) (by decide) (by decide)) dX8_init_648 (fun H locs hW' => ?_)
  clear hW
  have hW : LWd D [(cA, .int)] [(h0, .inr (8, [.int 0, .ref q_1, .ref q_2, .ref q_4, .int 0, .ref q_6, .int 0, .ref q_8, .ref q_10, .int 0, .int 0, .int 0, .ref q_12, .ref q_14, .ref q_16, .ref q_19, .ref q_21, .ref q_23, .int 0, .int 0, .int 0, .int 0, .null, .null, .int 0, .int 0, .int 0, .null, .null, .null, .int 0])), (q_1, .inl (cA, 6, .inl (fun _ => 0))), (q_2, .inl (cA, 6, .inl (fun _ => 0))), (q_4, .inl (cA, 30, .inl (fun _ => 0))), (q_6, .inl (cA, 160, .inl (fun _ => 0))), (q_8, .inl (cA, 1200, .inl (fun _ => 0))), (q_10, .inl (cA, 24, .inl (fun _ => 0))), (q_12, .inl (cA, 30, .inl (fun _ => 0))), (q_14, .inl (cA, 3, .inl (fun _ => 0))), (q_16, .inl (cA, 4, .inl (f_18))), (q_19, .inl (cA, 4, .inl (fun _ => 0))), (q_21, .inl (cA, 160, .inl (fun _ => 0))), (q_23, .inl (cA, 29, .inl (upd (upd (upd f_29 26 49) 27 32) 28 59))), (q_30, .inl (cA, 96, .inl (upd (upd (upd (upd (upd f_42 56 119) 57 114) 58 111) 59 110) 60 103)))] A s s.heap H _ := hW'
  clear hW'
  obtain ⟨f_43, ef_43⟩ : ∃ z : Nat → Int32, z = upd (upd (upd (upd (upd f_42 56 119) 57 114) 58 111) 59 110) 60 103 := ⟨_, rfl⟩
  rw [← ef_43] at hW
  have hW2 : LWd D [(cA, .int)] [(h0, .inr (8, [.int 0, .ref q_1, .ref q_2, .ref q_4, .int 0, .ref q_6, .int 0, .ref q_8, .ref q_10, .int 0, .int 0, .int 0, .ref q_12, .ref q_14, .ref q_16, .ref q_19, .ref q_21, .ref q_23, .int 0, .int 0, .int 0, .int 0, .null, .null, .int 0, .int 0, .int 0, .null, .null, .null, .int 0])), (q_1, .inl (cA, 6, .inl (fun _ => 0))), (q_2, .inl (cA, 6, .inl (fun _ => 0))), (q_4, .inl (cA, 30, .inl (fun _ => 0))), (q_6, .inl (cA, 160, .inl (fun _ => 0))), (q_8, .inl (cA, 1200, .inl (fun _ => 0))), (q_10, .inl (cA, 24, .inl (fun _ => 0))), (q_12, .inl (cA, 30, .inl (fun _ => 0))), (q_14, .inl (cA, 3, .inl (fun _ => 0))), (q_16, .inl (cA, 4, .inl (f_18))), (q_19, .inl (cA, 4, .inl (fun _ => 0))), (q_21, .inl (cA, 160, .inl (fun _ => 0))), (q_23, .inl (cA, 29, .inl (upd (upd (upd f_29 26 49) 27 32) 28 59))), (q_30, .inl (cA, 96, .inl (f_43)))] A s s.heap H _ := hW
  clear hW
  have hW := hW2
  clear hW2
  show W p l e _ s m ar below meth c _ _ _ _ Q (F0 m 649 ls _)
  refine lv_dup hx hb dX8_init_649 rfl ?_
  refine lv_bipush (v := 61) hx hb dX8_init_650 (by decide) ?_
  refine lv_bipush (v := 115) hx hb dX8_init_652 (by decide) ?_
  refine lw_iast (t0 := 0) F hW 13 rfl rfl (vp_in_nI (n := 61) (by decide) (by decide)) dX8_init_654 (fun H locs hW' => ?_)
  clear hW
  have hW : LWd D [(cA, .int)] [(h0, .inr (8, [.int 0, .ref q_1, .ref q_2, .ref q_4, .int 0, .ref q_6, .int 0, .ref q_8, .ref q_10, .int 0, .int 0, .int 0, .ref q_12, .ref q_14, .ref q_16, .ref q_19, .ref q_21, .ref q_23, .int 0, .int 0, .int 0, .int 0, .null, .null, .int 0, .int 0, .int 0, .null, .null, .null, .int 0])), (q_1, .inl (cA, 6, .inl (fun _ => 0))), (q_2, .inl (cA, 6, .inl (fun _ => 0))), (q_4, .inl (cA, 30, .inl (fun _ => 0))), (q_6, .inl (cA, 160, .inl (fun _ => 0))), (q_8, .inl (cA, 1200, .inl (fun _ => 0))), (q_10, .inl (cA, 24, .inl (fun _ => 0))), (q_12, .inl (cA, 30, .inl (fun _ => 0))), (q_14, .inl (cA, 3, .inl (fun _ => 0))), (q_16, .inl (cA, 4, .inl (f_18))), (q_19, .inl (cA, 4, .inl (fun _ => 0))), (q_21, .inl (cA, 160, .inl (fun _ => 0))), (q_23, .inl (cA, 29, .inl (upd (upd (upd f_29 26 49) 27 32) 28 59))), (q_30, .inl (cA, 96, .inl (upd f_43 61 115)))] A s s.heap H _ := hW'
  clear hW'
  show W p l e _ s m ar below meth c _ _ _ _ Q (F0 m 655 ls _)
  refine lv_dup hx hb dX8_init_655 rfl ?_
  refine lv_bipush (v := 62) hx hb dX8_init_656 (by decide) ?_
  refine lv_bipush (v := 32) hx hb dX8_init_658 (by decide) ?_
  refine lw_iast (t0 := 0) F hW 13 rfl rfl (vp_in_nI (n := 62) (by decide) (by decide)) dX8_init_660 (fun H locs hW' => ?_)
  clear hW
  have hW : LWd D [(cA, .int)] [(h0, .inr (8, [.int 0, .ref q_1, .ref q_2, .ref q_4, .int 0, .ref q_6, .int 0, .ref q_8, .ref q_10, .int 0, .int 0, .int 0, .ref q_12, .ref q_14, .ref q_16, .ref q_19, .ref q_21, .ref q_23, .int 0, .int 0, .int 0, .int 0, .null, .null, .int 0, .int 0, .int 0, .null, .null, .null, .int 0])), (q_1, .inl (cA, 6, .inl (fun _ => 0))), (q_2, .inl (cA, 6, .inl (fun _ => 0))), (q_4, .inl (cA, 30, .inl (fun _ => 0))), (q_6, .inl (cA, 160, .inl (fun _ => 0))), (q_8, .inl (cA, 1200, .inl (fun _ => 0))), (q_10, .inl (cA, 24, .inl (fun _ => 0))), (q_12, .inl (cA, 30, .inl (fun _ => 0))), (q_14, .inl (cA, 3, .inl (fun _ => 0))), (q_16, .inl (cA, 4, .inl (f_18))), (q_19, .inl (cA, 4, .inl (fun _ => 0))), (q_21, .inl (cA, 160, .inl (fun _ => 0))), (q_23, .inl (cA, 29, .inl (upd (upd (upd f_29 26 49) 27 32) 28 59))), (q_30, .inl (cA, 96, .inl (upd (upd f_43 61 115) 62 32)))] A s s.heap H _ := hW'
  clear hW'
  show W p l e _ s m ar below meth c _ _ _ _ Q (F0 m 661 ls _)
  refine lv_dup hx hb dX8_init_661 rfl ?_
  refine lv_bipush (v := 63) hx hb dX8_init_662 (by decide) ?_
  refine lv_bipush (v := 32) hx hb dX8_init_664 (by decide) ?_
  refine lw_iast (t0 := 0) F hW 13 rfl rfl (vp_in_nI (n := 63) (by decide) (by decide)) dX8_init_666 (fun H locs hW' => ?_)
  clear hW
  have hW : LWd D [(cA, .int)] [(h0, .inr (8, [.int 0, .ref q_1, .ref q_2, .ref q_4, .int 0, .ref q_6, .int 0, .ref q_8, .ref q_10, .int 0, .int 0, .int 0, .ref q_12, .ref q_14, .ref q_16, .ref q_19, .ref q_21, .ref q_23, .int 0, .int 0, .int 0, .int 0, .null, .null, .int 0, .int 0, .int 0, .null, .null, .null, .int 0])), (q_1, .inl (cA, 6, .inl (fun _ => 0))), (q_2, .inl (cA, 6, .inl (fun _ => 0))), (q_4, .inl (cA, 30, .inl (fun _ => 0))), (q_6, .inl (cA, 160, .inl (fun _ => 0))), (q_8, .inl (cA, 1200, .inl (fun _ => 0))), (q_10, .inl (cA, 24, .inl (fun _ => 0))), (q_12, .inl (cA, 30, .inl (fun _ => 0))), (q_14, .inl (cA, 3, .inl (fun _ => 0))), (q_16, .inl (cA, 4, .inl (f_18))), (q_19, .inl (cA, 4, .inl (fun _ => 0))), (q_21, .inl (cA, 160, .inl (fun _ => 0))), (q_23, .inl (cA, 29, .inl (upd (upd (upd f_29 26 49) 27 32) 28 59))), (q_30, .inl (cA, 96, .inl (upd (upd (upd f_43 61 115) 62 32) 63 32)))] A s s.heap H _ := hW'
  clear hW'
  show W p l e _ s m ar below meth c _ _ _ _ Q (F0 m 667 ls _)
  refine lv_dup hx hb dX8_init_667 rfl ?_
  refine lv_bipush (v := 64) hx hb dX8_init_668 (by decide) ?_
  refine lv_bipush (v := 109) hx hb dX8_init_670 (by decide) ?_
  refine lw_iast (t0 := 0) F hW 13 rfl rfl (vp_in_nI (n := 64) (by decide) (by decide)) dX8_init_672 (fun H locs hW' => ?_)
  clear hW
  have hW : LWd D [(cA, .int)] [(h0, .inr (8, [.int 0, .ref q_1, .ref q_2, .ref q_4, .int 0, .ref q_6, .int 0, .ref q_8, .ref q_10, .int 0, .int 0, .int 0, .ref q_12, .ref q_14, .ref q_16, .ref q_19, .ref q_21, .ref q_23, .int 0, .int 0, .int 0, .int 0, .null, .null, .int 0, .int 0, .int 0, .null, .null, .null, .int 0])), (q_1, .inl (cA, 6, .inl (fun _ => 0))), (q_2, .inl (cA, 6, .inl (fun _ => 0))), (q_4, .inl (cA, 30, .inl (fun _ => 0))), (q_6, .inl (cA, 160, .inl (fun _ => 0))), (q_8, .inl (cA, 1200, .inl (fun _ => 0))), (q_10, .inl (cA, 24, .inl (fun _ => 0))), (q_12, .inl (cA, 30, .inl (fun _ => 0))), (q_14, .inl (cA, 3, .inl (fun _ => 0))), (q_16, .inl (cA, 4, .inl (f_18))), (q_19, .inl (cA, 4, .inl (fun _ => 0))), (q_21, .inl (cA, 160, .inl (fun _ => 0))), (q_23, .inl (cA, 29, .inl (upd (upd (upd f_29 26 49) 27 32) 28 59))), (q_30, .inl (cA, 96, .inl (upd (upd (upd (upd f_43 61 115) 62 32) 63 32) 64 109)))] A s s.heap H _ := hW'
  clear hW'
  show W p l e _ s m ar below meth c _ _ _ _ Q (F0 m 673 ls _)
  refine lv_dup hx hb dX8_init_673 rfl ?_
  refine lv_bipush (v := 65) hx hb dX8_init_674 (by decide) ?_
  refine lv_bipush (v := 111) hx hb dX8_init_676 (by decide) ?_
  refine lw_iast (t0 := 0) F hW 13 rfl rfl (vp_in_nI (n := 65) (by decide) (by decide)) dX8_init_678 (fun H locs hW' => ?_)
  clear hW
  have hW : LWd D [(cA, .int)] [(h0, .inr (8, [.int 0, .ref q_1, .ref q_2, .ref q_4, .int 0, .ref q_6, .int 0, .ref q_8, .ref q_10, .int 0, .int 0, .int 0, .ref q_12, .ref q_14, .ref q_16, .ref q_19, .ref q_21, .ref q_23, .int 0, .int 0, .int 0, .int 0, .null, .null, .int 0, .int 0, .int 0, .null, .null, .null, .int 0])), (q_1, .inl (cA, 6, .inl (fun _ => 0))), (q_2, .inl (cA, 6, .inl (fun _ => 0))), (q_4, .inl (cA, 30, .inl (fun _ => 0))), (q_6, .inl (cA, 160, .inl (fun _ => 0))), (q_8, .inl (cA, 1200, .inl (fun _ => 0))), (q_10, .inl (cA, 24, .inl (fun _ => 0))), (q_12, .inl (cA, 30, .inl (fun _ => 0))), (q_14, .inl (cA, 3, .inl (fun _ => 0))), (q_16, .inl (cA, 4, .inl (f_18))), (q_19, .inl (cA, 4, .inl (fun _ => 0))), (q_21, .inl (cA, 160, .inl (fun _ => 0))), (q_23, .inl (cA, 29, .inl (upd (upd (upd f_29 26 49) 27 32) 28 59))), (q_30, .inl (cA, 96, .inl (upd (upd (upd (upd (upd f_43 61 115) 62 32) 63 32) 64 109) 65 111)))] A s s.heap H _ := hW'
  clear hW'
  obtain ⟨f_44, ef_44⟩ : ∃ z : Nat → Int32, z = upd (upd (upd (upd (upd f_43 61 115) 62 32) 63 32) 64 109) 65 111 := ⟨_, rfl⟩
  rw [← ef_44] at hW
  have hW2 : LWd D [(cA, .int)] [(h0, .inr (8, [.int 0, .ref q_1, .ref q_2, .ref q_4, .int 0, .ref q_6, .int 0, .ref q_8, .ref q_10, .int 0, .int 0, .int 0, .ref q_12, .ref q_14, .ref q_16, .ref q_19, .ref q_21, .ref q_23, .int 0, .int 0, .int 0, .int 0, .null, .null, .int 0, .int 0, .int 0, .null, .null, .null, .int 0])), (q_1, .inl (cA, 6, .inl (fun _ => 0))), (q_2, .inl (cA, 6, .inl (fun _ => 0))), (q_4, .inl (cA, 30, .inl (fun _ => 0))), (q_6, .inl (cA, 160, .inl (fun _ => 0))), (q_8, .inl (cA, 1200, .inl (fun _ => 0))), (q_10, .inl (cA, 24, .inl (fun _ => 0))), (q_12, .inl (cA, 30, .inl (fun _ => 0))), (q_14, .inl (cA, 3, .inl (fun _ => 0))), (q_16, .inl (cA, 4, .inl (f_18))), (q_19, .inl (cA, 4, .inl (fun _ => 0))), (q_21, .inl (cA, 160, .inl (fun _ => 0))), (q_23, .inl (cA, 29, .inl (upd (upd (upd f_29 26 49) 27 32) 28 59))), (q_30, .inl (cA, 96, .inl (f_44)))] A s s.heap H _ := hW
  clear hW
  have hW := hW2
  clear hW2
  show W p l e _ s m ar below meth c _ _ _ _ Q (F0 m 679 ls _)
  refine lv_dup hx hb dX8_init_679 rfl ?_
  refine lv_bipush (v := 66) hx hb dX8_init_680 (by decide) ?_
  refine lv_bipush (v := 114) hx hb dX8_init_682 (by decide) ?_
  refine lw_iast (t0 := 0) F hW 13 rfl rfl (vp_in_nI (n := 66) (by decide) (by decide)) dX8_init_684 (fun H locs hW' => ?_)
  clear hW
  have hW : LWd D [(cA, .int)] [(h0, .inr (8, [.int 0, .ref q_1, .ref q_2, .ref q_4, .int 0, .ref q_6, .int 0, .ref q_8, .ref q_10, .int 0, .int 0, .int 0, .ref q_12, .ref q_14, .ref q_16, .ref q_19, .ref q_21, .ref q_23, .int 0, .int 0, .int 0, .int 0, .null, .null, .int 0, .int 0, .int 0, .null, .null, .null, .int 0])), (q_1, .inl (cA, 6, .inl (fun _ => 0))), (q_2, .inl (cA, 6, .inl (fun _ => 0))), (q_4, .inl (cA, 30, .inl (fun _ => 0))), (q_6, .inl (cA, 160, .inl (fun _ => 0))), (q_8, .inl (cA, 1200, .inl (fun _ => 0))), (q_10, .inl (cA, 24, .inl (fun _ => 0))), (q_12, .inl (cA, 30, .inl (fun _ => 0))), (q_14, .inl (cA, 3, .inl (fun _ => 0))), (q_16, .inl (cA, 4, .inl (f_18))), (q_19, .inl (cA, 4, .inl (fun _ => 0))), (q_21, .inl (cA, 160, .inl (fun _ => 0))), (q_23, .inl (cA, 29, .inl (upd (upd (upd f_29 26 49) 27 32) 28 59))), (q_30, .inl (cA, 96, .inl (upd f_44 66 114)))] A s s.heap H _ := hW'
  clear hW'
  show W p l e _ s m ar below meth c _ _ _ _ Q (F0 m 685 ls _)
  refine lv_dup hx hb dX8_init_685 rfl ?_
  refine lv_bipush (v := 67) hx hb dX8_init_686 (by decide) ?_
  refine lv_bipush (v := 101) hx hb dX8_init_688 (by decide) ?_
  refine lw_iast (t0 := 0) F hW 13 rfl rfl (vp_in_nI (n := 67) (by decide) (by decide)) dX8_init_690 (fun H locs hW' => ?_)
  clear hW
  have hW : LWd D [(cA, .int)] [(h0, .inr (8, [.int 0, .ref q_1, .ref q_2, .ref q_4, .int 0, .ref q_6, .int 0, .ref q_8, .ref q_10, .int 0, .int 0, .int 0, .ref q_12, .ref q_14, .ref q_16, .ref q_19, .ref q_21, .ref q_23, .int 0, .int 0, .int 0, .int 0, .null, .null, .int 0, .int 0, .int 0, .null, .null, .null, .int 0])), (q_1, .inl (cA, 6, .inl (fun _ => 0))), (q_2, .inl (cA, 6, .inl (fun _ => 0))), (q_4, .inl (cA, 30, .inl (fun _ => 0))), (q_6, .inl (cA, 160, .inl (fun _ => 0))), (q_8, .inl (cA, 1200, .inl (fun _ => 0))), (q_10, .inl (cA, 24, .inl (fun _ => 0))), (q_12, .inl (cA, 30, .inl (fun _ => 0))), (q_14, .inl (cA, 3, .inl (fun _ => 0))), (q_16, .inl (cA, 4, .inl (f_18))), (q_19, .inl (cA, 4, .inl (fun _ => 0))), (q_21, .inl (cA, 160, .inl (fun _ => 0))), (q_23, .inl (cA, 29, .inl (upd (upd (upd f_29 26 49) 27 32) 28 59))), (q_30, .inl (cA, 96, .inl (upd (upd f_44 66 114) 67 101)))] A s s.heap H _ := hW'
  clear hW'
  show W p l e _ s m ar below meth c _ _ _ _ Q (F0 m 691 ls _)
  refine lv_dup hx hb dX8_init_691 rfl ?_
  refine lv_bipush (v := 68) hx hb dX8_init_692 (by decide) ?_
  refine lv_bipush (v := 32) hx hb dX8_init_694 (by decide) ?_
  refine lw_iast (t0 := 0) F hW 13 rfl rfl (vp_in_nI (n := 68) (by decide) (by decide)) dX8_init_696 (fun H locs hW' => ?_)
  clear hW
  have hW : LWd D [(cA, .int)] [(h0, .inr (8, [.int 0, .ref q_1, .ref q_2, .ref q_4, .int 0, .ref q_6, .int 0, .ref q_8, .ref q_10, .int 0, .int 0, .int 0, .ref q_12, .ref q_14, .ref q_16, .ref q_19, .ref q_21, .ref q_23, .int 0, .int 0, .int 0, .int 0, .null, .null, .int 0, .int 0, .int 0, .null, .null, .null, .int 0])), (q_1, .inl (cA, 6, .inl (fun _ => 0))), (q_2, .inl (cA, 6, .inl (fun _ => 0))), (q_4, .inl (cA, 30, .inl (fun _ => 0))), (q_6, .inl (cA, 160, .inl (fun _ => 0))), (q_8, .inl (cA, 1200, .inl (fun _ => 0))), (q_10, .inl (cA, 24, .inl (fun _ => 0))), (q_12, .inl (cA, 30, .inl (fun _ => 0))), (q_14, .inl (cA, 3, .inl (fun _ => 0))), (q_16, .inl (cA, 4, .inl (f_18))), (q_19, .inl (cA, 4, .inl (fun _ => 0))), (q_21, .inl (cA, 160, .inl (fun _ => 0))), (q_23, .inl (cA, 29, .inl (upd (upd (upd f_29 26 49) 27 32) 28 59))), (q_30, .inl (cA, 96, .inl (upd (upd (upd f_44 66 114) 67 101) 68 32)))] A s s.heap H _ := hW'
  clear hW'
  show W p l e _ s m ar below meth c _ _ _ _ Q (F0 m 697 ls _)
  refine lv_dup hx hb dX8_init_697 rfl ?_
  refine lv_bipush (v := 69) hx hb dX8_init_698 (by decide) ?_
  refine lv_bipush (v := 32) hx hb dX8_init_700 (by decide) ?_
  refine lw_iast (t0 := 0) F hW 13 rfl rfl (vp_in_nI (n := 69) (by decide) (by decide)) dX8_init_702 (fun H locs hW' => ?_)
  clear hW
  have hW : LWd D [(cA, .int)] [(h0, .inr (8, [.int 0, .ref q_1, .ref q_2, .ref q_4, .int 0, .ref q_6, .int 0, .ref q_8, .ref q_10, .int 0, .int 0, .int 0, .ref q_12, .ref q_14, .ref q_16, .ref q_19, .ref q_21, .ref q_23, .int 0, .int 0, .int 0, .int 0, .null, .null, .int 0, .int 0, .int 0, .null, .null, .null, .int 0])), (q_1, .inl (cA, 6, .inl (fun _ => 0))), (q_2, .inl (cA, 6, .inl (fun _ => 0))), (q_4, .inl (cA, 30, .inl (fun _ => 0))), (q_6, .inl (cA, 160, .inl (fun _ => 0))), (q_8, .inl (cA, 1200, .inl (fun _ => 0))), (q_10, .inl (cA, 24, .inl (fun _ => 0))), (q_12, .inl (cA, 30, .inl (fun _ => 0))), (q_14, .inl (cA, 3, .inl (fun _ => 0))), (q_16, .inl (cA, 4, .inl (f_18))), (q_19, .inl (cA, 4, .inl (fun _ => 0))), (q_21, .inl (cA, 160, .inl (fun _ => 0))), (q_23, .inl (cA, 29, .inl (upd (upd (upd f_29 26 49) 27 32) 28 59))), (q_30, .inl (cA, 96, .inl (upd (upd (upd (upd f_44 66 114) 67 101) 68 32) 69 32)))] A s s.heap H _ := hW'
  clear hW'
  show W p l e _ s m ar below meth c _ _ _ _ Q (F0 m 703 ls _)
  refine lv_dup hx hb dX8_init_703 rfl ?_
  refine lv_bipush (v := 70) hx hb dX8_init_704 (by decide) ?_
  refine lv_bipush (v := 32) hx hb dX8_init_706 (by decide) ?_
  refine lw_iast (t0 := 0) F hW 13 rfl rfl (vp_in_nI (n := 70) (by decide) (by decide)) dX8_init_708 (fun H locs hW' => ?_)
  clear hW
  have hW : LWd D [(cA, .int)] [(h0, .inr (8, [.int 0, .ref q_1, .ref q_2, .ref q_4, .int 0, .ref q_6, .int 0, .ref q_8, .ref q_10, .int 0, .int 0, .int 0, .ref q_12, .ref q_14, .ref q_16, .ref q_19, .ref q_21, .ref q_23, .int 0, .int 0, .int 0, .int 0, .null, .null, .int 0, .int 0, .int 0, .null, .null, .null, .int 0])), (q_1, .inl (cA, 6, .inl (fun _ => 0))), (q_2, .inl (cA, 6, .inl (fun _ => 0))), (q_4, .inl (cA, 30, .inl (fun _ => 0))), (q_6, .inl (cA, 160, .inl (fun _ => 0))), (q_8, .inl (cA, 1200, .inl (fun _ => 0))), (q_10, .inl (cA, 24, .inl (fun _ => 0))), (q_12, .inl (cA, 30, .inl (fun _ => 0))), (q_14, .inl (cA, 3, .inl (fun _ => 0))), (q_16, .inl (cA, 4, .inl (f_18))), (q_19, .inl (cA, 4, .inl (fun _ => 0))), (q_21, .inl (cA, 160, .inl (fun _ => 0))), (q_23, .inl (cA, 29, .inl (upd (upd (upd f_29 26 49) 27 32) 28 59))), (q_30, .inl (cA, 96, .inl (upd (upd (upd (upd (upd f_44 66 114) 67 101) 68 32) 69 32) 70 32)))] A s s.heap H _ := hW'
  clear hW'
  obtain ⟨f_45, ef_45⟩ : ∃ z : Nat → Int32, z = upd (upd (upd (upd (upd f_44 66 114) 67 101) 68 32) 69 32) 70 32 := ⟨_, rfl⟩
  rw [← ef_45] at hW
  have hW2 : LWd D [(cA, .int)] [(h0, .inr (8, [.int 0, .ref q_1, .ref q_2, .ref q_4, .int 0, .ref q_6, .int 0, .ref q_8, .ref q_10, .int 0, .int 0, .int 0, .ref q_12, .ref q_14, .ref q_16, .ref q_19, .ref q_21, .ref q_23, .int 0, .int 0, .int 0, .int 0, .null, .null, .int 0, .int 0, .int 0, .null, .null, .null, .int 0])), (q_1, .inl (cA, 6, .inl (fun _ => 0))), (q_2, .inl (cA, 6, .inl (fun _ => 0))), (q_4, .inl (cA, 30, .inl (fun _ => 0))), (q_6, .inl (cA, 160, .inl (fun _ => 0))), (q_8, .inl (cA, 1200, .inl (fun _ => 0))), (q_10, .inl (cA, 24, .inl (fun _ => 0))), (q_12, .inl (cA, 30, .inl (fun _ => 0))), (q_14, .inl (cA, 3, .inl (fun _ => 0))), (q_16, .inl (cA, 4, .inl (f_18))), (q_19, .inl (cA, 4, .inl (fun _ => 0))), (q_21, .inl (cA, 160, .inl (fun _ => 0))), (q_23, .inl (cA, 29, .inl (upd (upd (upd f_29 26 49) 27 32) 28 59))), (q_30, .inl (cA, 96, .inl (f_45)))] A s s.heap H _ := hW
  clear hW
  have hW := hW2
  clear hW2
  show W p l e _ s m ar below meth c _ _ _ _ Q (F0 m 709 ls _)
  refine lv_dup hx hb dX8_init_709 rfl ?_
  refine lv_bipush (v := 71) hx hb dX8_init_710 (by decide) ?_
  refine lv_bipush (v := 32) hx hb dX8_init_712 (by decide) ?_
  refine lw_iast (t0 := 0) F hW 13 rfl rfl (vp_in_nI (n := 71) (by decide) (by decide)) dX8_init_714 (fun H locs hW' => ?_)
  clear hW
  have hW : LWd D [(cA, .int)] [(h0, .inr (8, [.int 0, .ref q_1, .ref q_2, .ref q_4, .int 0, .ref q_6, .int 0, .ref q_8, .ref q_10, .int 0, .int 0, .int 0, .ref q_12, .ref q_14, .ref q_16, .ref q_19, .ref q_21, .ref q_23, .int 0, .int 0, .int 0, .int 0, .null, .null, .int 0, .int 0, .int 0, .null, .null, .null, .int 0])), (q_1, .inl (cA, 6, .inl (fun _ => 0))), (q_2, .inl (cA, 6, .inl (fun _ => 0))), (q_4, .inl (cA, 30, .inl (fun _ => 0))), (q_6, .inl (cA, 160, .inl (fun _ => 0))), (q_8, .inl (cA, 1200, .inl (fun _ => 0))), (q_10, .inl (cA, 24, .inl (fun _ => 0))), (q_12, .inl (cA, 30, .inl (fun _ => 0))), (q_14, .inl (cA, 3, .inl (fun _ => 0))), (q_16, .inl (cA, 4, .inl (f_18))), (q_19, .inl (cA, 4, .inl (fun _ => 0))), (q_21, .inl (cA, 160, .inl (fun _ => 0))), (q_23, .inl (cA, 29, .inl (upd (upd (upd f_29 26 49) 27 32) 28 59))), (q_30, .inl (cA, 96, .inl (upd f_45 71 32)))] A s s.heap H _ := hW'
  clear hW'
  show W p l e _ s m ar below meth c _ _ _ _ Q (F0 m 715 ls _)
  refine lv_dup hx hb dX8_init_715 rfl ?_
  refine lv_bipush (v := 72) hx hb dX8_init_716 (by decide) ?_
  refine lv_bipush (v := 111) hx hb dX8_init_718 (by decide) ?_
  refine lw_iast (t0 := 0) F hW 13 rfl rfl (vp_in_nI (n := 72) (by decide) (by decide)) dX8_init_720 (fun H locs hW' => ?_)
  clear hW
  have hW : LWd D [(cA, .int)] [(h0, .inr (8, [.int 0, .ref q_1, .ref q_2, .ref q_4, .int 0, .ref q_6, .int 0, .ref q_8, .ref q_10, .int 0, .int 0, .int 0, .ref q_12, .ref q_14, .ref q_16, .ref q_19, .ref q_21, .ref q_23, .int 0, .int 0, .int 0, .int 0, .null, .null, .int 0, .int 0, .int 0, .null, .null, .null, .int 0])), (q_1, .inl (cA, 6, .inl (fun _ => 0))), (q_2, .inl (cA, 6, .inl (fun _ => 0))), (q_4, .inl (cA, 30, .inl (fun _ => 0))), (q_6, .inl (cA, 160, .inl (fun _ => 0))), (q_8, .inl (cA, 1200, .inl (fun _ => 0))), (q_10, .inl (cA, 24, .inl (fun _ => 0))), (q_12, .inl (cA, 30, .inl (fun _ => 0))), (q_14, .inl (cA, 3, .inl (fun _ => 0))), (q_16, .inl (cA, 4, .inl (f_18))), (q_19, .inl (cA, 4, .inl (fun _ => 0))), (q_21, .inl (cA, 160, .inl (fun _ => 0))), (q_23, .inl (cA, 29, .inl (upd (upd (upd f_29 26 49) 27 32) 28 59))), (q_30, .inl (cA, 96, .inl (upd (upd f_45 71 32) 72 111)))] A s s.heap H _ := hW'
  clear hW'
  show W p l e _ s m ar below meth c _ _ _ _ Q (F0 m 721 ls _)
  refine lv_dup hx hb dX8_init_721 rfl ?_
  refine lv_bipush (v := 73) hx hb dX8_init_722 (by decide) ?_
  refine lv_bipush (v := 114) hx hb dX8_init_724 (by decide) ?_
  refine lw_iast (t0 := 0) F hW 13 rfl rfl (vp_in_nI (n := 73) (by decide) (by decide)) dX8_init_726 (fun H locs hW' => ?_)
  clear hW
  have hW : LWd D [(cA, .int)] [(h0, .inr (8, [.int 0, .ref q_1, .ref q_2, .ref q_4, .int 0, .ref q_6, .int 0, .ref q_8, .ref q_10, .int 0, .int 0, .int 0, .ref q_12, .ref q_14, .ref q_16, .ref q_19, .ref q_21, .ref q_23, .int 0, .int 0, .int 0, .int 0, .null, .null, .int 0, .int 0, .int 0, .null, .null, .null, .int 0])), (q_1, .inl (cA, 6, .inl (fun _ => 0))), (q_2, .inl (cA, 6, .inl (fun _ => 0))), (q_4, .inl (cA, 30, .inl (fun _ => 0))), (q_6, .inl (cA, 160, .inl (fun _ => 0))), (q_8, .inl (cA, 1200, .inl (fun _ => 0))), (q_10, .inl (cA, 24, .inl (fun _ => 0))), (q_12, .inl (cA, 30, .inl (fun _ => 0))), (q_14, .inl (cA, 3, .inl (fun _ => 0))), (q_16, .inl (cA, 4, .inl (f_18))), (q_19, .inl (cA, 4, .inl (fun _ => 0))), (q_21, .inl (cA, 160, .inl (fun _ => 0))), (q_23, .inl (cA, 29, .inl (upd (upd (upd f_29 26 49) 27 32) 28 59))), (q_30, .inl (cA, 96, .inl (upd (upd (upd f_45 71 32) 72 111) 73 114)))] A s s.heap H _ := hW'
  clear hW'
  show W p l e _ s m ar below meth c _ _ _ _ Q (F0 m 727 ls _)
  refine lv_dup hx hb dX8_init_727 rfl ?_
  refine lv_bipush (v := 74) hx hb dX8_init_728 (by decide) ?_
  refine lv_bipush (v := 32) hx hb dX8_init_730 (by decide) ?_
  refine lw_iast (t0 := 0) F hW 13 rfl rfl (vp_in_nI (n := 74) (by decide) (by decide)) dX8_init_732 (fun H locs hW' => ?_)
  clear hW
  have hW : LWd D [(cA, .int)] [(h0, .inr (8, [.int 0, .ref q_1, .ref q_2, .ref q_4, .int 0, .ref q_6, .int 0, .ref q_8, .ref q_10, .int 0, .int 0, .int 0, .ref q_12, .ref q_14, .ref q_16, .ref q_19, .ref q_21, .ref q_23, .int 0, .int 0, .int 0, .int 0, .null, .null, .int 0, .int 0, .int 0, .null, .null, .null, .int 0])), (q_1, .inl (cA, 6, .inl (fun _ => 0))), (q_2, .inl (cA, 6, .inl (fun _ => 0))), (q_4, .inl (cA, 30, .inl (fun _ => 0))), (q_6, .inl (cA, 160, .inl (fun _ => 0))), (q_8, .inl (cA, 1200, .inl (fun _ => 0))), (q_10, .inl (cA, 24, .inl (fun _ => 0))), (q_12, .inl (cA, 30, .inl (fun _ => 0))), (q_14, .inl (cA, 3, .inl (fun _ => 0))), (q_16, .inl (cA, 4, .inl (f_18))), (q_19, .inl (cA, 4, .inl (fun _ => 0))), (q_21, .inl (cA, 160, .inl (fun _ => 0))), (q_23, .inl (cA, 29, .inl (upd (upd (upd f_29 26 49) 27 32) 28 59))), (q_30, .inl (cA, 96, .inl (upd (upd (upd (upd f_45 71 32) 72 111) 73 114) 74 32)))] A s s.heap H _ := hW'
  clear hW'
  show W p l e _ s m ar below meth c _ _ _ _ Q (F0 m 733 ls _)
  refine lv_dup hx hb dX8_init_733 rfl ?_
  refine lv_bipush (v := 75) hx hb dX8_init_734 (by decide) ?_
  refine lv_bipush (v := 32) hx hb dX8_init_736 (by decide) ?_
  refine lw_iast (t0 := 0) F hW 13 rfl rfl (vp_in_nI (n := 75) (by decide) (by decide)) dX8_init_738 (fun H locs hW' => ?_)
  clear hW
  have hW : LWd D [(cA, .int)] [(h0, .inr (8, [.int 0, .ref q_1, .ref q_2, .ref q_4, .int 0, .ref q_6, .int 0, .ref q_8, .ref q_10, .int 0, .int 0, .int 0, .ref q_12, .ref q_14, .ref q_16, .ref q_19, .ref q_21, .ref q_23, .int 0, .int 0, .int 0, .int 0, .null, .null, .int 0, .int 0, .int 0, .null, .null, .null, .int 0])), (q_1, .inl (cA, 6, .inl (fun _ => 0))), (q_2, .inl (cA, 6, .inl (fun _ => 0))), (q_4, .inl (cA, 30, .inl (fun _ => 0))), (q_6, .inl (cA, 160, .inl (fun _ => 0))), (q_8, .inl (cA, 1200, .inl (fun _ => 0))), (q_10, .inl (cA, 24, .inl (fun _ => 0))), (q_12, .inl (cA, 30, .inl (fun _ => 0))), (q_14, .inl (cA, 3, .inl (fun _ => 0))), (q_16, .inl (cA, 4, .inl (f_18))), (q_19, .inl (cA, 4, .inl (fun _ => 0))), (q_21, .inl (cA, 160, .inl (fun _ => 0))), (q_23, .inl (cA, 29, .inl (upd (upd (upd f_29 26 49) 27 32) 28 59))), (q_30, .inl (cA, 96, .inl (upd (upd (upd (upd (upd f_45 71 32) 72 111) 73 114) 74 32) 75 32)))] A s s.heap H _ := hW'
  clear hW'
  obtain ⟨f_46, ef_46⟩ : ∃ z : Nat → Int32, z = upd (upd (upd (upd (upd f_45 71 32) 72 111) 73 114) 74 32) 75 32 := ⟨_, rfl⟩
  rw [← ef_46] at hW
  have hW2 : LWd D [(cA, .int)] [(h0, .inr (8, [.int 0, .ref q_1, .ref q_2, .ref q_4, .int 0, .ref q_6, .int 0, .ref q_8, .ref q_10, .int 0, .int 0, .int 0, .ref q_12, .ref q_14, .ref q_16, .ref q_19, .ref q_21, .ref q_23, .int 0, .int 0, .int 0, .int 0, .null, .null, .int 0, .int 0, .int 0, .null, .null, .null, .int 0])), (q_1, .inl (cA, 6, .inl (fun _ => 0))), (q_2, .inl (cA, 6, .inl (fun _ => 0))), (q_4, .inl (cA, 30, .inl (fun _ => 0))), (q_6, .inl (cA, 160, .inl (fun _ => 0))), (q_8, .inl (cA, 1200, .inl (fun _ => 0))), (q_10, .inl (cA, 24, .inl (fun _ => 0))), (q_12, .inl (cA, 30, .inl (fun _ => 0))), (q_14, .inl (cA, 3, .inl (fun _ => 0))), (q_16, .inl (cA, 4, .inl (f_18))), (q_19, .inl (cA, 4, .inl (fun _ => 0))), (q_21, .inl (cA, 160, .inl (fun _ => 0))), (q_23, .inl (cA, 29, .inl (upd (upd (upd f_29 26 49) 27 32) 28 59))), (q_30, .inl (cA, 96, .inl (f_46)))] A s s.heap H _ := hW
  clear hW
  have hW := hW2
  clear hW2
  show W p l e _ s m ar below meth c _ _ _ _ Q (F0 m 739 ls _)
  refine lv_dup hx hb dX8_init_739 rfl ?_
  refine lv_bipush (v := 76) hx hb dX8_init_740 (by decide) ?_
  refine lv_bipush (v := 32) hx hb dX8_init_742 (by decide) ?_
  refine lw_iast (t0 := 0) F hW 13 rfl rfl (vp_in_nI (n := 76) (by decide) (by decide)) dX8_init_744 (fun H locs hW' => ?_)
  clear hW
  have hW : LWd D [(cA, .int)] [(h0, .inr (8, [.int 0, .ref q_1, .ref q_2, .ref q_4, .int 0, .ref q_6, .int 0, .ref q_8, .ref q_10, .int 0, .int 0, .int 0, .ref q_12, .ref q_14, .ref q_16, .ref q_19, .ref q_21, .ref q_23, .int 0, .int 0, .int 0, .int 0, .null, .null, .int 0, .int 0, .int 0, .null, .null, .null, .int 0])), (q_1, .inl (cA, 6, .inl (fun _ => 0))), (q_2, .inl (cA, 6, .inl (fun _ => 0))), (q_4, .inl (cA, 30, .inl (fun _ => 0))), (q_6, .inl (cA, 160, .inl (fun _ => 0))), (q_8, .inl (cA, 1200, .inl (fun _ => 0))), (q_10, .inl (cA, 24, .inl (fun _ => 0))), (q_12, .inl (cA, 30, .inl (fun _ => 0))), (q_14, .inl (cA, 3, .inl (fun _ => 0))), (q_16, .inl (cA, 4, .inl (f_18))), (q_19, .inl (cA, 4, .inl (fun _ => 0))), (q_21, .inl (cA, 160, .inl (fun _ => 0))), (q_23, .inl (cA, 29, .inl (upd (upd (upd f_29 26 49) 27 32) 28 59))), (q_30, .inl (cA, 96, .inl (upd f_46 76 32)))] A s s.heap H _ := hW'
  clear hW'
  show W p l e _ s m ar below meth c _ _ _ _ Q (F0 m 745 ls _)
  refine lv_dup hx hb dX8_init_745 rfl ?_
  refine lv_bipush (v := 77) hx hb dX8_init_746 (by decide) ?_
  refine lv_bipush (v := 32) hx hb dX8_init_748 (by decide) ?_
  refine lw_iast (t0 := 0) F hW 13 rfl rfl (vp_in_nI (n := 77) (by decide) (by decide)) dX8_init_750 (fun H locs hW' => ?_)
  clear hW
  have hW : LWd D [(cA, .int)] [(h0, .inr (8, [.int 0, .ref q_1, .ref q_2, .ref q_4, .int 0, .ref q_6, .int 0, .ref q_8, .ref q_10, .int 0, .int 0, .int 0, .ref q_12, .ref q_14, .ref q_16, .ref q_19, .ref q_21, .ref q_23, .int 0, .int 0, .int 0, .int 0, .null, .null, .int 0, .int 0, .int 0, .null, .null, .null, .int 0])), (q_1, .inl (cA, 6, .inl (fun _ => 0))), (q_2, .inl (cA, 6, .inl (fun _ => 0))), (q_4, .inl (cA, 30, .inl (fun _ => 0))), (q_6, .inl (cA, 160, .inl (fun _ => 0))), (q_8, .inl (cA, 1200, .inl (fun _ => 0))), (q_10, .inl (cA, 24, .inl (fun _ => 0))), (q_12, .inl (cA, 30, .inl (fun _ => 0))), (q_14, .inl (cA, 3, .inl (fun _ => 0))), (q_16, .inl (cA, 4, .inl (f_18))), (q_19, .inl (cA, 4, .inl (fun _ => 0))), (q_21, .inl (cA, 160, .inl (fun _ => 0))), (q_23, .inl (cA, 29, .inl (upd (upd (upd f_29 26 49) 27 32) 28 59))), (q_30, .inl (cA, 96, .inl (upd (upd f_46 76 32) 77 32)))] A s s.heap H _ := hW'
  clear hW'
  show W p l e _ s m ar below meth c _ _ _ _ Q (F0 m 751 ls _)
  refine lv_dup hx hb dX8_init_751 rfl ?_
  refine lv_bipush (v := 78) hx hb dX8_init_752 (by decide) ?_
  refine lv_bipush (v := 32) hx hb dX8_init_754 (by decide) ?_
  refine lw_iast (t0 := 0) F hW 13 rfl rfl (vp_in_nI (n := 78) (by decide) (by decide)) dX8_init_756 (fun H locs hW' => ?_)
  clear hW
  have hW : LWd D [(cA, .int)] [(h0, .inr (8, [.int 0, .ref q_1, .ref q_2, .ref q_4, .int 0, .ref q_6, .int 0, .ref q_8, .ref q_10, .int 0, .int 0, .int 0, .ref q_12, .ref q_14, .ref q_16, .ref q_19, .ref q_21, .ref q_23, .int 0, .int 0, .int 0, .int 0, .null, .null, .int 0, .int 0, .int 0, .null, .null, .null, .int 0])), (q_1, .inl (cA, 6, .inl (fun _ => 0))), (q_2, .inl (cA, 6, .inl (fun _ => 0))), (q_4, .inl (cA, 30, .inl (fun _ => 0))), (q_6, .inl (cA, 160, .inl (fun _ => 0))), (q_8, .inl (cA, 1200, .inl (fun _ => 0))), (q_10, .inl (cA, 24, .inl (fun _ => 0))), (q_12, .inl (cA, 30, .inl (fun _ => 0))), (q_14, .inl (cA, 3, .inl (fun _ => 0))), (q_16, .inl (cA, 4, .inl (f_18))), (q_19, .inl (cA, 4, .inl (fun _ => 0))), (q_21, .inl (cA, 160, .inl (fun _ => 0))), (q_23, .inl (cA, 29, .inl (upd (upd (upd f_29 26 49) 27 32) 28 59))), (q_30, .inl (cA, 96, .inl (upd (upd (upd f_46 76 32) 77 32) 78 32)))] A s s.heap H _ := hW'
  clear hW'
  show W p l e _ s m ar below meth c _ _ _ _ Q (F0 m 757 ls _)
  refine lv_dup hx hb dX8_init_757 rfl ?_
  refine lv_bipush (v := 79) hx hb dX8_init_758 (by decide) ?_
  refine lv_bipush (v := 32) hx hb dX8_init_760 (by decide) ?_
  refine lw_iast (t0 := 0) F hW 13 rfl rfl (vp_in_nI (n := 79) (by decide) (by decide)) dX8_init_762 (fun H locs hW' => ?_)
  clear hW
  have hW : LWd D [(cA, .int)] [(h0, .inr (8, [.int 0, .ref q_1, .ref q_2, .ref q_4, .int 0, .ref q_6, .int 0, .ref q_8, .ref q_10, .int 0, .int 0, .int 0, .ref q_12, .ref q_14, .ref q_16, .ref q_19, .ref q_21, .ref q_23, .int 0, .int 0, .int 0, .int 0, .null, .null, .int 0, .int 0, .int 0, .null, .null, .null, .int 0])), (q_1, .inl (cA, 6, .inl (fun _ => 0))), (q_2, .inl (cA, 6, .inl (fun _ => 0))), (q_4, .inl (cA, 30, .inl (fun _ => 0))), (q_6, .inl (cA, 160, .inl (fun _ => 0))), (q_8, .inl (cA, 1200, .inl (fun _ => 0))), (q_10, .inl (cA, 24, .inl (fun _ => 0))), (q_12, .inl (cA, 30, .inl (fun _ => 0))), (q_14, .inl (cA, 3, .inl (fun _ => 0))), (q_16, .inl (cA, 4, .inl (f_18))), (q_19, .inl (cA, 4, .inl (fun _ => 0))), (q_21, .inl (cA, 160, .inl (fun _ => 0))), (q_23, .inl (cA, 29, .inl (upd (upd (upd f_29 26 49) 27 32) 28 59))), (q_30, .inl (cA, 96, .inl (upd (upd (upd (upd f_46 76 32) 77 32) 78 32) 79 32)))] A s s.heap H _ := hW'
  clear hW'
  show W p l e _ s m ar below meth c _ _ _ _ Q (F0 m 763 ls _)
  refine lv_dup hx hb dX8_init_763 rfl ?_
  refine lv_bipush (v := 80) hx hb dX8_init_764 (by decide) ?_
  refine lv_bipush (v := 97) hx hb dX8_init_766 (by decide) ?_
  refine lw_iast (t0 := 0) F hW 13 rfl rfl (vp_in_nI (n := 80) (by decide) (by decide)) dX8_init_768 (fun H locs hW' => ?_)
  clear hW
  have hW : LWd D [(cA, .int)] [(h0, .inr (8, [.int 0, .ref q_1, .ref q_2, .ref q_4, .int 0, .ref q_6, .int 0, .ref q_8, .ref q_10, .int 0, .int 0, .int 0, .ref q_12, .ref q_14, .ref q_16, .ref q_19, .ref q_21, .ref q_23, .int 0, .int 0, .int 0, .int 0, .null, .null, .int 0, .int 0, .int 0, .null, .null, .null, .int 0])), (q_1, .inl (cA, 6, .inl (fun _ => 0))), (q_2, .inl (cA, 6, .inl (fun _ => 0))), (q_4, .inl (cA, 30, .inl (fun _ => 0))), (q_6, .inl (cA, 160, .inl (fun _ => 0))), (q_8, .inl (cA, 1200, .inl (fun _ => 0))), (q_10, .inl (cA, 24, .inl (fun _ => 0))), (q_12, .inl (cA, 30, .inl (fun _ => 0))), (q_14, .inl (cA, 3, .inl (fun _ => 0))), (q_16, .inl (cA, 4, .inl (f_18))), (q_19, .inl (cA, 4, .inl (fun _ => 0))), (q_21, .inl (cA, 160, .inl (fun _ => 0))), (q_23, .inl (cA, 29, .inl (upd (upd (upd f_29 26 49) 27 32) 28 59))), (q_30, .inl (cA, 96, .inl (upd (upd (upd (upd (upd f_46 76 32) 77 32) 78 32) 79 32) 80 97)))] A s s.heap H _ := hW'
  clear hW'
  obtain ⟨f_47, ef_47⟩ : ∃ z : Nat → Int32, z = upd (upd (upd (upd (upd f_46 76 32) 77 32) 78 32) 79 32) 80 97 := ⟨_, rfl⟩
  rw [← ef_47] at hW
  have hW2 : LWd D [(cA, .int)] [(h0, .inr (8, [.int 0, .ref q_1, .ref q_2, .ref q_4, .int 0, .ref q_6, .int 0, .ref q_8, .ref q_10, .int 0, .int 0, .int 0, .ref q_12, .ref q_14, .ref q_16, .ref q_19, .ref q_21, .ref q_23, .int 0, .int 0, .int 0, .int 0, .null, .null, .int 0, .int 0, .int 0, .null, .null, .null, .int 0])), (q_1, .inl (cA, 6, .inl (fun _ => 0))), (q_2, .inl (cA, 6, .inl (fun _ => 0))), (q_4, .inl (cA, 30, .inl (fun _ => 0))), (q_6, .inl (cA, 160, .inl (fun _ => 0))), (q_8, .inl (cA, 1200, .inl (fun _ => 0))), (q_10, .inl (cA, 24, .inl (fun _ => 0))), (q_12, .inl (cA, 30, .inl (fun _ => 0))), (q_14, .inl (cA, 3, .inl (fun _ => 0))), (q_16, .inl (cA, 4, .inl (f_18))), (q_19, .inl (cA, 4, .inl (fun _ => 0))), (q_21, .inl (cA, 160, .inl (fun _ => 0))), (q_23, .inl (cA, 29, .inl (upd (upd (upd f_29 26 49) 27 32) 28 59))), (q_30, .inl (cA, 96, .inl (f_47)))] A s s.heap H _ := hW
  clear hW
  have hW := hW2
  clear hW2
  show W p l e _ s m ar below meth c _ _ _ _ Q (F0 m 769 ls _)
  refine lv_dup hx hb dX8_init_769 rfl ?_
  refine lv_bipush (v := 81) hx hb dX8_init_770 (by decide) ?_
  refine lv_bipush (v := 110) hx hb dX8_init_772 (by decide) ?_
  refine lw_iast (t0 := 0) F hW 13 rfl rfl (vp_in_nI (n := 81) (by decide) (by decide)) dX8_init_774 (fun H locs hW' => ?_)
  clear hW
  have hW : LWd D [(cA, .int)] [(h0, .inr (8, [.int 0, .ref q_1, .ref q_2, .ref q_4, .int 0, .ref q_6, .int 0, .ref q_8, .ref q_10, .int 0, .int 0, .int 0, .ref q_12, .ref q_14, .ref q_16, .ref q_19, .ref q_21, .ref q_23, .int 0, .int 0, .int 0, .int 0, .null, .null, .int 0, .int 0, .int 0, .null, .null, .null, .int 0])), (q_1, .inl (cA, 6, .inl (fun _ => 0))), (q_2, .inl (cA, 6, .inl (fun _ => 0))), (q_4, .inl (cA, 30, .inl (fun _ => 0))), (q_6, .inl (cA, 160, .inl (fun _ => 0))), (q_8, .inl (cA, 1200, .inl (fun _ => 0))), (q_10, .inl (cA, 24, .inl (fun _ => 0))), (q_12, .inl (cA, 30, .inl (fun _ => 0))), (q_14, .inl (cA, 3, .inl (fun _ => 0))), (q_16, .inl (cA, 4, .inl (f_18))), (q_19, .inl (cA, 4, .inl (fun _ => 0))), (q_21, .inl (cA, 160, .inl (fun _ => 0))), (q_23, .inl (cA, 29, .inl (upd (upd (upd f_29 26 49) 27 32) 28 59))), (q_30, .inl (cA, 96, .inl (upd f_47 81 110)))] A s s.heap H _ := hW'
  clear hW'
  show W p l e _ s m ar below meth c _ _ _ _ Q (F0 m 775 ls _)
  refine lv_dup hx hb dX8_init_775 rfl ?_
  refine lv_bipush (v := 82) hx hb dX8_init_776 (by decide) ?_
  refine lv_bipush (v := 100) hx hb dX8_init_778 (by decide) ?_
  refine lw_iast (t0 := 0) F hW 13 rfl rfl (vp_in_nI (n := 82) (by decide) (by decide)) dX8_init_780 (fun H locs hW' => ?_)
  clear hW
  have hW : LWd D [(cA, .int)] [(h0, .inr (8, [.int 0, .ref q_1, .ref q_2, .ref q_4, .int 0, .ref q_6, .int 0, .ref q_8, .ref q_10, .int 0, .int 0, .int 0, .ref q_12, .ref q_14, .ref q_16, .ref q_19, .ref q_21, .ref q_23, .int 0, .int 0, .int 0, .int 0, .null, .null, .int 0, .int 0, .int 0, .null, .null, .null, .int 0])), (q_1, .inl (cA, 6, .inl (fun _ => 0))), (q_2, .inl (cA, 6, .inl (fun _ => 0))), (q_4, .inl (cA, 30, .inl (fun _ => 0))), (q_6, .inl (cA, 160, .inl (fun _ => 0))), (q_8, .inl (cA, 1200, .inl (fun _ => 0))), (q_10, .inl (cA, 24, .inl (fun _ => 0))), (q_12, .inl (cA, 30, .inl (fun _ => 0))), (q_14, .inl (cA, 3, .inl (fun _ => 0))), (q_16, .inl (cA, 4, .inl (f_18))), (q_19, .inl (cA, 4, .inl (fun _ => 0))), (q_21, .inl (cA, 160, .inl (fun _ => 0))), (q_23, .inl (cA, 29, .inl (upd (upd (upd f_29 26 49) 27 32) 28 59))), (q_30, .inl (cA, 96, .inl (upd (upd f_47 81 110) 82 100)))] A s s.heap H _ := hW'
  clear hW'
  show W p l e _ s m ar below meth c _ _ _ _ Q (F0 m 781 ls _)
  refine lv_dup hx hb dX8_init_781 rfl ?_
  refine lv_bipush (v := 83) hx hb dX8_init_782 (by decide) ?_
  refine lv_bipush (v := 32) hx hb dX8_init_784 (by decide) ?_
  refine lw_iast (t0 := 0) F hW 13 rfl rfl (vp_in_nI (n := 83) (by decide) (by decide)) dX8_init_786 (fun H locs hW' => ?_)
  clear hW
  have hW : LWd D [(cA, .int)] [(h0, .inr (8, [.int 0, .ref q_1, .ref q_2, .ref q_4, .int 0, .ref q_6, .int 0, .ref q_8, .ref q_10, .int 0, .int 0, .int 0, .ref q_12, .ref q_14, .ref q_16, .ref q_19, .ref q_21, .ref q_23, .int 0, .int 0, .int 0, .int 0, .null, .null, .int 0, .int 0, .int 0, .null, .null, .null, .int 0])), (q_1, .inl (cA, 6, .inl (fun _ => 0))), (q_2, .inl (cA, 6, .inl (fun _ => 0))), (q_4, .inl (cA, 30, .inl (fun _ => 0))), (q_6, .inl (cA, 160, .inl (fun _ => 0))), (q_8, .inl (cA, 1200, .inl (fun _ => 0))), (q_10, .inl (cA, 24, .inl (fun _ => 0))), (q_12, .inl (cA, 30, .inl (fun _ => 0))), (q_14, .inl (cA, 3, .inl (fun _ => 0))), (q_16, .inl (cA, 4, .inl (f_18))), (q_19, .inl (cA, 4, .inl (fun _ => 0))), (q_21, .inl (cA, 160, .inl (fun _ => 0))), (q_23, .inl (cA, 29, .inl (upd (upd (upd f_29 26 49) 27 32) 28 59))), (q_30, .inl (cA, 96, .inl (upd (upd (upd f_47 81 110) 82 100) 83 32)))] A s s.heap H _ := hW'
  clear hW'
  show W p l e _ s m ar below meth c _ _ _ _ Q (F0 m 787 ls _)
  refine lv_dup hx hb dX8_init_787 rfl ?_
  refine lv_bipush (v := 84) hx hb dX8_init_788 (by decide) ?_
  refine lv_bipush (v := 32) hx hb dX8_init_790 (by decide) ?_
  refine lw_iast (t0 := 0) F hW 13 rfl rfl (vp_in_nI (n := 84) (by decide) (by decide)) dX8_init_792 (fun H locs hW' => ?_)
  clear hW
  have hW : LWd D [(cA, .int)] [(h0, .inr (8, [.int 0, .ref q_1, .ref q_2, .ref q_4, .int 0, .ref q_6, .int 0, .ref q_8, .ref q_10, .int 0, .int 0, .int 0, .ref q_12, .ref q_14, .ref q_16, .ref q_19, .ref q_21, .ref q_23, .int 0, .int 0, .int 0, .int 0, .null, .null, .int 0, .int 0, .int 0, .null, .null, .null, .int 0])), (q_1, .inl (cA, 6, .inl (fun _ => 0))), (q_2, .inl (cA, 6, .inl (fun _ => 0))), (q_4, .inl (cA, 30, .inl (fun _ => 0))), (q_6, .inl (cA, 160, .inl (fun _ => 0))), (q_8, .inl (cA, 1200, .inl (fun _ => 0))), (q_10, .inl (cA, 24, .inl (fun _ => 0))), (q_12, .inl (cA, 30, .inl (fun _ => 0))), (q_14, .inl (cA, 3, .inl (fun _ => 0))), (q_16, .inl (cA, 4, .inl (f_18))), (q_19, .inl (cA, 4, .inl (fun _ => 0))), (q_21, .inl (cA, 160, .inl (fun _ => 0))), (q_23, .inl (cA, 29, .inl (upd (upd (upd f_29 26 49) 27 32) 28 59))), (q_30, .inl (cA, 96, .inl (upd (upd (upd (upd f_47 81 110) 82 100) 83 32) 84 32)))] A s s.heap H _ := hW'
  clear hW'
  show W p l e _ s m ar below meth c _ _ _ _ Q (F0 m 793 ls _)
  refine lv_dup hx hb dX8_init_793 rfl ?_
  refine lv_bipush (v := 85) hx hb dX8_init_794 (by decide) ?_
  refine lv_bipush (v := 32) hx hb dX8_init_796 (by decide) ?_
  refine lw_iast (t0 := 0) F hW 13 rfl rfl (vp_in_nI (n := 85) (by decide) (by decide)) dX8_init_798 (fun H locs hW' => ?_)
  clear hW
  have hW : LWd D [(cA, .int)] [(h0, .inr (8, [.int 0, .ref q_1, .ref q_2, .ref q_4, .int 0, .ref q_6, .int 0, .ref q_8, .ref q_10, .int 0, .int 0, .int 0, .ref q_12, .ref q_14, .ref q_16, .ref q_19, .ref q_21, .ref q_23, .int 0, .int 0, .int 0, .int 0, .null, .null, .int 0, .int 0, .int 0, .null, .null, .null, .int 0])), (q_1, .inl (cA, 6, .inl (fun _ => 0))), (q_2, .inl (cA, 6, .inl (fun _ => 0))), (q_4, .inl (cA, 30, .inl (fun _ => 0))), (q_6, .inl (cA, 160, .inl (fun _ => 0))), (q_8, .inl (cA, 1200, .inl (fun _ => 0))), (q_10, .inl (cA, 24, .inl (fun _ => 0))), (q_12, .inl (cA, 30, .inl (fun _ => 0))), (q_14, .inl (cA, 3, .inl (fun _ => 0))), (q_16, .inl (cA, 4, .inl (f_18))), (q_19, .inl (cA, 4, .inl (fun _ => 0))), (q_21, .inl (cA, 160, .inl (fun _ => 0))), (q_23, .inl (cA, 29, .inl (upd (upd (upd f_29 26 49) 27 32) 28 59))), (q_30, .inl (cA, 96, .inl (upd (upd (upd (upd (upd f_47 81 110) 82 100) 83 32) 84 32) 85 32)))] A s s.heap H _ := hW'
  clear hW'
  obtain ⟨f_48, ef_48⟩ : ∃ z : Nat → Int32, z = upd (upd (upd (upd (upd f_47 81 110) 82 100) 83 32) 84 32) 85 32 := ⟨_, rfl⟩
  rw [← ef_48] at hW
  have hW2 : LWd D [(cA, .int)] [(h0, .inr (8, [.int 0, .ref q_1, .ref q_2, .ref q_4, .int 0, .ref q_6, .int 0, .ref q_8, .ref q_10, .int 0, .int 0, .int 0, .ref q_12, .ref q_14, .ref q_16, .ref q_19, .ref q_21, .ref q_23, .int 0, .int 0, .int 0, .int 0, .null, .null, .int 0, .int 0, .int 0, .null, .null, .null, .int 0])), (q_1, .inl (cA, 6, .inl (fun _ => 0))), (q_2, .inl (cA, 6, .inl (fun _ => 0))), (q_4, .inl (cA, 30, .inl (fun _ => 0))), (q_6, .inl (cA, 160, .inl (fun _ => 0))), (q_8, .inl (cA, 1200, .inl (fun _ => 0))), (q_10, .inl (cA, 24, .inl (fun _ => 0))), (q_12, .inl (cA, 30, .inl (fun _ => 0))), (q_14, .inl (cA, 3, .inl (fun _ => 0))), (q_16, .inl (cA, 4, .inl (f_18))), (q_19, .inl (cA, 4, .inl (fun _ => 0))), (q_21, .inl (cA, 160, .inl (fun _ => 0))), (q_23, .inl (cA, 29, .inl (upd (upd (upd f_29 26 49) 27 32) 28 59))), (q_30, .inl (cA, 96, .inl (f_48)))] A s s.heap H _ := hW
  clear hW
  have hW := hW2
  clear hW2
  show W p l e _ s m ar below meth c _ _ _ _ Q (F0 m 799 ls _)
  refine lv_dup hx hb dX8_init_799 rfl ?_
  refine lv_bipush (v := 86) hx hb dX8_init_800 (by decide) ?_
  refine lv_bipush (v := 32) hx hb dX8_init_802 (by decide) ?_
  refine lw_iast (t0 := 0) F hW 13 rfl rfl (vp_in_nI (n := 86) (by decide) (by decide)) dX8_init_804 (fun H locs hW' => ?_)
  clear hW
  have hW : LWd D [(cA, .int)] [(h0, .inr (8, [.int 0, .ref q_1, .ref q_2, .ref q_4, .int 0, .ref q_6, .int 0, .ref q_8, .ref q_10, .int 0, .int 0, .int 0, .ref q_12, .ref q_14, .ref q_16, .ref q_19, .ref q_21, .ref q_23, .int 0, .int 0, .int 0, .int 0, .null, .null, .int 0, .int 0, .int 0, .null, .null, .null, .int 0])), (q_1, .inl (cA, 6, .inl (fun _ => 0))), (q_2, .inl (cA, 6, .inl (fun _ => 0))), (q_4, .inl (cA, 30, .inl (fun _ => 0))), (q_6, .inl (cA, 160, .inl (fun _ => 0))), (q_8, .inl (cA, 1200, .inl (fun _ => 0))), (q_10, .inl (cA, 24, .inl (fun _ => 0))), (q_12, .inl (cA, 30, .inl (fun _ => 0))), (q_14, .inl (cA, 3, .inl (fun _ => 0))), (q_16, .inl (cA, 4, .inl (f_18))), (q_19, .inl (cA, 4, .inl (fun _ => 0))), (q_21, .inl (cA, 160, .inl (fun _ => 0))), (q_23, .inl (cA, 29, .inl (upd (upd (upd f_29 26 49) 27 32) 28 59))), (q_30, .inl (cA, 96, .inl (upd f_48 86 32)))] A s s.heap H _ := hW'
  clear hW'
  show W p l e _ s m ar below meth c _ _ _ _ Q (F0 m 805 ls _)
  refine lv_dup hx hb dX8_init_805 rfl ?_
  refine lv_bipush (v := 87) hx hb dX8_init_806 (by decide) ?_
  refine lv_bipush (v := 32) hx hb dX8_init_808 (by decide) ?_
  refine lw_iast (t0 := 0) F hW 13 rfl rfl (vp_in_nI (n := 87) (by decide) (by decide)) dX8_init_810 (fun H locs hW' => ?_)
  clear hW
  have hW : LWd D [(cA, .int)] [(h0, .inr (8, [.int 0, .ref q_1, .ref q_2, .ref q_4, .int 0, .ref q_6, .int 0, .ref q_8, .ref q_10, .int 0, .int 0, .int 0, .ref q_12, .ref q_14, .ref q_16, .ref q_19, .ref q_21, .ref q_23, .int 0, .int 0, .int 0, .int 0, .null, .null, .int 0, .int 0, .int 0, .null, .null, .null, .int 0])), (q_1, .inl (cA, 6, .inl (fun _ => 0))), (q_2, .inl (cA, 6, .inl (fun _ => 0))), (q_4, .inl (cA, 30, .inl (fun _ => 0))), (q_6, .inl (cA, 160, .inl (fun _ => 0))), (q_8, .inl (cA, 1200, .inl (fun _ => 0))), (q_10, .inl (cA, 24, .inl (fun _ => 0))), (q_12, .inl (cA, 30, .inl (fun _ => 0))), (q_14, .inl (cA, 3, .inl (fun _ => 0))), (q_16, .inl (cA, 4, .inl (f_18))), (q_19, .inl (cA, 4, .inl (fun _ => 0))), (q_21, .inl (cA, 160, .inl (fun _ => 0))), (q_23, .inl (cA, 29, .inl (upd (upd (upd f_29 26 49) 27 32) 28 59))), (q_30, .inl (cA, 96, .inl (upd (upd f_48 86 32) 87 32)))] A s s.heap H _ := hW'
  clear hW'
  show W p l e _ s m ar below meth c _ _ _ _ Q (F0 m 811 ls _)
  refine lv_dup hx hb dX8_init_811 rfl ?_
  refine lv_bipush (v := 88) hx hb dX8_init_812 (by decide) ?_
  refine lv_bipush (v := 110) hx hb dX8_init_814 (by decide) ?_
  refine lw_iast (t0 := 0) F hW 13 rfl rfl (vp_in_nI (n := 88) (by decide) (by decide)) dX8_init_816 (fun H locs hW' => ?_)
  clear hW
  have hW : LWd D [(cA, .int)] [(h0, .inr (8, [.int 0, .ref q_1, .ref q_2, .ref q_4, .int 0, .ref q_6, .int 0, .ref q_8, .ref q_10, .int 0, .int 0, .int 0, .ref q_12, .ref q_14, .ref q_16, .ref q_19, .ref q_21, .ref q_23, .int 0, .int 0, .int 0, .int 0, .null, .null, .int 0, .int 0, .int 0, .null, .null, .null, .int 0])), (q_1, .inl (cA, 6, .inl (fun _ => 0))), (q_2, .inl (cA, 6, .inl (fun _ => 0))), (q_4, .inl (cA, 30, .inl (fun _ => 0))), (q_6, .inl (cA, 160, .inl (fun _ => 0))), (q_8, .inl (cA, 1200, .inl (fun _ => 0))), (q_10, .inl (cA, 24, .inl (fun _ => 0))), (q_12, .inl (cA, 30, .inl (fun _ => 0))), (q_14, .inl (cA, 3, .inl (fun _ => 0))), (q_16, .inl (cA, 4, .inl (f_18))), (q_19, .inl (cA, 4, .inl (fun _ => 0))), (q_21, .inl (cA, 160, .inl (fun _ => 0))), (q_23, .inl (cA, 29, .inl (upd (upd (upd f_29 26 49) 27 32) 28 59))), (q_30, .inl (cA, 96, .inl (upd (upd (upd f_48 86 32) 87 32) 88 110)))] A s s.heap H _ := hW'
  clear hW'
  show W p l e _ s m ar below meth c _ _ _ _ Q (F0 m 817 ls _)
  refine lv_dup hx hb dX8_init_817 rfl ?_
  refine lv_bipush (v := 89) hx hb dX8_init_818 (by decide) ?_
  refine lv_bipush (v := 111) hx hb dX8_init_820 (by decide) ?_
  refine lw_iast (t0 := 0) F hW 13 rfl rfl (vp_in_nI (n := 89) (by decide) (by decide)) dX8_init_822 (fun H locs hW' => ?_)
  clear hW
  have hW : LWd D [(cA, .int)] [(h0, .inr (8, [.int 0, .ref q_1, .ref q_2, .ref q_4, .int 0, .ref q_6, .int 0, .ref q_8, .ref q_10, .int 0, .int 0, .int 0, .ref q_12, .ref q_14, .ref q_16, .ref q_19, .ref q_21, .ref q_23, .int 0, .int 0, .int 0, .int 0, .null, .null, .int 0, .int 0, .int 0, .null, .null, .null, .int 0])), (q_1, .inl (cA, 6, .inl (fun _ => 0))), (q_2, .inl (cA, 6, .inl (fun _ => 0))), (q_4, .inl (cA, 30, .inl (fun _ => 0))), (q_6, .inl (cA, 160, .inl (fun _ => 0))), (q_8, .inl (cA, 1200, .inl (fun _ => 0))), (q_10, .inl (cA, 24, .inl (fun _ => 0))), (q_12, .inl (cA, 30, .inl (fun _ => 0))), (q_14, .inl (cA, 3, .inl (fun _ => 0))), (q_16, .inl (cA, 4, .inl (f_18))), (q_19, .inl (cA, 4, .inl (fun _ => 0))), (q_21, .inl (cA, 160, .inl (fun _ => 0))), (q_23, .inl (cA, 29, .inl (upd (upd (upd f_29 26 49) 27 32) 28 59))), (q_30, .inl (cA, 96, .inl (upd (upd (upd (upd f_48 86 32) 87 32) 88 110) 89 111)))] A s s.heap H _ := hW'
  clear hW'
  show W p l e _ s m ar below meth c _ _ _ _ Q (F0 m 823 ls _)
  refine lv_dup hx hb dX8_init_823 rfl ?_
  refine lv_bipush (v := 90) hx hb dX8_init_824 (by decide) ?_
  refine lv_bipush (v := 116) hx hb dX8_init_826 (by decide) ?_
  refine lw_iast (t0 := 0) F hW 13 rfl rfl (vp_in_nI (n := 90) (by decide) (by decide)) dX8_init_828 (fun H locs hW' => ?_)
  clear hW
  have hW : LWd D [(cA, .int)] [(h0, .inr (8, [.int 0, .ref q_1, .ref q_2, .ref q_4, .int 0, .ref q_6, .int 0, .ref q_8, .ref q_10, .int 0, .int 0, .int 0, .ref q_12, .ref q_14, .ref q_16, .ref q_19, .ref q_21, .ref q_23, .int 0, .int 0, .int 0, .int 0, .null, .null, .int 0, .int 0, .int 0, .null, .null, .null, .int 0])), (q_1, .inl (cA, 6, .inl (fun _ => 0))), (q_2, .inl (cA, 6, .inl (fun _ => 0))), (q_4, .inl (cA, 30, .inl (fun _ => 0))), (q_6, .inl (cA, 160, .inl (fun _ => 0))), (q_8, .inl (cA, 1200, .inl (fun _ => 0))), (q_10, .inl (cA, 24, .inl (fun _ => 0))), (q_12, .inl (cA, 30, .inl (fun _ => 0))), (q_14, .inl (cA, 3, .inl (fun _ => 0))), (q_16, .inl (cA, 4, .inl (f_18))), (q_19, .inl (cA, 4, .inl (fun _ => 0))), (q_21, .inl (cA, 160, .inl (fun _ => 0))), (q_23, .inl (cA, 29, .inl (upd (upd (upd f_29 26 49) 27 32) 28 59))), (q_30, .inl (cA, 96, .inl (upd (upd (upd (upd (upd f_48 86 32) 87 32) 88 110) 89 111) 90 116)))] A s s.heap H _ := hW'
  clear hW'
  obtain ⟨f_49, ef_49⟩ : ∃ z : Nat → Int32, z = upd (upd (upd (upd (upd f_48 86 32) 87 32) 88 110) 89 111) 90 116 := ⟨_, rfl⟩
  rw [← ef_49] at hW
  have hW2 : LWd D [(cA, .int)] [(h0, .inr (8, [.int 0, .ref q_1, .ref q_2, .ref q_4, .int 0, .ref q_6, .int 0, .ref q_8, .ref q_10, .int 0, .int 0, .int 0, .ref q_12, .ref q_14, .ref q_16, .ref q_19, .ref q_21, .ref q_23, .int 0, .int 0, .int 0, .int 0, .null, .null, .int 0, .int 0, .int 0, .null, .null, .null, .int 0])), (q_1, .inl (cA, 6, .inl (fun _ => 0))), (q_2, .inl (cA, 6, .inl (fun _ => 0))), (q_4, .inl (cA, 30, .inl (fun _ => 0))), (q_6, .inl (cA, 160, .inl (fun _ => 0))), (q_8, .inl (cA, 1200, .inl (fun _ => 0))), (q_10, .inl (cA, 24, .inl (fun _ => 0))), (q_12, .inl (cA, 30, .inl (fun _ => 0))), (q_14, .inl (cA, 3, .inl (fun _ => 0))), (q_16, .inl (cA, 4, .inl (f_18))), (q_19, .inl (cA, 4, .inl (fun _ => 0))), (q_21, .inl (cA, 160, .inl (fun _ => 0))), (q_23, .inl (cA, 29, .inl (upd (upd (upd f_29 26 49) 27 32) 28 59))), (q_30, .inl (cA, 96, .inl (f_49)))] A s s.heap H _ := hW
  clear hW
  have hW := hW2
  clear hW2
  show W p l e _ s m ar below meth c _ _ _ _ Q (F0 m 829 ls _)
  refine lv_dup hx hb dX8_init_829 rfl ?_
  refine lv_bipush (v := 91) hx hb dX8_init_830 (by decide) ?_
  refine lv_bipush (v := 32) hx hb dX8_init_832 (by decide) ?_
  refine lw_iast (t0 := 0) F hW 13 rfl rfl (vp_in_nI (n := 91) (by decide) (by decide)) dX8_init_834 (fun H locs hW' => ?_)
  clear hW
  have hW : LWd D [(cA, .int)] [(h0, .inr (8, [.int 0, .ref q_1, .ref q_2, .ref q_4, .int 0, .ref q_6, .int 0, .ref q_8, .ref q_10, .int 0, .int 0, .int 0, .ref q_12, .ref q_14, .ref q_16, .ref q_19, .ref q_21, .ref q_23, .int 0, .int 0, .int 0, .int 0, .null, .null, .int 0, .int 0, .int 0, .null, .null, .null, .int 0])), (q_1, .inl (cA, 6, .inl (fun _ => 0))), (q_2, .inl (cA, 6, .inl (fun _ => 0))), (q_4, .inl (cA, 30, .inl (fun _ => 0))), (q_6, .inl (cA, 160, .inl (fun _ => 0))), (q_8, .inl (cA, 1200, .inl (fun _ => 0))), (q_10, .inl (cA, 24, .inl (fun _ => 0))), (q_12, .inl (cA, 30, .inl (fun _ => 0))), (q_14, .inl (cA, 3, .inl (fun _ => 0))), (q_16, .inl (cA, 4, .inl (f_18))), (q_19, .inl (cA, 4, .inl (fun _ => 0))), (q_21, .inl (cA, 160, .inl (fun _ => 0))), (q_23, .inl (cA, 29, .inl (upd (upd (upd f_29 26 49) 27 32) 28 59))), (q_30, .inl (cA, 96, .inl (upd f_49 91 32)))] A s s.heap H _ := hW'
  clear hW'
  show W p l e _ s m ar below meth c _ _ _ _ Q (F0 m 835 ls _)
  refine lv_dup hx hb dX8_init_835 rfl ?_
  refine lv_bipush (v := 92) hx hb dX8_init_836 (by decide) ?_
  refine lv_bipush (v := 32) hx hb dX8_init_838 (by decide) ?_
  refine lw_iast (t0 := 0) F hW 13 rfl rfl (vp_in_nI (n := 92) (by decide) (by decide)) dX8_init_840 (fun H locs hW' => ?_)
  clear hW
  have hW : LWd D [(cA, .int)] [(h0, .inr (8, [.int 0, .ref q_1, .ref q_2, .ref q_4, .int 0, .ref q_6, .int 0, .ref q_8, .ref q_10, .int 0, .int 0, .int 0, .ref q_12, .ref q_14, .ref q_16, .ref q_19, .ref q_21, .ref q_23, .int 0, .int 0, .int 0, .int 0, .null, .null, .int 0, .int 0, .int 0, .null, .null, .null, .int 0])), (q_1, .inl (cA, 6, .inl (fun _ => 0))), (q_2, .inl (cA, 6, .inl (fun _ => 0))), (q_4, .inl (cA, 30, .inl (fun _ => 0))), (q_6, .inl (cA, 160, .inl (fun _ => 0))), (q_8, .inl (cA, 1200, .inl (fun _ => 0))), (q_10, .inl (cA, 24, .inl (fun _ => 0))), (q_12, .inl (cA, 30, .inl (fun _ => 0))), (q_14, .inl (cA, 3, .inl (fun _ => 0))), (q_16, .inl (cA, 4, .inl (f_18))), (q_19, .inl (cA, 4, .inl (fun _ => 0))), (q_21, .inl (cA, 160, .inl (fun _ => 0))), (q_23, .inl (cA, 29, .inl (upd (upd (upd f_29 26 49) 27 32) 28 59))), (q_30, .inl (cA, 96, .inl (upd (upd f_49 91 32) 92 32)))] A s s.heap H _ := hW'
  clear hW'
  show W p l e _ s m ar below meth c _ _ _ _ Q (F0 m 841 ls _)
  refine lv_dup hx hb dX8_init_841 rfl ?_
  refine lv_bipush (v := 93) hx hb dX8_init_842 (by decide) ?_
  refine lv_bipush (v := 32) hx hb dX8_init_844 (by decide) ?_
  refine lw_iast (t0 := 0) F hW 13 rfl rfl (vp_in_nI (n := 93) (by decide) (by decide)) dX8_init_846 (fun H locs hW' => ?_)
  clear hW
  have hW : LWd D [(cA, .int)] [(h0, .inr (8, [.int 0, .ref q_1, .ref q_2, .ref q_4, .int 0, .ref q_6, .int 0, .ref q_8, .ref q_10, .int 0, .int 0, .int 0, .ref q_12, .ref q_14, .ref q_16, .ref q_19, .ref q_21, .ref q_23, .int 0, .int 0, .int 0, .int 0, .null, .null, .int 0, .int 0, .int 0, .null, .null, .null, .int 0])), (q_1, .inl (cA, 6, .inl (fun _ => 0))), (q_2, .inl (cA, 6, .inl (fun _ => 0))), (q_4, .inl (cA, 30, .inl (fun _ => 0))), (q_6, .inl (cA, 160, .inl (fun _ => 0))), (q_8, .inl (cA, 1200, .inl (fun _ => 0))), (q_10, .inl (cA, 24, .inl (fun _ => 0))), (q_12, .inl (cA, 30, .inl (fun _ => 0))), (q_14, .inl (cA, 3, .inl (fun _ => 0))), (q_16, .inl (cA, 4, .inl (f_18))), (q_19, .inl (cA, 4, .inl (fun _ => 0))), (q_21, .inl (cA, 160, .inl (fun _ => 0))), (q_23, .inl (cA, 29, .inl (upd (upd (upd f_29 26 49) 27 32) 28 59))), (q_30, .inl (cA, 96, .inl (upd (upd (upd f_49 91 32) 92 32) 93 32)))] A s s.heap H _ := hW'
  clear hW'
  show W p l e _ s m ar below meth c _ _ _ _ Q (F0 m 847 ls _)
  refine lv_dup hx hb dX8_init_847 rfl ?_
  refine lv_bipush (v := 94) hx hb dX8_init_848 (by decide) ?_
  refine lv_bipush (v := 32) hx hb dX8_init_850 (by decide) ?_
  refine lw_iast (t0 := 0) F hW 13 rfl rfl (vp_in_nI (n := 94) (by decide) (by decide)) dX8_init_852 (fun H locs hW' => ?_)
  clear hW
  have hW : LWd D [(cA, .int)] [(h0, .inr (8, [.int 0, .ref q_1, .ref q_2, .ref q_4, .int 0, .ref q_6, .int 0, .ref q_8, .ref q_10, .int 0, .int 0, .int 0, .ref q_12, .ref q_14, .ref q_16, .ref q_19, .ref q_21, .ref q_23, .int 0, .int 0, .int 0, .int 0, .null, .null, .int 0, .int 0, .int 0, .null, .null, .null, .int 0])), (q_1, .inl (cA, 6, .inl (fun _ => 0))), (q_2, .inl (cA, 6, .inl (fun _ => 0))), (q_4, .inl (cA, 30, .inl (fun _ => 0))), (q_6, .inl (cA, 160, .inl (fun _ => 0))), (q_8, .inl (cA, 1200, .inl (fun _ => 0))), (q_10, .inl (cA, 24, .inl (fun _ => 0))), (q_12, .inl (cA, 30, .inl (fun _ => 0))), (q_14, .inl (cA, 3, .inl (fun _ => 0))), (q_16, .inl (cA, 4, .inl (f_18))), (q_19, .inl (cA, 4, .inl (fun _ => 0))), (q_21, .inl (cA, 160, .inl (fun _ => 0))), (q_23, .inl (cA, 29, .inl (upd (upd (upd f_29 26 49) 27 32) 28 59))), (q_30, .inl (cA, 96, .inl (upd (upd (upd (upd f_49 91 32) 92 32) 93 32) 94 32)))] A s s.heap H _ := hW'
  clear hW'
  show W p l e _ s m ar below meth c _ _ _ _ Q (F0 m 853 ls _)
  refine lv_dup hx hb dX8_init_853 rfl ?_
  refine lv_bipush (v := 95) hx hb dX8_init_854 (by decide) ?_
  refine lv_bipush (v := 32) hx hb dX8_init_856 (by decide) ?_
  refine lw_iast (t0 := 0) F hW 13 rfl rfl (vp_in_nI (n := 95) (by decide) (by decide)) dX8_init_858 (fun H locs hW' => ?_)
  clear hW
  have hW : LWd D [(cA, .int)] [(h0, .inr (8, [.int 0, .ref q_1, .ref q_2, .ref q_4, .int 0, .ref q_6, .int 0, .ref q_8, .ref q_10, .int 0, .int 0, .int 0, .ref q_12, .ref q_14, .ref q_16, .ref q_19, .ref q_21, .ref q_23, .int 0, .int 0, .int 0, .int 0, .null, .null, .int 0, .int 0, .int 0, .null, .null, .null, .int 0])), (q_1, .inl (cA, 6, .inl (fun _ => 0))), (q_2, .inl (cA, 6, .inl (fun _ => 0))), (q_4, .inl (cA, 30, .inl (fun _ => 0))), (q_6, .inl (cA, 160, .inl (fun _ => 0))), (q_8, .inl (cA, 1200, .inl (fun _ => 0))), (q_10, .inl (cA, 24, .inl (fun _ => 0))), (q_12, .inl (cA, 30, .inl (fun _ => 0))), (q_14, .inl (cA, 3, .inl (fun _ => 0))), (q_16, .inl (cA, 4, .inl (f_18))), (q_19, .inl (cA, 4, .inl (fun _ => 0))), (q_21, .inl (cA, 160, .inl (fun _ => 0))), (q_23, .inl (cA, 29, .inl (upd (upd (upd f_29 26 49) 27 32) 28 59))), (q_30, .inl (cA, 96, .inl (upd (upd (upd (upd (upd f_49 91 32) 92 32) 93 32) 94 32) 95 32)))] A s s.heap H _ := hW'
  clear hW'
  obtain ⟨f_50, ef_50⟩ : ∃ z : Nat → Int32, z = upd (upd (upd (upd (upd f_49 91 32) 92 32) 93 32) 94 32) 95 32 := ⟨_, rfl⟩
  rw [← ef_50] at hW
  have hW2 : LWd D [(cA, .int)] [(h0, .inr (8, [.int 0, .ref q_1, .ref q_2, .ref q_4, .int 0, .ref q_6, .int 0, .ref q_8, .ref q_10, .int 0, .int 0, .int 0, .ref q_12, .ref q_14, .ref q_16, .ref q_19, .ref q_21, .ref q_23, .int 0, .int 0, .int 0, .int 0, .null, .null, .int 0, .int 0, .int 0, .null, .null, .null, .int 0])), (q_1, .inl (cA, 6, .inl (fun _ => 0))), (q_2, .inl (cA, 6, .inl (fun _ => 0))), (q_4, .inl (cA, 30, .inl (fun _ => 0))), (q_6, .inl (cA, 160, .inl (fun _ => 0))), (q_8, .inl (cA, 1200, .inl (fun _ => 0))), (q_10, .inl (cA, 24, .inl (fun _ => 0))), (q_12, .inl (cA, 30, .inl (fun _ => 0))), (q_14, .inl (cA, 3, .inl (fun _ => 0))), (q_16, .inl (cA, 4, .inl (f_18))), (q_19, .inl (cA, 4, .inl (fun _ => 0))), (q_21, .inl (cA, 160, .inl (fun _ => 0))), (q_23, .inl (cA, 29, .inl (upd (upd (upd f_29 26 49) 27 32) 28 59))), (q_30, .inl (cA, 96, .inl (f_50)))] A s s.heap H _ := hW
  clear hW
  have hW := hW2
  clear hW2
  show W p l e _ s m ar below meth c _ _ _ _ Q (F0 m 859 ls _)
  have hwd0 : ∀ i, i < 12 → ∀ q, q < 8 → f_50 (8 * i + q) = wdW i q := by rw [ef_50, ef_49, ef_48, ef_47, ef_46, ef_45, ef_44, ef_43, ef_42, ef_41, ef_40, ef_39, ef_38, ef_37, ef_36, ef_35, ef_34, ef_33, ef_32]; decide +kernel
  refine lw_put (ci := 8) (fs := [.int 0, .ref q_1, .ref q_2, .ref q_4, .int 0, .ref q_6, .int 0, .ref q_8, .ref q_10, .int 0, .int 0, .int 0, .ref q_12, .ref q_14, .ref q_16, .ref q_19, .ref q_21, .ref q_23, .int 0, .int 0, .int 0, .int 0, .null, .null, .int 0, .int 0, .int 0, .null, .null, .null, .int 0]) F hW 0 rfl (C := RX8) (T := TX8) (n := 31) rfl in_RX8 tyX8 tyX8_ok nmX8 22 (by decide) fl_RX8_46 hnm (by decide +kernel) rfl rfl rfl (show 22 < 31 by decide) dX8_init_859 (fun H locs hW' => ?_)
  clear hW
  have hW : LWd D [(cA, .int)] [(h0, .inr (8, [.int 0, .ref q_1, .ref q_2, .ref q_4, .int 0, .ref q_6, .int 0, .ref q_8, .ref q_10, .int 0, .int 0, .int 0, .ref q_12, .ref q_14, .ref q_16, .ref q_19, .ref q_21, .ref q_23, .int 0, .int 0, .int 0, .int 0, .ref q_30, .null, .int 0, .int 0, .int 0, .null, .null, .null, .int 0])), (q_1, .inl (cA, 6, .inl (fun _ => 0))), (q_2, .inl (cA, 6, .inl (fun _ => 0))), (q_4, .inl (cA, 30, .inl (fun _ => 0))), (q_6, .inl (cA, 160, .inl (fun _ => 0))), (q_8, .inl (cA, 1200, .inl (fun _ => 0))), (q_10, .inl (cA, 24, .inl (fun _ => 0))), (q_12, .inl (cA, 30, .inl (fun _ => 0))), (q_14, .inl (cA, 3, .inl (fun _ => 0))), (q_16, .inl (cA, 4, .inl (f_18))), (q_19, .inl (cA, 4, .inl (fun _ => 0))), (q_21, .inl (cA, 160, .inl (fun _ => 0))), (q_23, .inl (cA, 29, .inl (upd (upd (upd f_29 26 49) 27 32) 28 59))), (q_30, .inl (cA, 96, .inl (f_50)))] A s s.heap H _ := hW'
  clear hW'
  show W p l e _ s m ar below meth c _ _ _ _ Q (F0 m 862 ls _)
  refine lv_aload_n hx hb dX8_init_862 rfl (lv_at hl 0 rfl) ?_
  refine lv_sipush (v := 200) hx hb dX8_init_863 (by decide) ?_
  refine lw_newi (c2 := 14) (s2 := 1952) (N' := 200) F hW (by decide) rfl (by decide) rfl rfl ⟨Nat.le_of_ble_eq_true rfl, Nat.le_of_ble_eq_true rfl⟩ dX8_init_866 (fun q_51 cA_52 H hW' => ?_)
  clear hW
  have hW : LWd D [(cA, .int), (cA_52, .int)] [(h0, .inr (8, [.int 0, .ref q_1, .ref q_2, .ref q_4, .int 0, .ref q_6, .int 0, .ref q_8, .ref q_10, .int 0, .int 0, .int 0, .ref q_12, .ref q_14, .ref q_16, .ref q_19, .ref q_21, .ref q_23, .int 0, .int 0, .int 0, .int 0, .ref q_30, .null, .int 0, .int 0, .int 0, .null, .null, .null, .int 0])), (q_1, .inl (cA, 6, .inl (fun _ => 0))), (q_2, .inl (cA, 6, .inl (fun _ => 0))), (q_4, .inl (cA, 30, .inl (fun _ => 0))), (q_6, .inl (cA, 160, .inl (fun _ => 0))), (q_8, .inl (cA, 1200, .inl (fun _ => 0))), (q_10, .inl (cA, 24, .inl (fun _ => 0))), (q_12, .inl (cA, 30, .inl (fun _ => 0))), (q_14, .inl (cA, 3, .inl (fun _ => 0))), (q_16, .inl (cA, 4, .inl (f_18))), (q_19, .inl (cA, 4, .inl (fun _ => 0))), (q_21, .inl (cA, 160, .inl (fun _ => 0))), (q_23, .inl (cA, 29, .inl (upd (upd (upd f_29 26 49) 27 32) 28 59))), (q_30, .inl (cA, 96, .inl (f_50))), (q_51, .inl (cA_52, 200, .inl (fun _ => 0)))] A s s.heap H _ := hW'
  clear hW'
  obtain rfl : cA = cA_52 := lw_same (i := 0) (j := 1) hW rfl rfl
  have hW := lw_tys (t' := [(cA, .int)]) hW [0] rfl
  have hW2 : LWd D [(cA, .int)] [(h0, .inr (8, [.int 0, .ref q_1, .ref q_2, .ref q_4, .int 0, .ref q_6, .int 0, .ref q_8, .ref q_10, .int 0, .int 0, .int 0, .ref q_12, .ref q_14, .ref q_16, .ref q_19, .ref q_21, .ref q_23, .int 0, .int 0, .int 0, .int 0, .ref q_30, .null, .int 0, .int 0, .int 0, .null, .null, .null, .int 0])), (q_1, .inl (cA, 6, .inl (fun _ => 0))), (q_2, .inl (cA, 6, .inl (fun _ => 0))), (q_4, .inl (cA, 30, .inl (fun _ => 0))), (q_6, .inl (cA, 160, .inl (fun _ => 0))), (q_8, .inl (cA, 1200, .inl (fun _ => 0))), (q_10, .inl (cA, 24, .inl (fun _ => 0))), (q_12, .inl (cA, 30, .inl (fun _ => 0))), (q_14, .inl (cA, 3, .inl (fun _ => 0))), (q_16, .inl (cA, 4, .inl (f_18))), (q_19, .inl (cA, 4, .inl (fun _ => 0))), (q_21, .inl (cA, 160, .inl (fun _ => 0))), (q_23, .inl (cA, 29, .inl (upd (upd (upd f_29 26 49) 27 32) 28 59))), (q_30, .inl (cA, 96, .inl (f_50))), (q_51, .inl (cA, 200, .inl (fun _ => 0)))] A s s.heap H _ := hW
  clear hW
  have hW := hW2
  clear hW2
  show W p l e _ s m ar below meth c _ _ _ _ Q (F0 m 868 ls _)
  refine lw_put (ci := 8) (fs := [.int 0, .ref q_1, .ref q_2, .ref q_4, .int 0, .ref q_6, .int 0, .ref q_8, .ref q_10, .int 0, .int 0, .int 0, .ref q_12, .ref q_14, .ref q_16, .ref q_19, .ref q_21, .ref q_23, .int 0, .int 0, .int 0, .int 0, .ref q_30, .null, .int 0, .int 0, .int 0, .null, .null, .null, .int 0]) F hW 0 rfl (C := RX8) (T := TX8) (n := 31) rfl in_RX8 tyX8 tyX8_ok nmX8 23 (by decide) fl_RX8_49 hnm (by decide +kernel) rfl rfl rfl (show 23 < 31 by decide) dX8_init_868 (fun H locs hW' => ?_)
  clear hW
  have hW : LWd D [(cA, .int)] [(h0, .inr (8, [.int 0, .ref q_1, .ref q_2, .ref q_4, .int 0, .ref q_6, .int 0, .ref q_8, .ref q_10, .int 0, .int 0, .int 0, .ref q_12, .ref q_14, .ref q_16, .ref q_19, .ref q_21, .ref q_23, .int 0, .int 0, .int 0, .int 0, .ref q_30, .ref q_51, .int 0, .int 0, .int 0, .null, .null, .null, .int 0])), (q_1, .inl (cA, 6, .inl (fun _ => 0))), (q_2, .inl (cA, 6, .inl (fun _ => 0))), (q_4, .inl (cA, 30, .inl (fun _ => 0))), (q_6, .inl (cA, 160, .inl (fun _ => 0))), (q_8, .inl (cA, 1200, .inl (fun _ => 0))), (q_10, .inl (cA, 24, .inl (fun _ => 0))), (q_12, .inl (cA, 30, .inl (fun _ => 0))), (q_14, .inl (cA, 3, .inl (fun _ => 0))), (q_16, .inl (cA, 4, .inl (f_18))), (q_19, .inl (cA, 4, .inl (fun _ => 0))), (q_21, .inl (cA, 160, .inl (fun _ => 0))), (q_23, .inl (cA, 29, .inl (upd (upd (upd f_29 26 49) 27 32) 28 59))), (q_30, .inl (cA, 96, .inl (f_50))), (q_51, .inl (cA, 200, .inl (fun _ => 0)))] A s s.heap H _ := hW'
  clear hW'
  show W p l e _ s m ar below meth c _ _ _ _ Q (F0 m 871 ls _)
  refine lv_aload_n hx hb dX8_init_871 rfl (lv_at hl 0 rfl) ?_
  refine lv_sipush (v := 200) hx hb dX8_init_872 (by decide) ?_
  refine lw_newi (c2 := 15) (s2 := 2152) (N' := 200) F hW (by decide) rfl (by decide) rfl rfl ⟨Nat.le_of_ble_eq_true rfl, Nat.le_of_ble_eq_true rfl⟩ dX8_init_875 (fun q_53 cA_54 H hW' => ?_)
  clear hW
  have hW : LWd D [(cA, .int), (cA_54, .int)] [(h0, .inr (8, [.int 0, .ref q_1, .ref q_2, .ref q_4, .int 0, .ref q_6, .int 0, .ref q_8, .ref q_10, .int 0, .int 0, .int 0, .ref q_12, .ref q_14, .ref q_16, .ref q_19, .ref q_21, .ref q_23, .int 0, .int 0, .int 0, .int 0, .ref q_30, .ref q_51, .int 0, .int 0, .int 0, .null, .null, .null, .int 0])), (q_1, .inl (cA, 6, .inl (fun _ => 0))), (q_2, .inl (cA, 6, .inl (fun _ => 0))), (q_4, .inl (cA, 30, .inl (fun _ => 0))), (q_6, .inl (cA, 160, .inl (fun _ => 0))), (q_8, .inl (cA, 1200, .inl (fun _ => 0))), (q_10, .inl (cA, 24, .inl (fun _ => 0))), (q_12, .inl (cA, 30, .inl (fun _ => 0))), (q_14, .inl (cA, 3, .inl (fun _ => 0))), (q_16, .inl (cA, 4, .inl (f_18))), (q_19, .inl (cA, 4, .inl (fun _ => 0))), (q_21, .inl (cA, 160, .inl (fun _ => 0))), (q_23, .inl (cA, 29, .inl (upd (upd (upd f_29 26 49) 27 32) 28 59))), (q_30, .inl (cA, 96, .inl (f_50))), (q_51, .inl (cA, 200, .inl (fun _ => 0))), (q_53, .inl (cA_54, 200, .inl (fun _ => 0)))] A s s.heap H _ := hW'
  clear hW'
  obtain rfl : cA = cA_54 := lw_same (i := 0) (j := 1) hW rfl rfl
  have hW := lw_tys (t' := [(cA, .int)]) hW [0] rfl
  have hW2 : LWd D [(cA, .int)] [(h0, .inr (8, [.int 0, .ref q_1, .ref q_2, .ref q_4, .int 0, .ref q_6, .int 0, .ref q_8, .ref q_10, .int 0, .int 0, .int 0, .ref q_12, .ref q_14, .ref q_16, .ref q_19, .ref q_21, .ref q_23, .int 0, .int 0, .int 0, .int 0, .ref q_30, .ref q_51, .int 0, .int 0, .int 0, .null, .null, .null, .int 0])), (q_1, .inl (cA, 6, .inl (fun _ => 0))), (q_2, .inl (cA, 6, .inl (fun _ => 0))), (q_4, .inl (cA, 30, .inl (fun _ => 0))), (q_6, .inl (cA, 160, .inl (fun _ => 0))), (q_8, .inl (cA, 1200, .inl (fun _ => 0))), (q_10, .inl (cA, 24, .inl (fun _ => 0))), (q_12, .inl (cA, 30, .inl (fun _ => 0))), (q_14, .inl (cA, 3, .inl (fun _ => 0))), (q_16, .inl (cA, 4, .inl (f_18))), (q_19, .inl (cA, 4, .inl (fun _ => 0))), (q_21, .inl (cA, 160, .inl (fun _ => 0))), (q_23, .inl (cA, 29, .inl (upd (upd (upd f_29 26 49) 27 32) 28 59))), (q_30, .inl (cA, 96, .inl (f_50))), (q_51, .inl (cA, 200, .inl (fun _ => 0))), (q_53, .inl (cA, 200, .inl (fun _ => 0)))] A s s.heap H _ := hW
  clear hW
  have hW := hW2
  clear hW2
  show W p l e _ s m ar below meth c _ _ _ _ Q (F0 m 877 ls _)
  refine lw_put (ci := 8) (fs := [.int 0, .ref q_1, .ref q_2, .ref q_4, .int 0, .ref q_6, .int 0, .ref q_8, .ref q_10, .int 0, .int 0, .int 0, .ref q_12, .ref q_14, .ref q_16, .ref q_19, .ref q_21, .ref q_23, .int 0, .int 0, .int 0, .int 0, .ref q_30, .ref q_51, .int 0, .int 0, .int 0, .null, .null, .null, .int 0]) F hW 0 rfl (C := RX8) (T := TX8) (n := 31) rfl in_RX8 tyX8 tyX8_ok nmX8 27 (by decide) fl_RX8_52 hnm (by decide +kernel) rfl rfl rfl (show 27 < 31 by decide) dX8_init_877 (fun H locs hW' => ?_)
  clear hW
  have hW : LWd D [(cA, .int)] [(h0, .inr (8, [.int 0, .ref q_1, .ref q_2, .ref q_4, .int 0, .ref q_6, .int 0, .ref q_8, .ref q_10, .int 0, .int 0, .int 0, .ref q_12, .ref q_14, .ref q_16, .ref q_19, .ref q_21, .ref q_23, .int 0, .int 0, .int 0, .int 0, .ref q_30, .ref q_51, .int 0, .int 0, .int 0, .ref q_53, .null, .null, .int 0])), (q_1, .inl (cA, 6, .inl (fun _ => 0))), (q_2, .inl (cA, 6, .inl (fun _ => 0))), (q_4, .inl (cA, 30, .inl (fun _ => 0))), (q_6, .inl (cA, 160, .inl (fun _ => 0))), (q_8, .inl (cA, 1200, .inl (fun _ => 0))), (q_10, .inl (cA, 24, .inl (fun _ => 0))), (q_12, .inl (cA, 30, .inl (fun _ => 0))), (q_14, .inl (cA, 3, .inl (fun _ => 0))), (q_16, .inl (cA, 4, .inl (f_18))), (q_19, .inl (cA, 4, .inl (fun _ => 0))), (q_21, .inl (cA, 160, .inl (fun _ => 0))), (q_23, .inl (cA, 29, .inl (upd (upd (upd f_29 26 49) 27 32) 28 59))), (q_30, .inl (cA, 96, .inl (f_50))), (q_51, .inl (cA, 200, .inl (fun _ => 0))), (q_53, .inl (cA, 200, .inl (fun _ => 0)))] A s s.heap H _ := hW'
  clear hW'
  show W p l e _ s m ar below meth c _ _ _ _ Q (F0 m 880 ls _)
  refine lv_aload_n hx hb dX8_init_880 rfl (lv_at hl 0 rfl) ?_
  refine lv_bipush (v := 6) hx hb dX8_init_881 (by decide) ?_
  refine lw_newi (c2 := 16) (s2 := 2158) (N' := 6) F hW (by decide) rfl (by decide) rfl rfl ⟨Nat.le_of_ble_eq_true rfl, Nat.le_of_ble_eq_true rfl⟩ dX8_init_883 (fun q_55 cA_56 H hW' => ?_)
  clear hW
  have hW : LWd D [(cA, .int), (cA_56, .int)] [(h0, .inr (8, [.int 0, .ref q_1, .ref q_2, .ref q_4, .int 0, .ref q_6, .int 0, .ref q_8, .ref q_10, .int 0, .int 0, .int 0, .ref q_12, .ref q_14, .ref q_16, .ref q_19, .ref q_21, .ref q_23, .int 0, .int 0, .int 0, .int 0, .ref q_30, .ref q_51, .int 0, .int 0, .int 0, .ref q_53, .null, .null, .int 0])), (q_1, .inl (cA, 6, .inl (fun _ => 0))), (q_2, .inl (cA, 6, .inl (fun _ => 0))), (q_4, .inl (cA, 30, .inl (fun _ => 0))), (q_6, .inl (cA, 160, .inl (fun _ => 0))), (q_8, .inl (cA, 1200, .inl (fun _ => 0))), (q_10, .inl (cA, 24, .inl (fun _ => 0))), (q_12, .inl (cA, 30, .inl (fun _ => 0))), (q_14, .inl (cA, 3, .inl (fun _ => 0))), (q_16, .inl (cA, 4, .inl (f_18))), (q_19, .inl (cA, 4, .inl (fun _ => 0))), (q_21, .inl (cA, 160, .inl (fun _ => 0))), (q_23, .inl (cA, 29, .inl (upd (upd (upd f_29 26 49) 27 32) 28 59))), (q_30, .inl (cA, 96, .inl (f_50))), (q_51, .inl (cA, 200, .inl (fun _ => 0))), (q_53, .inl (cA, 200, .inl (fun _ => 0))), (q_55, .inl (cA_56, 6, .inl (fun _ => 0)))] A s s.heap H _ := hW'
  clear hW'
  obtain rfl : cA = cA_56 := lw_same (i := 0) (j := 1) hW rfl rfl
  have hW := lw_tys (t' := [(cA, .int)]) hW [0] rfl
  have hW2 : LWd D [(cA, .int)] [(h0, .inr (8, [.int 0, .ref q_1, .ref q_2, .ref q_4, .int 0, .ref q_6, .int 0, .ref q_8, .ref q_10, .int 0, .int 0, .int 0, .ref q_12, .ref q_14, .ref q_16, .ref q_19, .ref q_21, .ref q_23, .int 0, .int 0, .int 0, .int 0, .ref q_30, .ref q_51, .int 0, .int 0, .int 0, .ref q_53, .null, .null, .int 0])), (q_1, .inl (cA, 6, .inl (fun _ => 0))), (q_2, .inl (cA, 6, .inl (fun _ => 0))), (q_4, .inl (cA, 30, .inl (fun _ => 0))), (q_6, .inl (cA, 160, .inl (fun _ => 0))), (q_8, .inl (cA, 1200, .inl (fun _ => 0))), (q_10, .inl (cA, 24, .inl (fun _ => 0))), (q_12, .inl (cA, 30, .inl (fun _ => 0))), (q_14, .inl (cA, 3, .inl (fun _ => 0))), (q_16, .inl (cA, 4, .inl (f_18))), (q_19, .inl (cA, 4, .inl (fun _ => 0))), (q_21, .inl (cA, 160, .inl (fun _ => 0))), (q_23, .inl (cA, 29, .inl (upd (upd (upd f_29 26 49) 27 32) 28 59))), (q_30, .inl (cA, 96, .inl (f_50))), (q_51, .inl (cA, 200, .inl (fun _ => 0))), (q_53, .inl (cA, 200, .inl (fun _ => 0))), (q_55, .inl (cA, 6, .inl (fun _ => 0)))] A s s.heap H _ := hW
  clear hW
  have hW := hW2
  clear hW2
  show W p l e _ s m ar below meth c _ _ _ _ Q (F0 m 885 ls _)
  refine lw_put (ci := 8) (fs := [.int 0, .ref q_1, .ref q_2, .ref q_4, .int 0, .ref q_6, .int 0, .ref q_8, .ref q_10, .int 0, .int 0, .int 0, .ref q_12, .ref q_14, .ref q_16, .ref q_19, .ref q_21, .ref q_23, .int 0, .int 0, .int 0, .int 0, .ref q_30, .ref q_51, .int 0, .int 0, .int 0, .ref q_53, .null, .null, .int 0]) F hW 0 rfl (C := RX8) (T := TX8) (n := 31) rfl in_RX8 tyX8 tyX8_ok nmX8 28 (by decide) fl_RX8_55 hnm (by decide +kernel) rfl rfl rfl (show 28 < 31 by decide) dX8_init_885 (fun H locs hW' => ?_)
  clear hW
  have hW : LWd D [(cA, .int)] [(h0, .inr (8, [.int 0, .ref q_1, .ref q_2, .ref q_4, .int 0, .ref q_6, .int 0, .ref q_8, .ref q_10, .int 0, .int 0, .int 0, .ref q_12, .ref q_14, .ref q_16, .ref q_19, .ref q_21, .ref q_23, .int 0, .int 0, .int 0, .int 0, .ref q_30, .ref q_51, .int 0, .int 0, .int 0, .ref q_53, .ref q_55, .null, .int 0])), (q_1, .inl (cA, 6, .inl (fun _ => 0))), (q_2, .inl (cA, 6, .inl (fun _ => 0))), (q_4, .inl (cA, 30, .inl (fun _ => 0))), (q_6, .inl (cA, 160, .inl (fun _ => 0))), (q_8, .inl (cA, 1200, .inl (fun _ => 0))), (q_10, .inl (cA, 24, .inl (fun _ => 0))), (q_12, .inl (cA, 30, .inl (fun _ => 0))), (q_14, .inl (cA, 3, .inl (fun _ => 0))), (q_16, .inl (cA, 4, .inl (f_18))), (q_19, .inl (cA, 4, .inl (fun _ => 0))), (q_21, .inl (cA, 160, .inl (fun _ => 0))), (q_23, .inl (cA, 29, .inl (upd (upd (upd f_29 26 49) 27 32) 28 59))), (q_30, .inl (cA, 96, .inl (f_50))), (q_51, .inl (cA, 200, .inl (fun _ => 0))), (q_53, .inl (cA, 200, .inl (fun _ => 0))), (q_55, .inl (cA, 6, .inl (fun _ => 0)))] A s s.heap H _ := hW'
  clear hW'
  show W p l e _ s m ar below meth c _ _ _ _ Q (F0 m 888 ls _)
  refine lv_aload_n hx hb dX8_init_888 rfl (lv_at hl 0 rfl) ?_
  refine lv_bipush (v := 31) hx hb dX8_init_889 (by decide) ?_
  refine lw_newi (c2 := 17) (s2 := 2189) (N' := 31) F hW (by decide) rfl (by decide) rfl rfl ⟨Nat.le_of_ble_eq_true rfl, Nat.le_of_ble_eq_true rfl⟩ dX8_init_891 (fun q_57 cA_58 H hW' => ?_)
  clear hW
  have hW : LWd D [(cA, .int), (cA_58, .int)] [(h0, .inr (8, [.int 0, .ref q_1, .ref q_2, .ref q_4, .int 0, .ref q_6, .int 0, .ref q_8, .ref q_10, .int 0, .int 0, .int 0, .ref q_12, .ref q_14, .ref q_16, .ref q_19, .ref q_21, .ref q_23, .int 0, .int 0, .int 0, .int 0, .ref q_30, .ref q_51, .int 0, .int 0, .int 0, .ref q_53, .ref q_55, .null, .int 0])), (q_1, .inl (cA, 6, .inl (fun _ => 0))), (q_2, .inl (cA, 6, .inl (fun _ => 0))), (q_4, .inl (cA, 30, .inl (fun _ => 0))), (q_6, .inl (cA, 160, .inl (fun _ => 0))), (q_8, .inl (cA, 1200, .inl (fun _ => 0))), (q_10, .inl (cA, 24, .inl (fun _ => 0))), (q_12, .inl (cA, 30, .inl (fun _ => 0))), (q_14, .inl (cA, 3, .inl (fun _ => 0))), (q_16, .inl (cA, 4, .inl (f_18))), (q_19, .inl (cA, 4, .inl (fun _ => 0))), (q_21, .inl (cA, 160, .inl (fun _ => 0))), (q_23, .inl (cA, 29, .inl (upd (upd (upd f_29 26 49) 27 32) 28 59))), (q_30, .inl (cA, 96, .inl (f_50))), (q_51, .inl (cA, 200, .inl (fun _ => 0))), (q_53, .inl (cA, 200, .inl (fun _ => 0))), (q_55, .inl (cA, 6, .inl (fun _ => 0))), (q_57, .inl (cA_58, 31, .inl (fun _ => 0)))] A s s.heap H _ := hW'
  clear hW'
  obtain rfl : cA = cA_58 := lw_same (i := 0) (j := 1) hW rfl rfl
  have hW := lw_tys (t' := [(cA, .int)]) hW [0] rfl
  have hW2 : LWd D [(cA, .int)] [(h0, .inr (8, [.int 0, .ref q_1, .ref q_2, .ref q_4, .int 0, .ref q_6, .int 0, .ref q_8, .ref q_10, .int 0, .int 0, .int 0, .ref q_12, .ref q_14, .ref q_16, .ref q_19, .ref q_21, .ref q_23, .int 0, .int 0, .int 0, .int 0, .ref q_30, .ref q_51, .int 0, .int 0, .int 0, .ref q_53, .ref q_55, .null, .int 0])), (q_1, .inl (cA, 6, .inl (fun _ => 0))), (q_2, .inl (cA, 6, .inl (fun _ => 0))), (q_4, .inl (cA, 30, .inl (fun _ => 0))), (q_6, .inl (cA, 160, .inl (fun _ => 0))), (q_8, .inl (cA, 1200, .inl (fun _ => 0))), (q_10, .inl (cA, 24, .inl (fun _ => 0))), (q_12, .inl (cA, 30, .inl (fun _ => 0))), (q_14, .inl (cA, 3, .inl (fun _ => 0))), (q_16, .inl (cA, 4, .inl (f_18))), (q_19, .inl (cA, 4, .inl (fun _ => 0))), (q_21, .inl (cA, 160, .inl (fun _ => 0))), (q_23, .inl (cA, 29, .inl (upd (upd (upd f_29 26 49) 27 32) 28 59))), (q_30, .inl (cA, 96, .inl (f_50))), (q_51, .inl (cA, 200, .inl (fun _ => 0))), (q_53, .inl (cA, 200, .inl (fun _ => 0))), (q_55, .inl (cA, 6, .inl (fun _ => 0))), (q_57, .inl (cA, 31, .inl (fun _ => 0)))] A s s.heap H _ := hW
  clear hW
  have hW := hW2
  clear hW2
  show W p l e _ s m ar below meth c _ _ _ _ Q (F0 m 893 ls _)
  refine lw_put (ci := 8) (fs := [.int 0, .ref q_1, .ref q_2, .ref q_4, .int 0, .ref q_6, .int 0, .ref q_8, .ref q_10, .int 0, .int 0, .int 0, .ref q_12, .ref q_14, .ref q_16, .ref q_19, .ref q_21, .ref q_23, .int 0, .int 0, .int 0, .int 0, .ref q_30, .ref q_51, .int 0, .int 0, .int 0, .ref q_53, .ref q_55, .null, .int 0]) F hW 0 rfl (C := RX8) (T := TX8) (n := 31) rfl in_RX8 tyX8 tyX8_ok nmX8 29 (by decide) fl_RX8_58 hnm (by decide +kernel) rfl rfl rfl (show 29 < 31 by decide) dX8_init_893 (fun H locs hW' => ?_)
  clear hW
  have hW : LWd D [(cA, .int)] [(h0, .inr (8, [.int 0, .ref q_1, .ref q_2, .ref q_4, .int 0, .ref q_6, .int 0, .ref q_8, .ref q_10, .int 0, .int 0, .int 0, .ref q_12, .ref q_14, .ref q_16, .ref q_19, .ref q_21, .ref q_23, .int 0, .int 0, .int 0, .int 0, .ref q_30, .ref q_51, .int 0, .int 0, .int 0, .ref q_53, .ref q_55, .ref q_57, .int 0])), (q_1, .inl (cA, 6, .inl (fun _ => 0))), (q_2, .inl (cA, 6, .inl (fun _ => 0))), (q_4, .inl (cA, 30, .inl (fun _ => 0))), (q_6, .inl (cA, 160, .inl (fun _ => 0))), (q_8, .inl (cA, 1200, .inl (fun _ => 0))), (q_10, .inl (cA, 24, .inl (fun _ => 0))), (q_12, .inl (cA, 30, .inl (fun _ => 0))), (q_14, .inl (cA, 3, .inl (fun _ => 0))), (q_16, .inl (cA, 4, .inl (f_18))), (q_19, .inl (cA, 4, .inl (fun _ => 0))), (q_21, .inl (cA, 160, .inl (fun _ => 0))), (q_23, .inl (cA, 29, .inl (upd (upd (upd f_29 26 49) 27 32) 28 59))), (q_30, .inl (cA, 96, .inl (f_50))), (q_51, .inl (cA, 200, .inl (fun _ => 0))), (q_53, .inl (cA, 200, .inl (fun _ => 0))), (q_55, .inl (cA, 6, .inl (fun _ => 0))), (q_57, .inl (cA, 31, .inl (fun _ => 0)))] A s s.heap H _ := hW'
  clear hW'
  show W p l e _ s m ar below meth c _ _ _ _ Q (F0 m 896 ls _)
  obtain ⟨ad, had⟩ : ∃ z : Nat → Nat, z = fun k => ([h0, q_1, q_2, q_4, q_6, q_8, q_10, q_12, q_14, q_16, q_19, q_21, q_23, q_30, q_51, q_53, q_55, q_57] : List Nat).getD k 0 := ⟨_, rfl⟩
  obtain ⟨σ0, hσ0⟩ : ∃ z : Nat → Nat → Int32, z = fun o => if o = 9 then f_18 else if o = 12 then upd (upd (upd f_29 26 49) 27 32) 28 59 else if o = 13 then f_50 else fun _ => 0 := ⟨_, rfl⟩
  have hW : MW D cA ad zz2 zz2 σ0 A s s.heap H locs := by
    refine lw_perm (N := 18) hW id (fun i j _ _ h => h) ?_
    subst had; subst hσ0; intro k hk
    rcases k with _ | _ | _ | _ | _ | _ | _ | _ | _ | _ | _ | _ | _ | _ | _ | _ | _ | _ | k
    · exact ⟨_, rfl, va_same.rf rfl⟩
    · exact ⟨_, rfl, va_same.rf mz_a⟩
    · exact ⟨_, rfl, va_same.rf mz_a⟩
    · exact ⟨_, rfl, va_same.rf mz_a⟩
    · exact ⟨_, rfl, va_same.rf rfl⟩
    · exact ⟨_, rfl, va_same.rf rfl⟩
    · exact ⟨_, rfl, va_same.rf rfl⟩
    · exact ⟨_, rfl, va_same.rf rfl⟩
    · exact ⟨_, rfl, va_same.rf rfl⟩
    · exact ⟨_, rfl, va_same.rf rfl⟩
    · exact ⟨_, rfl, va_same.rf rfl⟩
    · exact ⟨_, rfl, va_same.rf rfl⟩
    · exact ⟨_, rfl, va_same.rf rfl⟩
    · exact ⟨_, rfl, va_same.rf rfl⟩
    · exact ⟨_, rfl, va_same.rf rfl⟩
    · exact ⟨_, rfl, va_same.rf rfl⟩
    · exact ⟨_, rfl, va_same.rf rfl⟩
    · exact ⟨_, rfl, va_same.rf rfl⟩
    · omega
  have hl : lv_has ls 2 [(0, .ref (ad 0))] := by rw [had]; exact hl
  have hC0 : (∀ j, j < 0 → σ0 4 j = lawB j) ∧ ∀ o, o ≠ 4 → σ0 o = σ0 o := ⟨fun j hj => absurd hj (Nat.not_lt_zero j), fun _ _ => rfl⟩
  have had0 : ad 0 = h0 := by rw [had]; rfl
  have h00 : σ0 0 = fun _ => 0 := by rw [hσ0]; rfl
  have h09 : σ0 9 = f_18 := by rw [hσ0]; rfl
  have h010 : σ0 10 = fun _ => 0 := by rw [hσ0]; rfl
  have h011 : σ0 11 = fun _ => 0 := by rw [hσ0]; rfl
  have h012 : ∀ j, j < 29 → σ0 12 j = lawB j := by rw [hσ0]; exact hlw0
  have h013 : ∀ i, i < 12 → ∀ q, q < 8 → σ0 13 (8 * i + q) = wdW i q := by rw [hσ0]; exact hwd0
  clear had hσ0
  refine lv_iconst (v := 0) hx hb dX8_init_896 (by decide) ?_
  refine lv_istore_n (lv' := [(1, .int 0), (0, .ref (ad 0))]) hx hb dX8_init_897 rfl hl (by decide) rfl (fun ls hl => ?_)
  have L898 : ∀ (k : Nat) (i : Nat) (σ' : Nat → Nat → Int32), (i ≤ 29) → (30 ≤ i + k) → ((∀ j, j < i → σ' 4 j = lawB j) ∧ ∀ o, o ≠ 4 → σ' o = σ0 o) → ∀ (H : Heap) (locs : List Loc) (ls : Array Slot), MW D cA ad zz2 zz2 σ' A s s.heap H locs → lv_has ls 2 [(1, .int (nI i)), (0, .ref (ad 0))] → W p l e rm_yX8_init s m ar below meth c H locs 17 2189 Q (F0 m 898 ls []) := by
    intro k
    induction k with
    | zero => intro i σ' h1 h2 hC; exact absurd h2 (by omega)
    | succ k ih898 =>
      intro i σ' h1 h2 hC H locs ls hW hl
      refine lv_iload_n hx hb dX8_init_898 rfl (lv_at hl 0 rfl) ?_
      refine lv_bipush (v := 29) hx hb dX8_init_899 (by decide) ?_
      refine lv_icmp_ge (tgt := 922) hx hb dX8_init_901 (by decide) (fun c_59 => ?_) (fun c_59 => ?_)
      ·
        obtain rfl : i = 29 := by have := mi_le (a := 29) (b := i) c_59 (by decide) (by omega); omega
        refine lv_aload_n hx hb dX8_init_922 rfl (lv_at hl 1 rfl) ?_
        refine lv_bipush (v := 29) hx hb dX8_init_923 (by decide) ?_
        refine mw_σ F hW 6 (by decide) fl_RX8_61 rfl (ty := .int) rfl rfl rfl rfl dX8_init_925 (fun H locs hW => ?_)
        refine lv_aload_n hx hb dX8_init_928 rfl (lv_at hl 1 rfl) ?_
        refine gw_callVi (As := []) (rest := []) F hl.1 hW (fun _ _ _ => trivial) gw_T_E (by decide) (rfl : ment ad cA _ _ _ 0 = _) rfl (kX8_text (β := lawB) (n := 0) (z := 29) (m0 := 0) (by rw [upR_self, pk_un (by decide), hC.2 0 (by decide), h00]; rfl) (by decide) (by rw [upR_self]; exact pk_us) (by decide) (fun j hj => by rw [up_ne2 (by decide)]; exact (hC.1 j (by omega)).symm) (fun i q hi hq => by rw [up_ne2 (by decide), hC.2 13 (by decide)]; exact h013 i hi q hq)) pd_yX8_text ml_RX8_65 im_yX8_text se_yX8_text ini_RX8 cd_yX8_text ⟨rfl, rfl⟩ ⟨Nat.le_of_ble_eq_true rfl, Nat.le_of_ble_eq_true rfl⟩ rfl rfl (Nat.le_of_ble_eq_true rfl) ⟨Nat.le_of_ble_eq_true rfl, Nat.le_of_ble_eq_true rfl⟩ dX8_init_929 (fun r u H locs hp hW _ _ => ?_)
        refine lv_pop hx hb dX8_init_932 rfl ?_
        exact hret (ad, cA, u) _ _ _ _ _ _ hW rfl rfl ⟨had0, m0p_of hC.2 h00 h09 hso0 h010 h011 h013 hp⟩ dX8_init_933
      ·
        have hlt : i < 29 := mi_nle (a := 29) (b := i) c_59 (by decide) (by omega)
        refine lv_aload_n hx hb dX8_init_904 rfl (lv_at hl 1 rfl) ?_
        refine mr_f F hW 5 (by decide) rfl fl_RX8_19 dX8_init_905 ?_
        refine lv_iload_n hx hb dX8_init_908 rfl (lv_at hl 0 rfl) ?_
        refine lv_aload_n hx hb dX8_init_909 rfl (lv_at hl 1 rfl) ?_
        refine mr_f F hW 17 (by decide) rfl fl_RX8_43 dX8_init_910 ?_
        refine lv_iload_n hx hb dX8_init_913 rfl (lv_at hl 0 rfl) ?_
        refine mr_law F hW (vp_in_nI (by omega) (by decide)) dX8_init_914 ?_
        refine lv_as (z := σ' 12 i) (by rw [nI_clamp (show i < 2 ^ 31 by omega)]) ?_
        refine mw_tape F hW (vp_in_nI (by omega) (by decide)) dX8_init_915 (fun H locs hW => ?_)
        have hW : MW D cA ad zz2 zz2 (upR σ' 4 i (σ' 12 i)) A s s.heap H locs := by rw [nI_clamp (show i < 2 ^ 31 by omega)] at hW; exact hW
        refine lv_iinc (v := nI (i + 1)) (lv' := [(1, .int (nI (i + 1))), (0, .ref (ad 0))]) hx hb dX8_init_916 hl (k := 0) rfl (nI_1 i) (by decide) rfl (fun ls hl => ?_)
        refine lv_goto (tgt := 898) hx hb dX8_init_919 (by decide) ?_
        exact ih898 (i + 1) _ (by omega) (by omega) (⟨fun j hj => (by rw [upR_self]; by_cases e : j = i; (· subst e; rw [pk_us, hC.2 12 (by decide)]; exact h012 j hlt); (· rw [pk_un e]; exact hC.1 j (by omega))), fun o ho => (by rw [up_ne2 ho]; exact hC.2 o ho)⟩) _ _ _ hW (lv_sub hl [0, 1] rfl)
  exact L898 30 0 _ (by omega) (by omega) (hC0) _ _ _ hW (lv_sub hl [0, 1] rfl)
