/-! ===== the reference's reader: signs held ===== -/
def StO (σ : Nat → Nat → Int32) (H : List Nat) : Prop := σ 0 24 = nI H.length ∧ σ 0 25 = nI (opN H) ∧ ∀ j, j < H.length → σ 14 j = nI (H.reverse.getD j 0)
def OuO (n : Nat) (σ : Nat → Nat → Int32) (L : List Int32) : Prop := σ 0 26 = nI L.length ∧ ∀ j, j < L.length → σ 5 (200 * n + j) = encM (L.getD j 0)
def WFr (n : Nat) (σ u : Nat → Nat → Int32) : Prop := (∀ j, j < 200 * n → u 5 j = σ 5 j) ∧ (∀ k, k ≠ 24 → k ≠ 25 → k ≠ 26 → u 0 k = σ 0 k) ∧ ∀ o, o ≠ 0 → o ≠ 5 → o ≠ 14 → u o = σ o
theorem WFr.rf {n : Nat} {σ : Nat → Nat → Int32} : WFr n σ σ := ⟨fun _ _ => rfl, fun _ _ _ _ => rfl, fun _ _ _ _ => rfl⟩
theorem WFr.trans {n : Nat} {σ u w : Nat → Nat → Int32} (h : WFr n σ u) (h' : WFr n u w) : WFr n σ w := ⟨fun j hj => (h'.1 j hj).trans (h.1 j hj), fun k a b c => (h'.2.1 k a b c).trans (h.2.1 k a b c), fun o a b c => (h'.2.2 o a b c).trans (h.2.2 o a b c)⟩
def VaH (H : List Nat) : Prop := ∀ s ∈ H, s = 0 ∨ (11 ≤ s ∧ s ≤ 19)
theorem rev_top (s : Nat) (H : List Nat) : (s :: H).reverse.getD H.length 0 = s := by
  rw [List.reverse_cons, List.getD_eq_getElem?_getD, List.getElem?_append_right (by simp)]
  simp
theorem rev_lo {s : Nat} {H : List Nat} {j : Nat} (h : j < H.length) : (s :: H).reverse.getD j 0 = H.reverse.getD j 0 := by
  rw [List.reverse_cons, List.getD_eq_getElem?_getD, List.getD_eq_getElem?_getD, List.getElem?_append_left (by simp; exact h)]
theorem sto_top {σ : Nat → Nat → Int32} {s : Nat} {H : List Nat} (h : StO σ (s :: H)) : σ 14 H.length = nI s := by
  rw [h.2.2 H.length (by simp), rev_top]
theorem enc_cd : ∀ s, s < 20 → 11 ≤ s → encM (cdX s) = nI s := by decide +kernel
theorem ou_snoc {n : Nat} {σ : Nat → Nat → Int32} {L : List Int32} {c v : Int32} (h : OuO n σ L) (hv : v = encM c) : OuO n (upR (upR σ 5 (200 * n + L.length) v) 0 26 (nI (L.length + 1))) (L ++ [c]) := by
  refine ⟨by rw [upR_self, List.length_append]; exact pk_us, fun j hj => ?_⟩
  rw [up_ne2 (by decide), upR_self]
  rw [List.length_append, List.length_singleton] at hj
  by_cases e : j = L.length
  · subst e
    rw [pk_us, hv]; simp
  · rw [pk_un (by omega), h.2 j (by omega)]
    simp only [List.getD_eq_getElem?_getD, List.getElem?_append_left (show j < L.length by omega)]
theorem wf_put {n : Nat} {σ u : Nat → Nat → Int32} {i : Nat} {v w : Int32} (h : WFr n σ u) : WFr n σ (upR (upR u 5 (200 * n + i) v) 0 26 w) :=
  ⟨fun j hj => by rw [up_ne2 (by decide), upR_self, pk_un (by omega)]; exact h.1 j hj, fun k a b c => by rw [upR_self, pk_un c, up_ne2 (by decide)]; exact h.2.1 k a b c, fun o a b c => by rw [up_ne2 a, up_ne2 b]; exact h.2.2 o a b c⟩
theorem wf_f {n : Nat} {σ u : Nat → Nat → Int32} {k : Nat} {v : Int32} (h : WFr n σ u) (hk : k = 24 ∨ k = 25 ∨ k = 26) : WFr n σ (upR u 0 k v) :=
  ⟨fun j hj => by rw [up_ne2 (by decide)]; exact h.1 j hj, fun q a b c => by rw [upR_self, pk_un (by omega)]; exact h.2.1 q a b c, fun o a b c => by rw [up_ne2 a]; exact h.2.2 o a b c⟩
theorem wf_14 {n : Nat} {σ u : Nat → Nat → Int32} {k : Nat} {v : Int32} (h : WFr n σ u) : WFr n σ (upR u 14 k v) :=
  ⟨fun j hj => by rw [up_ne2 (by decide)]; exact h.1 j hj, fun q a b c => by rw [up_ne2 (by decide)]; exact h.2.1 q a b c, fun o a b c => by rw [up_ne2 c]; exact h.2.2 o a b c⟩
theorem unw_s {n : Nat} {σ : Nat → Nat → Int32} {s : Nat} {H : List Nat} {L : List Int32} (hS : StO σ (s :: H)) (hO : OuO n σ L) (h1 : 11 ≤ s) (h2 : s < 20) : StO (upR (upR (upR (upR σ 0 24 (nI H.length)) 0 25 (nI (opN H))) 5 (200 * n + L.length) (nI s)) 0 26 (nI (L.length + 1))) H ∧ OuO n (upR (upR (upR (upR σ 0 24 (nI H.length)) 0 25 (nI (opN H))) 5 (200 * n + L.length) (nI s)) 0 26 (nI (L.length + 1))) (L ++ [cdX s]) := by
  refine ⟨⟨?_, ?_, fun j hj => ?_⟩, ?_⟩
  · rw [upR_self, pk_un (by decide), up_ne2 (by decide), upR_self, pk_un (by decide), upR_self]; exact pk_us
  · rw [upR_self, pk_un (by decide), up_ne2 (by decide), upR_self]; exact pk_us
  · rw [up_ne2 (by decide), up_ne2 (by decide), up_ne2 (by decide), up_ne2 (by decide), hS.2.2 j (by simp; omega), rev_lo hj]
  · exact ou_snoc (σ := upR (upR σ 0 24 (nI H.length)) 0 25 (nI (opN H))) ⟨by rw [upR_self, pk_un (by decide), upR_self, pk_un (by decide)]; exact hO.1, fun j hj => by rw [up_ne2 (by decide), up_ne2 (by decide)]; exact hO.2 j hj⟩ (enc_cd s h2 h1).symm
theorem sto_push {σ : Nat → Nat → Int32} {s o : Nat} {H : List Nat} (hS : StO σ H) (ho : σ 0 25 = nI o) (he : o = opN (s :: H)) : StO (upR (upR σ 14 H.length (nI s)) 0 24 (nI (H.length + 1))) (s :: H) := by
  refine ⟨by rw [upR_self]; exact pk_us, by rw [upR_self, pk_un (by decide), up_ne2 (by decide), ho, he], fun j hj => ?_⟩
  rw [up_ne2 (by decide), upR_self]
  have hj : j < H.length + 1 := hj
  by_cases e : j = H.length
  · subst e; rw [pk_us, rev_top]
  · rw [pk_un e, rev_lo (by omega)]; exact hS.2.2 j (by omega)
theorem ou_f {n : Nat} {σ : Nat → Nat → Int32} {L : List Int32} (h : OuO n σ L) {u : Nat → Nat → Int32} (h0 : u 0 26 = σ 0 26) (h5 : u 5 = σ 5) : OuO n u L := ⟨h0.trans h.1, fun j hj => by rw [h5]; exact h.2 j hj⟩
/-! popping, measured -/
theorem popU_len {r : Nat} : ∀ (H : List Nat) (x : Rs), H.length + x.2.2.2.2.length ≤ 160 → (popU r H x).1.length + (popU r H x).2.2.2.2.2.length = H.length + x.2.2.2.2.length
  | [], _, _ => rfl
  | s :: H, x, h => by
    have h : H.length + 1 + x.2.2.2.2.length ≤ 160 := h
    unfold popU
    split
    · have e : (wrR (cdX s) x).2.2.2.2 = x.2.2.2.2 ++ [cdX s] := wri_ln (by omega) _
      have := popU_len (r := r) H (wrR (cdX s) x) (by rw [e, List.length_append, List.length_singleton]; omega)
      rw [this, e, List.length_append, List.length_singleton]
      show _ = H.length + 1 + x.2.2.2.2.length
      omega
    · rfl
theorem popU_at {r : Nat} : ∀ (H : List Nat) (x : Rs), (popU r H x).2.1 = x.1 ∧ (popU r H x).2.2.1 = x.2.1
  | [], _ => ⟨rfl, rfl⟩
  | s :: H, x => by
    unfold popU
    split
    · exact popU_at H (wrR (cdX s) x)
    · exact ⟨rfl, rfl⟩
theorem popU_va {r : Nat} : ∀ (H : List Nat) (x : Rs), VaH H → VaH (popU r H x).1
  | [], _, h => h
  | s :: H, x, h => by
    unfold popU
    split
    · exact popU_va H _ (fun q hq => h q (by simp [hq]))
    · exact h
theorem popU_op {r : Nat} : ∀ (H : List Nat) (x : Rs), opN (popU r H x).1 ≤ opN H
  | [], _ => Nat.le_refl _
  | s :: H, x => by
    unfold popU
    split
    · have := popU_op (r := r) H (wrR (cdX s) x)
      show _ ≤ _ + opN H
      omega
    · exact Nat.le_refl _
theorem popU_hd {r : Nat} : ∀ (H : List Nat) (x : Rs) (s : Nat) (K : List Nat), (popU r H x).1 = s :: K → rkN s < r
  | [], _, s, K, h => by cases h
  | q :: H, x, s, K, h => by
    unfold popU at h
    by_cases g : r ≤ rkN q
    · rw [if_pos g] at h; exact popU_hd H _ s K h
    · rw [if_neg g] at h
      obtain ⟨rfl, _⟩ := List.cons.inj h
      omega
theorem rk_0 {s : Nat} (h : s = 0 ∨ (11 ≤ s ∧ s ≤ 19)) (hr : rkN s < 1) : s = 0 := by
  have key : ∀ s, s < 20 → 11 ≤ s → 1 ≤ rkN s := by decide +kernel
  rcases h with h | h
  · exact h
  · have := key s (by omega) h.1; omega
theorem rk_1 {s : Nat} (h : s = 0 ∨ (11 ≤ s ∧ s ≤ 19)) (hr : 1 ≤ rkN s) : 11 ≤ s ∧ s < 20 := by
  rcases h with h | h
  · rw [h] at hr; exact absurd hr (by decide)
  · omega
theorem rk_7 (s : Nat) : rkN s ≤ 7 := by
  unfold rkN
  repeat (first | omega | split)
theorem opN_len : ∀ H : List Nat, opN H ≤ H.length
  | [] => Nat.le_refl _
  | s :: H => by
    have := opN_len H
    show (if s = 0 ∨ s = 13 ∨ s = 19 then 1 else 0) + opN H ≤ H.length + 1
    split <;> omega
abbrev rm_yX8_rank : Room := { frames := 0, cells := 0, slots := 0, locals := 0 }
set_option maxHeartbeats 800000 in
set_option maxRecDepth 100000 in
theorem kX8_rank {l : Launch} {sg : Nat} (hs : sg < 2 ^ 30) : PM l yX8_rank cX8_rank 1 FieldType.int rm_yX8_rank [.int (nI sg)] (nI (rkN sg)) := by
  refine gw_stS (own := RX8) (by decide +kernel) rfl (Nat.le_of_ble_eq_true rfl) ?_
  intro p e s m ar below meth c Q F hret ls hl
  obtain ⟨hx, hb, hml, hown, hts⟩ := id F
  have hl : lv_has ls 1 [(0, .int (nI sg))] := hl
  refine lv_iload_n hx hb dX8_rank_0 rfl (lv_at hl 0 rfl) ?_
  refine lv_if_ne (tgt := 8) hx hb dX8_rank_1 (by decide) (fun c_1 => ?_) (fun c_1 => ?_)
  ·
    refine lv_iload_n hx hb dX8_rank_8 rfl (lv_at hl 0 rfl) ?_
    refine lv_bipush (v := 11) hx hb dX8_rank_9 (by decide) ?_
    refine lv_icmp_ne (tgt := 18) hx hb dX8_rank_11 (by decide) (fun c_2 => ?_) (fun c_2 => ?_)
    ·
      refine lv_iload_n hx hb dX8_rank_18 rfl (lv_at hl 0 rfl) ?_
      refine lv_bipush (v := 12) hx hb dX8_rank_19 (by decide) ?_
      refine lv_icmp_ne (tgt := 28) hx hb dX8_rank_21 (by decide) (fun c_3 => ?_) (fun c_3 => ?_)
      ·
        refine lv_iload_n hx hb dX8_rank_28 rfl (lv_at hl 0 rfl) ?_
        refine lv_bipush (v := 13) hx hb dX8_rank_29 (by decide) ?_
        refine lv_icmp_ne (tgt := 38) hx hb dX8_rank_31 (by decide) (fun c_4 => ?_) (fun c_4 => ?_)
        ·
          refine lv_iload_n hx hb dX8_rank_38 rfl (lv_at hl 0 rfl) ?_
          refine lv_bipush (v := 15) hx hb dX8_rank_39 (by decide) ?_
          refine lv_icmp_gt (tgt := 48) hx hb dX8_rank_41 (by decide) (fun c_5 => ?_) (fun c_5 => ?_)
          ·
            refine lv_iload_n hx hb dX8_rank_48 rfl (lv_at hl 0 rfl) ?_
            refine lv_bipush (v := 17) hx hb dX8_rank_49 (by decide) ?_
            refine lv_icmp_gt (tgt := 58) hx hb dX8_rank_51 (by decide) (fun c_6 => ?_) (fun c_6 => ?_)
            ·
              refine lv_iload_n hx hb dX8_rank_58 rfl (lv_at hl 0 rfl) ?_
              refine lv_bipush (v := 18) hx hb dX8_rank_59 (by decide) ?_
              refine lv_icmp_ne (tgt := 69) hx hb dX8_rank_61 (by decide) (fun c_7 => ?_) (fun c_7 => ?_)
              ·
                refine lv_bipush (v := 7) hx hb dX8_rank_69 (by decide) ?_
                exact hret 7 _ _ rfl (by unfold rkN; rw [if_neg (fun z : sg = 0 => c_1 (by rw [z]; rfl)), if_neg (fun z : sg = 11 => c_2 (by rw [z]; rfl)), if_neg (fun z : sg = 12 => c_3 (by rw [z]; rfl)), if_neg (fun z : sg = 13 => c_4 (by rw [z]; rfl)), if_neg (Nat.not_le.mpr (mi_lt (a := 15) (b := sg) c_5 (by decide) (by omega))), if_neg (Nat.not_le.mpr (mi_lt (a := 17) (b := sg) c_6 (by decide) (by omega))), if_neg (fun z : sg = 18 => c_7 (by rw [z]; rfl))]; rfl) dX8_rank_71
              ·
                refine lv_bipush (v := 6) hx hb dX8_rank_64 (by decide) ?_
                refine lv_goto (tgt := 71) hx hb dX8_rank_66 (by decide) ?_
                exact hret 6 _ _ rfl (by unfold rkN; rw [if_neg (fun z : sg = 0 => c_1 (by rw [z]; rfl)), if_neg (fun z : sg = 11 => c_2 (by rw [z]; rfl)), if_neg (fun z : sg = 12 => c_3 (by rw [z]; rfl)), if_neg (fun z : sg = 13 => c_4 (by rw [z]; rfl)), if_neg (Nat.not_le.mpr (mi_lt (a := 15) (b := sg) c_5 (by decide) (by omega))), if_neg (Nat.not_le.mpr (mi_lt (a := 17) (b := sg) c_6 (by decide) (by omega))), if_pos (nI_i (a := sg) (b := 18) (by omega) (by decide) c_7)]; rfl) dX8_rank_71
            ·
              refine lv_iconst (v := 5) hx hb dX8_rank_54 (by decide) ?_
              refine lv_goto (tgt := 71) hx hb dX8_rank_55 (by decide) ?_
              exact hret 5 _ _ rfl (by unfold rkN; rw [if_neg (fun z : sg = 0 => c_1 (by rw [z]; rfl)), if_neg (fun z : sg = 11 => c_2 (by rw [z]; rfl)), if_neg (fun z : sg = 12 => c_3 (by rw [z]; rfl)), if_neg (fun z : sg = 13 => c_4 (by rw [z]; rfl)), if_neg (Nat.not_le.mpr (mi_lt (a := 15) (b := sg) c_5 (by decide) (by omega))), if_pos (mi_nlt (a := 17) (b := sg) c_6 (by decide) (by omega))]; rfl) dX8_rank_71
          ·
            refine lv_iconst (v := 4) hx hb dX8_rank_44 (by decide) ?_
            refine lv_goto (tgt := 71) hx hb dX8_rank_45 (by decide) ?_
            exact hret 4 _ _ rfl (by unfold rkN; rw [if_neg (fun z : sg = 0 => c_1 (by rw [z]; rfl)), if_neg (fun z : sg = 11 => c_2 (by rw [z]; rfl)), if_neg (fun z : sg = 12 => c_3 (by rw [z]; rfl)), if_neg (fun z : sg = 13 => c_4 (by rw [z]; rfl)), if_pos (mi_nlt (a := 15) (b := sg) c_5 (by decide) (by omega))]; rfl) dX8_rank_71
        ·
          refine lv_iconst (v := 3) hx hb dX8_rank_34 (by decide) ?_
          refine lv_goto (tgt := 71) hx hb dX8_rank_35 (by decide) ?_
          exact hret 3 _ _ rfl (by unfold rkN; rw [if_neg (fun z : sg = 0 => c_1 (by rw [z]; rfl)), if_neg (fun z : sg = 11 => c_2 (by rw [z]; rfl)), if_neg (fun z : sg = 12 => c_3 (by rw [z]; rfl)), if_pos (nI_i (a := sg) (b := 13) (by omega) (by decide) c_4)]; rfl) dX8_rank_71
      ·
        refine lv_iconst (v := 2) hx hb dX8_rank_24 (by decide) ?_
        refine lv_goto (tgt := 71) hx hb dX8_rank_25 (by decide) ?_
        exact hret 2 _ _ rfl (by unfold rkN; rw [if_neg (fun z : sg = 0 => c_1 (by rw [z]; rfl)), if_neg (fun z : sg = 11 => c_2 (by rw [z]; rfl)), if_pos (nI_i (a := sg) (b := 12) (by omega) (by decide) c_3)]; rfl) dX8_rank_71
    ·
      refine lv_iconst (v := 1) hx hb dX8_rank_14 (by decide) ?_
      refine lv_goto (tgt := 71) hx hb dX8_rank_15 (by decide) ?_
      exact hret 1 _ _ rfl (by unfold rkN; rw [if_neg (fun z : sg = 0 => c_1 (by rw [z]; rfl)), if_pos (nI_i (a := sg) (b := 11) (by omega) (by decide) c_2)]; rfl) dX8_rank_71
  ·
    refine lv_iconst (v := 0) hx hb dX8_rank_4 (by decide) ?_
    refine lv_goto (tgt := 71) hx hb dX8_rank_5 (by decide) ?_
    exact hret 0 _ _ rfl (by unfold rkN; rw [if_pos (nI_i (a := sg) (b := 0) (by omega) (by decide) c_1)]; rfl) dX8_rank_71
theorem c2h (j : Nat) : (200 : Int32) * nI j = nI (200 * j) := by rw [show (200 : Int32) = nI 200 from rfl]; exact mul_nI 200 j
theorem c4t (j : Nat) : (4 : Int32) * nI j = nI (4 * j) := by rw [show (4 : Int32) = nI 4 from rfl]; exact mul_nI 4 j
abbrev rm_yX8_puts : Room := { frames := 0, cells := 0, slots := 0, locals := 0 }
set_option maxHeartbeats 800000 in
set_option maxRecDepth 100000 in
theorem kX8_puts {l : Launch} {D : va_G} {cA : ClassId} {ad : Nat → Nat} {ρ T σ : Nat → Nat → Int32} {sz : Nat} {n w : Nat} {v : Int32} (hnn : σ 0 9 = nI n) (hn5 : n ≤ 5) (ho : σ 0 26 = nI w) (hw : w < 200) : MMv l yX8_puts cX8_puts 2 rm_yX8_puts [.ref (ad 0), .int v] D cA ad ρ T σ sz (fun (u : Nat → Nat → Int32) => u = upR (upR σ 5 (200 * n + w) v) 0 26 (nI (w + 1))) (fun u : Nat → Nat → Int32 => ment ad cA ρ T u) := by
  refine gw_stV (Ff := fun u : Nat → Nat → Int32 => ment ad cA ρ T u) (own := RX8) (by decide +kernel) rfl (Nat.le_of_ble_eq_true rfl) ?_
  intro p e s m ar below meth c A Q F hE hsz hW hret ls hl
  obtain ⟨hx, hb, hml, hown, hts⟩ := id F
  have hl : lv_has ls 2 [(0, .ref (ad 0)), (1, .int v)] := hl
  refine lv_aload_n hx hb dX8_puts_0 rfl (lv_at hl 0 rfl) ?_
  refine mr_f F hW 7 (by decide) rfl fl_RX8_22 dX8_puts_1 ?_
  refine lv_sipush (v := 200) hx hb dX8_puts_4 (by decide) ?_
  refine lv_aload_n hx hb dX8_puts_7 rfl (lv_at hl 0 rfl) ?_
  refine mr_f F hW 9 (by decide) rfl fl_RX8_86 dX8_puts_8 ?_
  refine lv_as (z := nI n) (hnn) ?_
  refine lv_imul hx hb dX8_puts_11 ?_
  refine lv_as (z := nI (200 * n)) (c2h _) ?_
  refine lv_aload_n hx hb dX8_puts_12 rfl (lv_at hl 0 rfl) ?_
  refine mr_f F hW 26 (by decide) rfl fl_RX8_112 dX8_puts_13 ?_
  refine lv_as (z := nI w) (ho) ?_
  refine lv_iadd hx hb dX8_puts_16 ?_
  refine lv_as (z := nI (200 * n + w)) (nI_add _ _) ?_
  refine lv_iload_n hx hb dX8_puts_17 rfl (lv_at hl 1 rfl) ?_
  refine mw_codes F hW (vp_in_nI (by omega) (by decide)) dX8_puts_18 (fun H locs hW => ?_)
  have hW : MW D cA ad ρ T (upR σ 5 (200 * n + w) v) A s s.heap H locs := by rw [nI_clamp (show (200 * n + w) < 2 ^ 31 by omega)] at hW; exact hW
  refine lv_aload_n hx hb dX8_puts_19 rfl (lv_at hl 0 rfl) ?_
  refine lv_dup hx hb dX8_puts_20 rfl ?_
  refine mr_f F hW 26 (by decide) rfl fl_RX8_112 dX8_puts_21 ?_
  refine lv_as (z := nI w) (by rw [up_ne2 (by decide)]; exact ho) ?_
  refine lv_iconst (v := 1) hx hb dX8_puts_24 (by decide) ?_
  refine lv_iadd hx hb dX8_puts_25 ?_
  refine lv_as (z := nI (w + 1)) (nI_1 w) ?_
  refine mw_σ F hW 26 (by decide) fl_RX8_112 rfl (ty := .int) rfl rfl rfl rfl dX8_puts_26 (fun H locs hW => ?_)
  exact hret (upR (upR σ 5 (200 * n + w) v) 0 26 (nI (w + 1))) _ _ _ _ _ hW rfl (rfl) dX8_puts_29
abbrev rm_yX8_holds : Room := { frames := 0, cells := 0, slots := 0, locals := 0 }
set_option maxHeartbeats 800000 in
set_option maxRecDepth 100000 in
theorem kX8_holds {l : Launch} {D : va_G} {cA : ClassId} {ad : Nat → Nat} {ρ T σ : Nat → Nat → Int32} {sz : Nat} {h : Nat} {v : Int32} (hh : σ 0 24 = nI h) (hh2 : h < 200) : MMv l yX8_holds cX8_holds 2 rm_yX8_holds [.ref (ad 0), .int v] D cA ad ρ T σ sz (fun (u : Nat → Nat → Int32) => u = upR (upR σ 14 h v) 0 24 (nI (h + 1))) (fun u : Nat → Nat → Int32 => ment ad cA ρ T u) := by
  refine gw_stV (Ff := fun u : Nat → Nat → Int32 => ment ad cA ρ T u) (own := RX8) (by decide +kernel) rfl (Nat.le_of_ble_eq_true rfl) ?_
  intro p e s m ar below meth c A Q F hE hsz hW hret ls hl
  obtain ⟨hx, hb, hml, hown, hts⟩ := id F
  have hl : lv_has ls 2 [(0, .ref (ad 0)), (1, .int v)] := hl
  refine lv_aload_n hx hb dX8_holds_0 rfl (lv_at hl 0 rfl) ?_
  refine mr_f F hW 23 (by decide) rfl fl_RX8_49 dX8_holds_1 ?_
  refine lv_aload_n hx hb dX8_holds_4 rfl (lv_at hl 0 rfl) ?_
  refine mr_f F hW 24 (by decide) rfl fl_RX8_115 dX8_holds_5 ?_
  refine lv_as (z := nI h) (hh) ?_
  refine lv_iload_n hx hb dX8_holds_8 rfl (lv_at hl 1 rfl) ?_
  refine mw_held F hW (vp_in_nI (by omega) (by decide)) dX8_holds_9 (fun H locs hW => ?_)
  have hW : MW D cA ad ρ T (upR σ 14 h v) A s s.heap H locs := by rw [nI_clamp (show h < 2 ^ 31 by omega)] at hW; exact hW
  refine lv_aload_n hx hb dX8_holds_10 rfl (lv_at hl 0 rfl) ?_
  refine lv_dup hx hb dX8_holds_11 rfl ?_
  refine mr_f F hW 24 (by decide) rfl fl_RX8_115 dX8_holds_12 ?_
  refine lv_as (z := nI h) (by rw [up_ne2 (by decide)]; exact hh) ?_
  refine lv_iconst (v := 1) hx hb dX8_holds_15 (by decide) ?_
  refine lv_iadd hx hb dX8_holds_16 ?_
  refine lv_as (z := nI (h + 1)) (nI_1 h) ?_
  refine mw_σ F hW 24 (by decide) fl_RX8_115 rfl (ty := .int) rfl rfl rfl rfl dX8_holds_17 (fun H locs hW => ?_)
  exact hret (upR (upR σ 14 h v) 0 24 (nI (h + 1))) _ _ _ _ _ hW rfl (rfl) dX8_holds_20
abbrev rm_yX8_opensOne : Room := { frames := 1, cells := 0, slots := 0, locals := 21 }
set_option maxHeartbeats 800000 in
set_option maxRecDepth 100000 in
theorem kX8_opensOne {l : Launch} {D : va_G} {cA : ClassId} {ad : Nat → Nat} {ρ T σ : Nat → Nat → Int32} {sz : Nat} {h o : Nat} {v : Int32} (hh : σ 0 24 = nI h) (hh2 : h < 200) (hop : σ 0 25 = nI o) (hop2 : o ≤ 160) : MMi l yX8_opensOne cX8_opensOne 2 FieldType.boolean rm_yX8_opensOne [.ref (ad 0), .int v] D cA ad ρ T σ sz (fun (r : Int32) (u : Nat → Nat → Int32) => r = (if o = 5 then 0 else 1) ∧ u = (if o = 5 then σ else upR (upR (upR σ 0 25 (nI (o + 1))) 14 h v) 0 24 (nI (h + 1)))) (fun u : Nat → Nat → Int32 => ment ad cA ρ T u) := by
  refine gw_stI (Ff := fun u : Nat → Nat → Int32 => ment ad cA ρ T u) (own := RX8) (by decide +kernel) rfl (Nat.le_of_ble_eq_true rfl) ?_
  intro p e s m ar below meth c A Q F hE hsz hW hret ls hl
  obtain ⟨hx, hb, hml, hown, hts⟩ := id F
  have hl : lv_has ls 2 [(0, .ref (ad 0)), (1, .int v)] := hl
  refine lv_aload_n hx hb dX8_opensOne_0 rfl (lv_at hl 0 rfl) ?_
  refine mr_f F hW 25 (by decide) rfl fl_RX8_121 dX8_opensOne_1 ?_
  refine lv_as (z := nI o) (hop) ?_
  refine lv_iconst (v := 5) hx hb dX8_opensOne_4 (by decide) ?_
  refine lv_icmp_ne (tgt := 10) hx hb dX8_opensOne_5 (by decide) (fun c_1 => ?_) (fun c_1 => ?_)
  ·
    refine lv_aload_n hx hb dX8_opensOne_10 rfl (lv_at hl 0 rfl) ?_
    refine lv_dup hx hb dX8_opensOne_11 rfl ?_
    refine mr_f F hW 25 (by decide) rfl fl_RX8_121 dX8_opensOne_12 ?_
    refine lv_as (z := nI o) (hop) ?_
    refine lv_iconst (v := 1) hx hb dX8_opensOne_15 (by decide) ?_
    refine lv_iadd hx hb dX8_opensOne_16 ?_
    refine lv_as (z := nI (o + 1)) (nI_1 o) ?_
    refine mw_σ F hW 25 (by decide) fl_RX8_121 rfl (ty := .int) rfl rfl rfl rfl dX8_opensOne_17 (fun H locs hW => ?_)
    refine lv_aload_n hx hb dX8_opensOne_20 rfl (lv_at hl 0 rfl) ?_
    refine lv_iload_n hx hb dX8_opensOne_21 rfl (lv_at hl 1 rfl) ?_
    refine gw_callVv (As := [.int v]) (rest := []) F hl.1 hW (fun _ _ _ => trivial) gw_T_E (by decide) (rfl : ment ad cA _ _ _ 0 = _) rfl (kX8_holds (h := h) (by rw [upR_self, pk_un (by decide)]; exact hh) hh2) pd_yX8_holds ml_RX8_128 im_yX8_holds se_yX8_holds ini_RX8 cd_yX8_holds ⟨rfl, rfl⟩ ⟨Nat.le_of_ble_eq_true rfl, Nat.le_of_ble_eq_true rfl⟩ rfl rfl (Nat.le_of_ble_eq_true rfl) ⟨Nat.zero_le _, Nat.zero_le _⟩ dX8_opensOne_22 (fun σ_2 H locs hp hW _ _ => ?_)
    subst hp
    refine lv_iconst (v := 1) hx hb dX8_opensOne_25 (by decide) ?_
    exact hret 1 (upR (upR (upR σ 0 25 (nI (o + 1))) 14 h v) 0 24 (nI (h + 1))) _ _ _ _ _ hW rfl rfl (by have e : ¬ o = 5 := fun z => c_1 (by rw [z]; rfl); rw [if_neg e, if_neg e]; exact ⟨rfl, rfl⟩) dX8_opensOne_26
  ·
    refine lv_iconst (v := 0) hx hb dX8_opensOne_8 (by decide) ?_
    exact hret 0 σ _ _ _ _ _ hW rfl rfl (by have e : o = 5 := nI_i (by omega) (by decide) c_1; rw [if_pos e, if_pos e]; exact ⟨rfl, rfl⟩) dX8_opensOne_9
theorem opN_nu {s : Nat} (h : ¬ (s = 0 ∨ s = 13 ∨ s = 19)) {K : List Nat} : opN (s :: K) = opN K := by
  show (if s = 0 ∨ s = 13 ∨ s = 19 then 1 else 0) + opN K = opN K
  rw [if_neg h, Nat.zero_add]
abbrev rm_yX8_unwinds : Room := { frames := 1, cells := 0, slots := 0, locals := 21 }
set_option maxHeartbeats 800000 in
set_option maxRecDepth 100000 in
theorem kX8_unwinds {l : Launch} {D : va_G} {cA : ClassId} {ad : Nat → Nat} {ρ T σ : Nat → Nat → Int32} {sz : Nat} {n r : Nat} {K : List Nat} {x : Rs} (hnn : σ 0 9 = nI n) (hn5 : n ≤ 5) (hr1 : 1 ≤ r) (hr7 : r ≤ 7) (hS0 : StO σ K) (hO0 : OuO n σ x.2.2.2.2) (hV0 : VaH K) (hB0 : K.length + x.2.2.2.2.length ≤ 160) : MMv l yX8_unwinds cX8_unwinds 3 rm_yX8_unwinds [.ref (ad 0), .int (nI r)] D cA ad ρ T σ sz (fun (u : Nat → Nat → Int32) => StO u (popU r K x).1 ∧ OuO n u (popU r K x).2.2.2.2.2 ∧ WFr n σ u) (fun u : Nat → Nat → Int32 => ment ad cA ρ T u) := by
  refine gw_stV (Ff := fun u : Nat → Nat → Int32 => ment ad cA ρ T u) (own := RX8) (by decide +kernel) rfl (Nat.le_of_ble_eq_true rfl) ?_
  intro p e s m ar below meth c A Q F hE hsz hW hret ls hl
  obtain ⟨hx, hb, hml, hown, hts⟩ := id F
  have hl : lv_has ls 3 [(0, .ref (ad 0)), (1, .int (nI r))] := hl
  generalize hR0 : popU r K x = RES
  have L0 : ∀ (k : Nat) (H' : List Nat) (x' : Rs) (σ' : Nat → Nat → Int32), (H'.length < k) → (StO σ' H') → (OuO n σ' x'.2.2.2.2) → (WFr n σ σ') → (VaH H') → (H'.length + x'.2.2.2.2.length ≤ 160) → (popU r H' x' = RES) → ∀ (H : Heap) (locs : List Loc) (ls : Array Slot), MW D cA ad ρ T σ' A s s.heap H locs → lv_has ls 3 [(0, .ref (ad 0)), (1, .int (nI r))] → W p l e rm_yX8_unwinds s m ar below meth c H locs 0 0 Q (F0 m 0 ls []) := by
    intro k
    induction k with
    | zero => intro H' x' σ' h2 hS hO hF hV hB hRR; exact absurd h2 (by omega)
    | succ k ih0 =>
      intro H' x' σ' h2 hS hO hF hV hB hRR H locs ls hW hl
      refine lv_aload_n hx hb dX8_unwinds_0 rfl (lv_at hl 0 rfl) ?_
      refine mr_f F hW 24 (by decide) rfl fl_RX8_115 dX8_unwinds_1 ?_
      refine lv_as (z := nI H'.length) (hS.1) ?_
      refine lv_if_le (tgt := 79) hx hb dX8_unwinds_4 (by decide) (fun c_1 => ?_) (fun c_1 => ?_)
      ·
        obtain rfl : H' = [] := (by cases H' with | nil => rfl | cons a K2 => exact absurd (mi_le (b := 0) c_1 (by omega) (by decide)) (by simp))
        exact hret σ' _ _ _ _ _ hW rfl (by rw [hR0, ← hRR]; exact ⟨hS, hO, hF⟩) dX8_unwinds_79
      ·
        obtain ⟨sg, H2, rfl⟩ : ∃ sg H2, H' = sg :: H2 := (by cases H' with | nil => exact absurd (Int32.le_refl 0) c_1 | cons a K2 => exact ⟨a, K2, rfl⟩); have hB : H2.length + 1 + x'.2.2.2.2.length ≤ 160 := hB; have hvs := hV sg (by simp)
        refine lv_aload_n hx hb dX8_unwinds_7 rfl (lv_at hl 0 rfl) ?_
        refine mr_f F hW 23 (by decide) rfl fl_RX8_49 dX8_unwinds_8 ?_
        refine lv_aload_n hx hb dX8_unwinds_11 rfl (lv_at hl 0 rfl) ?_
        refine mr_f F hW 24 (by decide) rfl fl_RX8_115 dX8_unwinds_12 ?_
        refine lv_as (z := nI (H2.length + 1)) (hS.1) ?_
        refine lv_iconst (v := 1) hx hb dX8_unwinds_15 (by decide) ?_
        refine lv_isub hx hb dX8_unwinds_16 ?_
        refine lv_as (z := nI H2.length) (nI_pred _) ?_
        refine mr_held F hW (vp_in_nI (by omega) (by decide)) dX8_unwinds_17 ?_
        refine lv_as (z := σ' 14 H2.length) (by rw [nI_clamp (show H2.length < 2 ^ 31 by omega)]) ?_
        refine lv_as (z := nI sg) (sto_top hS) ?_
        refine gw_callP (As := [.int (nI sg)]) (rest := []) F hl.1 (kX8_rank (sg := sg) (by omega)) pd_yX8_rank ml_RX8_118 st_yX8_rank ini_RX8 cd_yX8_rank ⟨rfl, rfl⟩ ⟨Nat.le_of_ble_eq_true rfl, Nat.le_of_ble_eq_true rfl⟩ rfl rfl (Nat.le_of_ble_eq_true rfl) ⟨Nat.zero_le _, Nat.zero_le _⟩ dX8_unwinds_18 ?_
        refine lv_as (z := nI (rkN sg)) rfl ?_
        refine lv_iload_n hx hb dX8_unwinds_21 rfl (lv_at hl 1 rfl) ?_
        refine lv_icmp_lt (tgt := 79) hx hb dX8_unwinds_22 (by decide) (fun c_2 => ?_) (fun c_2 => ?_)
        ·
          have hrk : ¬ r ≤ rkN sg := Nat.not_le.mpr (mi_lt c_2 (by have := rk_7 sg; omega) (by omega))
          exact hret σ' _ _ _ _ _ hW rfl (by rw [hR0, ← hRR, show popU r (sg :: H2) x' = (sg :: H2, x') from if_neg hrk]; exact ⟨hS, hO, hF⟩) dX8_unwinds_79
        ·
          have hrk : r ≤ rkN sg := mi_nlt c_2 (by have := rk_7 sg; omega) (by omega); have hrs := rk_1 hvs (by omega)
          refine lv_aload_n hx hb dX8_unwinds_25 rfl (lv_at hl 0 rfl) ?_
          refine lv_dup hx hb dX8_unwinds_26 rfl ?_
          refine mr_f F hW 24 (by decide) rfl fl_RX8_115 dX8_unwinds_27 ?_
          refine lv_as (z := nI (H2.length + 1)) (hS.1) ?_
          refine lv_iconst (v := 1) hx hb dX8_unwinds_30 (by decide) ?_
          refine lv_isub hx hb dX8_unwinds_31 ?_
          refine lv_as (z := nI H2.length) (nI_pred _) ?_
          refine mw_σ F hW 24 (by decide) fl_RX8_115 rfl (ty := .int) rfl rfl rfl rfl dX8_unwinds_32 (fun H locs hW => ?_)
          refine lv_aload_n hx hb dX8_unwinds_35 rfl (lv_at hl 0 rfl) ?_
          refine mr_f F hW 23 (by decide) rfl fl_RX8_49 dX8_unwinds_36 ?_
          refine lv_aload_n hx hb dX8_unwinds_39 rfl (lv_at hl 0 rfl) ?_
          refine mr_f F hW 24 (by decide) rfl fl_RX8_115 dX8_unwinds_40 ?_
          refine lv_as (z := nI H2.length) (by rw [upR_self]; exact pk_us) ?_
          refine mr_held F hW (vp_in_nI (by omega) (by decide)) dX8_unwinds_43 ?_
          refine lv_as (z := (upR σ' 0 24 (nI H2.length)) 14 H2.length) (by rw [nI_clamp (show H2.length < 2 ^ 31 by omega)]) ?_
          refine lv_as (z := nI sg) (by rw [up_ne2 (by decide)]; exact sto_top hS) ?_
          refine lv_istore_n (lv' := [(2, .int (nI sg)), (0, .ref (ad 0)), (1, .int (nI r))]) hx hb dX8_unwinds_44 rfl hl (by decide) rfl (fun ls hl => ?_)
          refine lv_aload_n hx hb dX8_unwinds_45 rfl (lv_at hl 1 rfl) ?_
          refine lv_dup hx hb dX8_unwinds_46 rfl ?_
          refine mr_f F hW 25 (by decide) rfl fl_RX8_121 dX8_unwinds_47 ?_
          refine lv_as (z := nI (opN (sg :: H2))) (by rw [upR_self, pk_un (by decide)]; exact hS.2.1) ?_
          refine lv_iload_n hx hb dX8_unwinds_50 rfl (lv_at hl 0 rfl) ?_
          refine lv_bipush (v := 13) hx hb dX8_unwinds_51 (by decide) ?_
          refine lv_icmp_eq (tgt := 62) hx hb dX8_unwinds_53 (by decide) (fun c_3 => ?_) (fun c_3 => ?_)
          ·
            refine lv_iconst (v := 1) hx hb dX8_unwinds_62 (by decide) ?_
            refine lv_goto (tgt := 67) hx hb dX8_unwinds_63 (by decide) ?_
            refine lv_isub hx hb dX8_unwinds_67 ?_
            refine lv_as (z := nI (opN H2)) (by have e : sg = 13 := nI_i (by omega) (by decide) c_3; rw [opN_un (by omega), Nat.add_comm]; exact nI_pred _) ?_
            refine mw_σ F hW 25 (by decide) fl_RX8_121 rfl (ty := .int) rfl rfl rfl rfl dX8_unwinds_68 (fun H locs hW => ?_)
            refine lv_aload_n hx hb dX8_unwinds_71 rfl (lv_at hl 1 rfl) ?_
            refine lv_iload_n hx hb dX8_unwinds_72 rfl (lv_at hl 0 rfl) ?_
            refine gw_callVv (As := [.int (nI sg)]) (rest := []) F hl.1 hW (fun _ _ _ => trivial) gw_T_E (by decide) (rfl : ment ad cA _ _ _ 0 = _) rfl (kX8_puts (n := n) (w := x'.2.2.2.2.length) (by rw [upR_self, pk_un (by decide), upR_self, pk_un (by decide), hF.2.1 9 (by decide) (by decide) (by decide)]; exact hnn) hn5 (by rw [upR_self, pk_un (by decide), upR_self, pk_un (by decide)]; exact hO.1) (by omega)) pd_yX8_puts ml_RX8_124 im_yX8_puts se_yX8_puts ini_RX8 cd_yX8_puts ⟨rfl, rfl⟩ ⟨Nat.le_of_ble_eq_true rfl, Nat.le_of_ble_eq_true rfl⟩ rfl rfl (Nat.le_of_ble_eq_true rfl) ⟨Nat.zero_le _, Nat.zero_le _⟩ dX8_unwinds_73 (fun σ_4 H locs hp hW _ _ => ?_)
            subst hp
            refine lv_goto (tgt := 0) hx hb dX8_unwinds_76 (by decide) ?_
            have hU := unw_s hS hO hrs.1 hrs.2
            exact ih0 H2 (wrR (cdX sg) x') _ (by have : (sg :: H2).length = H2.length + 1 := rfl; omega) (hU.1) (by rw [show (wrR (cdX sg) x').2.2.2.2 = x'.2.2.2.2 ++ [cdX sg] from wri_ln (by omega) _]; exact hU.2) (wf_put (wf_f (wf_f hF (by omega)) (by omega))) (fun q hq => hV q (by simp [hq])) (by rw [show (wrR (cdX sg) x').2.2.2.2 = x'.2.2.2.2 ++ [cdX sg] from wri_ln (by omega) _, List.length_append, List.length_singleton]; omega) (by rw [← hRR]; exact (if_pos hrk).symm) _ _ _ hW (lv_sub hl [1, 2] rfl)
          ·
            refine lv_iload_n hx hb dX8_unwinds_56 rfl (lv_at hl 0 rfl) ?_
            refine lv_bipush (v := 19) hx hb dX8_unwinds_57 (by decide) ?_
            refine lv_icmp_ne (tgt := 66) hx hb dX8_unwinds_59 (by decide) (fun c_5 => ?_) (fun c_5 => ?_)
            ·
              refine lv_iconst (v := 0) hx hb dX8_unwinds_66 (by decide) ?_
              refine lv_isub hx hb dX8_unwinds_67 ?_
              refine lv_as (z := nI (opN H2)) (by have e1 : ¬ sg = 13 := (fun z => c_3 (by rw [z]; rfl)); have e2 : ¬ sg = 19 := (fun z => c_5 (by rw [z]; rfl)); rw [opN_nu (by omega)]; exact Int32.sub_zero _) ?_
              refine mw_σ F hW 25 (by decide) fl_RX8_121 rfl (ty := .int) rfl rfl rfl rfl dX8_unwinds_68 (fun H locs hW => ?_)
              refine lv_aload_n hx hb dX8_unwinds_71 rfl (lv_at hl 1 rfl) ?_
              refine lv_iload_n hx hb dX8_unwinds_72 rfl (lv_at hl 0 rfl) ?_
              refine gw_callVv (As := [.int (nI sg)]) (rest := []) F hl.1 hW (fun _ _ _ => trivial) gw_T_E (by decide) (rfl : ment ad cA _ _ _ 0 = _) rfl (kX8_puts (n := n) (w := x'.2.2.2.2.length) (by rw [upR_self, pk_un (by decide), upR_self, pk_un (by decide), hF.2.1 9 (by decide) (by decide) (by decide)]; exact hnn) hn5 (by rw [upR_self, pk_un (by decide), upR_self, pk_un (by decide)]; exact hO.1) (by omega)) pd_yX8_puts ml_RX8_124 im_yX8_puts se_yX8_puts ini_RX8 cd_yX8_puts ⟨rfl, rfl⟩ ⟨Nat.le_of_ble_eq_true rfl, Nat.le_of_ble_eq_true rfl⟩ rfl rfl (Nat.le_of_ble_eq_true rfl) ⟨Nat.zero_le _, Nat.zero_le _⟩ dX8_unwinds_73 (fun σ_6 H locs hp hW _ _ => ?_)
              subst hp
              refine lv_goto (tgt := 0) hx hb dX8_unwinds_76 (by decide) ?_
              have hU := unw_s hS hO hrs.1 hrs.2
              exact ih0 H2 (wrR (cdX sg) x') _ (by have : (sg :: H2).length = H2.length + 1 := rfl; omega) (hU.1) (by rw [show (wrR (cdX sg) x').2.2.2.2 = x'.2.2.2.2 ++ [cdX sg] from wri_ln (by omega) _]; exact hU.2) (wf_put (wf_f (wf_f hF (by omega)) (by omega))) (fun q hq => hV q (by simp [hq])) (by rw [show (wrR (cdX sg) x').2.2.2.2 = x'.2.2.2.2 ++ [cdX sg] from wri_ln (by omega) _, List.length_append, List.length_singleton]; omega) (by rw [← hRR]; exact (if_pos hrk).symm) _ _ _ hW (lv_sub hl [1, 2] rfl)
            ·
              refine lv_iconst (v := 1) hx hb dX8_unwinds_62 (by decide) ?_
              refine lv_goto (tgt := 67) hx hb dX8_unwinds_63 (by decide) ?_
              refine lv_isub hx hb dX8_unwinds_67 ?_
              refine lv_as (z := nI (opN H2)) (by have e : sg = 19 := nI_i (by omega) (by decide) c_5; rw [opN_un (by omega), Nat.add_comm]; exact nI_pred _) ?_
              refine mw_σ F hW 25 (by decide) fl_RX8_121 rfl (ty := .int) rfl rfl rfl rfl dX8_unwinds_68 (fun H locs hW => ?_)
              refine lv_aload_n hx hb dX8_unwinds_71 rfl (lv_at hl 1 rfl) ?_
              refine lv_iload_n hx hb dX8_unwinds_72 rfl (lv_at hl 0 rfl) ?_
              refine gw_callVv (As := [.int (nI sg)]) (rest := []) F hl.1 hW (fun _ _ _ => trivial) gw_T_E (by decide) (rfl : ment ad cA _ _ _ 0 = _) rfl (kX8_puts (n := n) (w := x'.2.2.2.2.length) (by rw [upR_self, pk_un (by decide), upR_self, pk_un (by decide), hF.2.1 9 (by decide) (by decide) (by decide)]; exact hnn) hn5 (by rw [upR_self, pk_un (by decide), upR_self, pk_un (by decide)]; exact hO.1) (by omega)) pd_yX8_puts ml_RX8_124 im_yX8_puts se_yX8_puts ini_RX8 cd_yX8_puts ⟨rfl, rfl⟩ ⟨Nat.le_of_ble_eq_true rfl, Nat.le_of_ble_eq_true rfl⟩ rfl rfl (Nat.le_of_ble_eq_true rfl) ⟨Nat.zero_le _, Nat.zero_le _⟩ dX8_unwinds_73 (fun σ_7 H locs hp hW _ _ => ?_)
              subst hp
              refine lv_goto (tgt := 0) hx hb dX8_unwinds_76 (by decide) ?_
              have hU := unw_s hS hO hrs.1 hrs.2
              exact ih0 H2 (wrR (cdX sg) x') _ (by have : (sg :: H2).length = H2.length + 1 := rfl; omega) (hU.1) (by rw [show (wrR (cdX sg) x').2.2.2.2 = x'.2.2.2.2 ++ [cdX sg] from wri_ln (by omega) _]; exact hU.2) (wf_put (wf_f (wf_f hF (by omega)) (by omega))) (fun q hq => hV q (by simp [hq])) (by rw [show (wrR (cdX sg) x').2.2.2.2 = x'.2.2.2.2 ++ [cdX sg] from wri_ln (by omega) _, List.length_append, List.length_singleton]; omega) (by rw [← hRR]; exact (if_pos hrk).symm) _ _ _ hW (lv_sub hl [1, 2] rfl)
  exact L0 (K.length + 1) K x _ (Nat.lt_succ_self _) (hS0) (hO0) (WFr.rf) (hV0) (hB0) (hR0) _ _ _ hW (lv_sub hl [0, 1] rfl)
abbrev rm_yX8_between : Room := { frames := 2, cells := 0, slots := 0, locals := 43 }
set_option maxHeartbeats 800000 in
set_option maxRecDepth 100000 in
theorem kX8_between {l : Launch} {D : va_G} {cA : ClassId} {ad : Nat → Nat} {ρ T σ : Nat → Nat → Int32} {sz : Nat} {n sg : Nat} {K : List Nat} {x : Rs} (hnn : σ 0 9 = nI n) (hn5 : n ≤ 5) (hs0 : sg < 20) (hs1 : 1 ≤ rkN sg) (hso : ¬ (sg = 0 ∨ sg = 13 ∨ sg = 19)) (hS : StO σ K) (hO : OuO n σ x.2.2.2.2) (hV : VaH K) (hB : K.length + x.2.2.2.2.length ≤ 160) : MMi l yX8_between cX8_between 2 FieldType.boolean rm_yX8_between [.ref (ad 0), .int (nI sg)] D cA ad ρ T σ sz (fun (r : Int32) (u : Nat → Nat → Int32) => ((rkN sg = 4 ∧ topR (popU (if rkN sg = 4 then 5 else rkN sg) K x).1 = 4) ∧ r = 0 ∧ WFr n σ u) ∨ (¬ (rkN sg = 4 ∧ topR (popU (if rkN sg = 4 then 5 else rkN sg) K x).1 = 4) ∧ r = 1 ∧ StO u (sg :: (popU (if rkN sg = 4 then 5 else rkN sg) K x).1) ∧ OuO n u (popU (if rkN sg = 4 then 5 else rkN sg) K x).2.2.2.2.2 ∧ WFr n σ u)) (fun u : Nat → Nat → Int32 => ment ad cA ρ T u) := by
  refine gw_stI (Ff := fun u : Nat → Nat → Int32 => ment ad cA ρ T u) (own := RX8) (by decide +kernel) rfl (Nat.le_of_ble_eq_true rfl) ?_
  intro p e s m ar below meth c A Q F hE hsz hW hret ls hl
  obtain ⟨hx, hb, hml, hown, hts⟩ := id F
  have hl : lv_has ls 2 [(0, .ref (ad 0)), (1, .int (nI sg))] := hl
  have hr7 := rk_7 sg
  refine lv_aload_n hx hb dX8_between_0 rfl (lv_at hl 0 rfl) ?_
  refine lv_iload_n hx hb dX8_between_1 rfl (lv_at hl 1 rfl) ?_
  refine gw_callP (As := [.int (nI sg)]) (rest := [.ref (ad 0)]) F hl.1 (kX8_rank (sg := sg) (by omega)) pd_yX8_rank ml_RX8_118 st_yX8_rank ini_RX8 cd_yX8_rank ⟨rfl, rfl⟩ ⟨Nat.le_of_ble_eq_true rfl, Nat.le_of_ble_eq_true rfl⟩ rfl rfl (Nat.le_of_ble_eq_true rfl) ⟨Nat.zero_le _, Nat.zero_le _⟩ dX8_between_2 ?_
  refine lv_as (z := nI (rkN sg)) rfl ?_
  refine lv_iconst (v := 4) hx hb dX8_between_5 (by decide) ?_
  refine lv_icmp_ne (tgt := 13) hx hb dX8_between_6 (by decide) (fun c_1 => ?_) (fun c_1 => ?_)
  ·
    have h4 : ¬ rkN sg = 4 := fun z => c_1 (by rw [z]; rfl)
    refine lv_iload_n hx hb dX8_between_13 rfl (lv_at hl 1 rfl) ?_
    refine gw_callP (As := [.int (nI sg)]) (rest := [.ref (ad 0)]) F hl.1 (kX8_rank (sg := sg) (by omega)) pd_yX8_rank ml_RX8_118 st_yX8_rank ini_RX8 cd_yX8_rank ⟨rfl, rfl⟩ ⟨Nat.le_of_ble_eq_true rfl, Nat.le_of_ble_eq_true rfl⟩ rfl rfl (Nat.le_of_ble_eq_true rfl) ⟨Nat.zero_le _, Nat.zero_le _⟩ dX8_between_14 ?_
    refine lv_as (z := nI (rkN sg)) rfl ?_
    refine lv_as (z := nI (if rkN sg = 4 then 5 else rkN sg)) (by rw [if_neg h4]) ?_
    refine gw_callVv (As := [.int (nI (if rkN sg = 4 then 5 else rkN sg))]) (rest := []) F hl.1 hW (fun _ _ _ => trivial) gw_T_E (by decide) (rfl : ment ad cA _ _ _ 0 = _) rfl (kX8_unwinds (n := n) (r := (if rkN sg = 4 then 5 else rkN sg)) (K := K) (x := x) hnn hn5 (by have := hs1; split <;> omega) (by split <;> omega) hS hO hV hB) pd_yX8_unwinds ml_RX8_131 im_yX8_unwinds se_yX8_unwinds ini_RX8 cd_yX8_unwinds ⟨rfl, rfl⟩ ⟨Nat.le_of_ble_eq_true rfl, Nat.le_of_ble_eq_true rfl⟩ rfl rfl (Nat.le_of_ble_eq_true rfl) ⟨Nat.zero_le _, Nat.zero_le _⟩ dX8_between_17 (fun σ_2 H locs hp hW _ _ => ?_)
    obtain ⟨hS, hO, hWf⟩ := hp
    have hV := popU_va (r := (if rkN sg = 4 then 5 else rkN sg)) K x hV
    have hL := popU_len (r := (if rkN sg = 4 then 5 else rkN sg)) K x hB
    have hB : (popU (if rkN sg = 4 then 5 else rkN sg) K x).1.length + (popU (if rkN sg = 4 then 5 else rkN sg) K x).2.2.2.2.2.length ≤ 160 := by omega
    refine lv_iload_n hx hb dX8_between_20 rfl (lv_at hl 1 rfl) ?_
    refine gw_callP (As := [.int (nI sg)]) (rest := []) F hl.1 (kX8_rank (sg := sg) (by omega)) pd_yX8_rank ml_RX8_118 st_yX8_rank ini_RX8 cd_yX8_rank ⟨rfl, rfl⟩ ⟨Nat.le_of_ble_eq_true rfl, Nat.le_of_ble_eq_true rfl⟩ rfl rfl (Nat.le_of_ble_eq_true rfl) ⟨Nat.zero_le _, Nat.zero_le _⟩ dX8_between_21 ?_
    refine lv_as (z := nI (rkN sg)) rfl ?_
    refine lv_iconst (v := 4) hx hb dX8_between_24 (by decide) ?_
    refine lv_icmp_ne (tgt := 55) hx hb dX8_between_25 (by decide) (fun c_3 => ?_) (fun c_3 => ?_)
    ·
      refine lv_aload_n hx hb dX8_between_55 rfl (lv_at hl 0 rfl) ?_
      refine lv_iload_n hx hb dX8_between_56 rfl (lv_at hl 1 rfl) ?_
      refine gw_callVv (As := [.int (nI sg)]) (rest := []) F hl.1 hW (fun _ _ _ => trivial) gw_T_E (by decide) (rfl : ment ad cA _ _ _ 0 = _) rfl (kX8_holds (h := (popU (if rkN sg = 4 then 5 else rkN sg) K x).1.length) hS.1 (by omega)) pd_yX8_holds ml_RX8_128 im_yX8_holds se_yX8_holds ini_RX8 cd_yX8_holds ⟨rfl, rfl⟩ ⟨Nat.le_of_ble_eq_true rfl, Nat.le_of_ble_eq_true rfl⟩ rfl rfl (Nat.le_of_ble_eq_true rfl) ⟨Nat.zero_le _, Nat.zero_le _⟩ dX8_between_57 (fun σ_4 H locs hp hW _ _ => ?_)
      subst hp
      refine lv_iconst (v := 1) hx hb dX8_between_60 (by decide) ?_
      exact hret 1 (upR (upR σ_2 14 ((popU (if rkN sg = 4 then 5 else rkN sg) K x).1.length) (nI sg)) 0 24 (nI ((popU (if rkN sg = 4 then 5 else rkN sg) K x).1.length + 1))) _ _ _ _ _ hW rfl rfl (Or.inr ⟨fun z => h4 z.1, rfl, sto_push hS hS.2.1 (opN_nu hso).symm, ou_f hO (by rw [upR_self, pk_un (by decide), up_ne2 (by decide)]) (by rw [up_ne2 (by decide), up_ne2 (by decide)]), wf_f (wf_14 hWf) (by omega)⟩) dX8_between_61
    ·
      first | exact absurd c_1 c_3 | exact absurd c_3 c_1
  ·
    have h4 : rkN sg = 4 := nI_i (by omega) (by decide) c_1
    refine lv_iconst (v := 5) hx hb dX8_between_9 (by decide) ?_
    refine lv_goto (tgt := 17) hx hb dX8_between_10 (by decide) ?_
    refine lv_as (z := nI (if rkN sg = 4 then 5 else rkN sg)) (by rw [if_pos h4]; rfl) ?_
    refine gw_callVv (As := [.int (nI (if rkN sg = 4 then 5 else rkN sg))]) (rest := []) F hl.1 hW (fun _ _ _ => trivial) gw_T_E (by decide) (rfl : ment ad cA _ _ _ 0 = _) rfl (kX8_unwinds (n := n) (r := (if rkN sg = 4 then 5 else rkN sg)) (K := K) (x := x) hnn hn5 (by have := hs1; split <;> omega) (by split <;> omega) hS hO hV hB) pd_yX8_unwinds ml_RX8_131 im_yX8_unwinds se_yX8_unwinds ini_RX8 cd_yX8_unwinds ⟨rfl, rfl⟩ ⟨Nat.le_of_ble_eq_true rfl, Nat.le_of_ble_eq_true rfl⟩ rfl rfl (Nat.le_of_ble_eq_true rfl) ⟨Nat.zero_le _, Nat.zero_le _⟩ dX8_between_17 (fun σ_5 H locs hp hW _ _ => ?_)
    obtain ⟨hS, hO, hWf⟩ := hp
    have hV := popU_va (r := (if rkN sg = 4 then 5 else rkN sg)) K x hV
    have hL := popU_len (r := (if rkN sg = 4 then 5 else rkN sg)) K x hB
    have hB : (popU (if rkN sg = 4 then 5 else rkN sg) K x).1.length + (popU (if rkN sg = 4 then 5 else rkN sg) K x).2.2.2.2.2.length ≤ 160 := by omega
    refine lv_iload_n hx hb dX8_between_20 rfl (lv_at hl 1 rfl) ?_
    refine gw_callP (As := [.int (nI sg)]) (rest := []) F hl.1 (kX8_rank (sg := sg) (by omega)) pd_yX8_rank ml_RX8_118 st_yX8_rank ini_RX8 cd_yX8_rank ⟨rfl, rfl⟩ ⟨Nat.le_of_ble_eq_true rfl, Nat.le_of_ble_eq_true rfl⟩ rfl rfl (Nat.le_of_ble_eq_true rfl) ⟨Nat.zero_le _, Nat.zero_le _⟩ dX8_between_21 ?_
    refine lv_as (z := nI (rkN sg)) rfl ?_
    refine lv_iconst (v := 4) hx hb dX8_between_24 (by decide) ?_
    refine lv_icmp_ne (tgt := 55) hx hb dX8_between_25 (by decide) (fun c_6 => ?_) (fun c_6 => ?_)
    ·
      first | exact absurd c_1 c_6 | exact absurd c_6 c_1
    ·
      refine lv_aload_n hx hb dX8_between_28 rfl (lv_at hl 0 rfl) ?_
      refine mr_f F hW 24 (by decide) rfl fl_RX8_115 dX8_between_29 ?_
      refine lv_as (z := nI ((popU (if rkN sg = 4 then 5 else rkN sg) K x).1.length)) (hS.1) ?_
      refine lv_if_le (tgt := 55) hx hb dX8_between_32 (by decide) (fun c_7 => ?_) (fun c_7 => ?_)
      ·
        have hP0 : (popU (if rkN sg = 4 then 5 else rkN sg) K x).1 = [] := (by cases hq : (popU (if rkN sg = 4 then 5 else rkN sg) K x).1 with | nil => rfl | cons a K2 => rw [hq] at c_7 hB; exact absurd (mi_le (b := 0) c_7 (by simp only [List.length_cons] at hB ⊢; omega) (by decide)) (by simp))
        refine lv_aload_n hx hb dX8_between_55 rfl (lv_at hl 0 rfl) ?_
        refine lv_iload_n hx hb dX8_between_56 rfl (lv_at hl 1 rfl) ?_
        refine gw_callVv (As := [.int (nI sg)]) (rest := []) F hl.1 hW (fun _ _ _ => trivial) gw_T_E (by decide) (rfl : ment ad cA _ _ _ 0 = _) rfl (kX8_holds (h := (popU (if rkN sg = 4 then 5 else rkN sg) K x).1.length) hS.1 (by omega)) pd_yX8_holds ml_RX8_128 im_yX8_holds se_yX8_holds ini_RX8 cd_yX8_holds ⟨rfl, rfl⟩ ⟨Nat.le_of_ble_eq_true rfl, Nat.le_of_ble_eq_true rfl⟩ rfl rfl (Nat.le_of_ble_eq_true rfl) ⟨Nat.zero_le _, Nat.zero_le _⟩ dX8_between_57 (fun σ_8 H locs hp hW _ _ => ?_)
        subst hp
        refine lv_iconst (v := 1) hx hb dX8_between_60 (by decide) ?_
        exact hret 1 (upR (upR σ_5 14 ((popU (if rkN sg = 4 then 5 else rkN sg) K x).1.length) (nI sg)) 0 24 (nI ((popU (if rkN sg = 4 then 5 else rkN sg) K x).1.length + 1))) _ _ _ _ _ hW rfl rfl (Or.inr ⟨fun z => absurd z.2 (by rw [hP0]; decide), rfl, sto_push hS hS.2.1 (opN_nu hso).symm, ou_f hO (by rw [upR_self, pk_un (by decide), up_ne2 (by decide)]) (by rw [up_ne2 (by decide), up_ne2 (by decide)]), wf_f (wf_14 hWf) (by omega)⟩) dX8_between_61
      ·
        obtain ⟨s2, K2, hP1⟩ : ∃ s2 K2, (popU (if rkN sg = 4 then 5 else rkN sg) K x).1 = s2 :: K2 := (by cases hq : (popU (if rkN sg = 4 then 5 else rkN sg) K x).1 with | nil => rw [hq] at c_7; exact absurd (Int32.le_refl 0) c_7 | cons a K2 => exact ⟨a, K2, rfl⟩); have hSp := hS; rw [hP1] at hSp; have hBp := hB; rw [hP1] at hBp; have hBp : K2.length + 1 + (popU (if rkN sg = 4 then 5 else rkN sg) K x).2.2.2.2.2.length ≤ 160 := hBp; have hvs2 := hV s2 (by rw [hP1]; simp)
        refine lv_aload_n hx hb dX8_between_35 rfl (lv_at hl 0 rfl) ?_
        refine mr_f F hW 23 (by decide) rfl fl_RX8_49 dX8_between_36 ?_
        refine lv_aload_n hx hb dX8_between_39 rfl (lv_at hl 0 rfl) ?_
        refine mr_f F hW 24 (by decide) rfl fl_RX8_115 dX8_between_40 ?_
        refine lv_as (z := nI (K2.length + 1)) (hSp.1) ?_
        refine lv_iconst (v := 1) hx hb dX8_between_43 (by decide) ?_
        refine lv_isub hx hb dX8_between_44 ?_
        refine lv_as (z := nI K2.length) (nI_pred _) ?_
        refine mr_held F hW (vp_in_nI (by omega) (by decide)) dX8_between_45 ?_
        refine lv_as (z := σ_5 14 K2.length) (by rw [nI_clamp (show K2.length < 2 ^ 31 by omega)]) ?_
        refine lv_as (z := nI s2) (sto_top hSp) ?_
        refine gw_callP (As := [.int (nI s2)]) (rest := []) F hl.1 (kX8_rank (sg := s2) (by omega)) pd_yX8_rank ml_RX8_118 st_yX8_rank ini_RX8 cd_yX8_rank ⟨rfl, rfl⟩ ⟨Nat.le_of_ble_eq_true rfl, Nat.le_of_ble_eq_true rfl⟩ rfl rfl (Nat.le_of_ble_eq_true rfl) ⟨Nat.zero_le _, Nat.zero_le _⟩ dX8_between_46 ?_
        refine lv_as (z := nI (rkN s2)) rfl ?_
        refine lv_iconst (v := 4) hx hb dX8_between_49 (by decide) ?_
        refine lv_icmp_ne (tgt := 55) hx hb dX8_between_50 (by decide) (fun c_9 => ?_) (fun c_9 => ?_)
        ·
          have ht4 : ¬ topR (popU (if rkN sg = 4 then 5 else rkN sg) K x).1 = 4 := (by rw [hP1]; exact fun z => c_9 (by show nI (rkN s2) = 4; rw [show rkN s2 = 4 from z]; rfl))
          refine lv_aload_n hx hb dX8_between_55 rfl (lv_at hl 0 rfl) ?_
          refine lv_iload_n hx hb dX8_between_56 rfl (lv_at hl 1 rfl) ?_
          refine gw_callVv (As := [.int (nI sg)]) (rest := []) F hl.1 hW (fun _ _ _ => trivial) gw_T_E (by decide) (rfl : ment ad cA _ _ _ 0 = _) rfl (kX8_holds (h := (popU (if rkN sg = 4 then 5 else rkN sg) K x).1.length) hS.1 (by omega)) pd_yX8_holds ml_RX8_128 im_yX8_holds se_yX8_holds ini_RX8 cd_yX8_holds ⟨rfl, rfl⟩ ⟨Nat.le_of_ble_eq_true rfl, Nat.le_of_ble_eq_true rfl⟩ rfl rfl (Nat.le_of_ble_eq_true rfl) ⟨Nat.zero_le _, Nat.zero_le _⟩ dX8_between_57 (fun σ_10 H locs hp hW _ _ => ?_)
          subst hp
          refine lv_iconst (v := 1) hx hb dX8_between_60 (by decide) ?_
          exact hret 1 (upR (upR σ_5 14 ((popU (if rkN sg = 4 then 5 else rkN sg) K x).1.length) (nI sg)) 0 24 (nI ((popU (if rkN sg = 4 then 5 else rkN sg) K x).1.length + 1))) _ _ _ _ _ hW rfl rfl (Or.inr ⟨fun z => ht4 z.2, rfl, sto_push hS hS.2.1 (opN_nu hso).symm, ou_f hO (by rw [upR_self, pk_un (by decide), up_ne2 (by decide)]) (by rw [up_ne2 (by decide), up_ne2 (by decide)]), wf_f (wf_14 hWf) (by omega)⟩) dX8_between_61
        ·
          have ht4 : topR (popU (if rkN sg = 4 then 5 else rkN sg) K x).1 = 4 := (by rw [hP1]; exact nI_i (a := rkN s2) (by have := rk_7 s2; omega) (by decide) c_9)
          refine lv_iconst (v := 0) hx hb dX8_between_53 (by decide) ?_
          exact hret 0 σ_5 _ _ _ _ _ hW rfl rfl (Or.inl ⟨⟨h4, ht4⟩, rfl, hWf⟩) dX8_between_54
def tkOK (k : Int32) : Prop := k = 0 ∨ k = 1 ∨ k = 2 ∨ k = 40 ∨ k = 41 ∨ k = 42 ∨ k = 43 ∨ k = 45 ∨ k = 59 ∨ k = 60 ∨ k = 61 ∨ ∃ j, j < 12 ∧ k = -(nI (j + 1))
def sgR (k : Int32) : Int32 := if sgM k = 0 then -1 else nI (sgM k)
theorem sg_of {k : Int32} (h : tkOK k) : (if tkM k = 4 then 11 else if tkM k = 5 then 12 else if tkM k = 60 then 14 else if tkM k = 61 then 15 else if tkM k = 43 then 16 else if tkM k = 45 then 17 else if tkM k = 42 then 18 else -1) = sgR k := by
  have key : ∀ j, j < 12 → (if tkM (-(nI (j + 1))) = 4 then 11 else if tkM (-(nI (j + 1))) = 5 then 12 else if tkM (-(nI (j + 1))) = 60 then 14 else if tkM (-(nI (j + 1))) = 61 then 15 else if tkM (-(nI (j + 1))) = 43 then 16 else if tkM (-(nI (j + 1))) = 45 then 17 else if tkM (-(nI (j + 1))) = 42 then 18 else -1) = sgR (-(nI (j + 1))) := by decide +kernel
  rcases h with rfl | rfl | rfl | rfl | rfl | rfl | rfl | rfl | rfl | rfl | rfl | ⟨j, hj, rfl⟩
  all_goals first | exact key j hj | decide +kernel
/-- what the reader asks of a token -/
theorem tk_iff {k : Int32} (h : tkOK k) : (tkM k = 1 ↔ k = 2) ∧ (tkM k = 2 ↔ (k ≤ -1 ∧ -6 ≤ k)) ∧ (tkM k = 6 ↔ k = -9) ∧ (tkM k = 45 ↔ k = 45) ∧ (tkM k = 40 ↔ k = 40) ∧ (tkM k = 59 ↔ k = 59) ∧ (tkM k = 41 ↔ k = 41) ∧ (tkM k = 0 ↔ k = 0) ∧ (tkM k = 3 ↔ (k = -10 ∨ k = -11 ∨ k = -12)) := by
  have key : ∀ j, j < 12 → (tkM (-(nI (j + 1))) = 1 ↔ -(nI (j + 1)) = 2) ∧ (tkM (-(nI (j + 1))) = 2 ↔ (-(nI (j + 1)) ≤ -1 ∧ -6 ≤ -(nI (j + 1)))) ∧ (tkM (-(nI (j + 1))) = 6 ↔ -(nI (j + 1)) = -9) ∧ (tkM (-(nI (j + 1))) = 45 ↔ -(nI (j + 1)) = 45) ∧ (tkM (-(nI (j + 1))) = 40 ↔ -(nI (j + 1)) = 40) ∧ (tkM (-(nI (j + 1))) = 59 ↔ -(nI (j + 1)) = 59) ∧ (tkM (-(nI (j + 1))) = 41 ↔ -(nI (j + 1)) = 41) ∧ (tkM (-(nI (j + 1))) = 0 ↔ -(nI (j + 1)) = 0) ∧ (tkM (-(nI (j + 1))) = 3 ↔ (-(nI (j + 1)) = -10 ∨ -(nI (j + 1)) = -11 ∨ -(nI (j + 1)) = -12)) := by decide +kernel
  rcases h with rfl | rfl | rfl | rfl | rfl | rfl | rfl | rfl | rfl | rfl | rfl | ⟨j, hj, rfl⟩
  all_goals first | exact key j hj | decide +kernel
theorem nxK_ok (β : Nat → Int32) (z i : Nat) : tkOK (nxK β z i) := by
  unfold nxK
  by_cases h1 : i < z
  · rw [if_pos h1]
    by_cases h2 : letS (β i) = 0
    · rw [if_pos h2]
      by_cases h3 : digS (β i) = 0
      · rw [if_pos h3]
        unfold sigS
        by_cases q : β i = 40 ∨ β i = 41 ∨ β i = 42 ∨ β i = 43 ∨ β i = 45 ∨ β i = 59 ∨ β i = 60 ∨ β i = 61
        · rw [if_pos q]
          rcases q with q | q | q | q | q | q | q | q <;> rw [q] <;> unfold tkOK <;> simp
        · rw [if_neg q]; exact Or.inr (Or.inl rfl)
      · rw [if_neg h3]
        by_cases h4 : 4 < nI ((numG β z 161 i 0).1 - i)
        · rw [if_pos h4]; exact Or.inr (Or.inl rfl)
        · rw [if_neg h4]; exact Or.inr (Or.inr (Or.inl rfl))
    · rw [if_neg h2]
      rcases word_form β i (letG β z 161 i) 12 0 rfl with e | ⟨j, hj, e⟩
      · rw [e]; exact Or.inr (Or.inl rfl)
      · rw [e]; exact Or.inr (Or.inr (Or.inr (Or.inr (Or.inr (Or.inr (Or.inr (Or.inr (Or.inr (Or.inr (Or.inr ⟨j, hj, rfl⟩))))))))))
  · rw [if_neg h1]; exact Or.inl rfl
abbrev rm_yX8_signOf : Room := { frames := 0, cells := 0, slots := 0, locals := 0 }
set_option maxHeartbeats 800000 in
set_option maxRecDepth 100000 in
theorem kX8_signOf {l : Launch} {D : va_G} {cA : ClassId} {ad : Nat → Nat} {ρ T σ : Nat → Nat → Int32} {sz : Nat} {k0 : Int32} (hk : tkOK k0) (ht : σ 0 20 = tkM k0) : MMi l yX8_signOf cX8_signOf 1 FieldType.int rm_yX8_signOf [.ref (ad 0)] D cA ad ρ T σ sz (fun (r : Int32) (u : Unit) => r = sgR k0) (fun u : Unit => ment ad cA ρ T σ) := by
  refine gw_stI (Ff := fun u : Unit => ment ad cA ρ T σ) (own := RX8) (by decide +kernel) rfl (Nat.le_of_ble_eq_true rfl) ?_
  intro p e s m ar below meth c A Q F hE hsz hW hret ls hl
  obtain ⟨hx, hb, hml, hown, hts⟩ := id F
  have hl : lv_has ls 1 [(0, .ref (ad 0))] := hl
  refine lv_aload_n hx hb dX8_signOf_0 rfl (lv_at hl 0 rfl) ?_
  refine mr_f F hW 20 (by decide) rfl fl_RX8_102 dX8_signOf_1 ?_
  refine lv_as (z := tkM k0) (ht) ?_
  refine lv_iconst (v := 4) hx hb dX8_signOf_4 (by decide) ?_
  refine lv_icmp_ne (tgt := 13) hx hb dX8_signOf_5 (by decide) (fun c_1 => ?_) (fun c_1 => ?_)
  ·
    refine lv_aload_n hx hb dX8_signOf_13 rfl (lv_at hl 0 rfl) ?_
    refine mr_f F hW 20 (by decide) rfl fl_RX8_102 dX8_signOf_14 ?_
    refine lv_as (z := tkM k0) (ht) ?_
    refine lv_iconst (v := 5) hx hb dX8_signOf_17 (by decide) ?_
    refine lv_icmp_ne (tgt := 26) hx hb dX8_signOf_18 (by decide) (fun c_2 => ?_) (fun c_2 => ?_)
    ·
      refine lv_aload_n hx hb dX8_signOf_26 rfl (lv_at hl 0 rfl) ?_
      refine mr_f F hW 20 (by decide) rfl fl_RX8_102 dX8_signOf_27 ?_
      refine lv_as (z := tkM k0) (ht) ?_
      refine lv_bipush (v := 60) hx hb dX8_signOf_30 (by decide) ?_
      refine lv_icmp_ne (tgt := 40) hx hb dX8_signOf_32 (by decide) (fun c_3 => ?_) (fun c_3 => ?_)
      ·
        refine lv_aload_n hx hb dX8_signOf_40 rfl (lv_at hl 0 rfl) ?_
        refine mr_f F hW 20 (by decide) rfl fl_RX8_102 dX8_signOf_41 ?_
        refine lv_as (z := tkM k0) (ht) ?_
        refine lv_bipush (v := 61) hx hb dX8_signOf_44 (by decide) ?_
        refine lv_icmp_ne (tgt := 54) hx hb dX8_signOf_46 (by decide) (fun c_4 => ?_) (fun c_4 => ?_)
        ·
          refine lv_aload_n hx hb dX8_signOf_54 rfl (lv_at hl 0 rfl) ?_
          refine mr_f F hW 20 (by decide) rfl fl_RX8_102 dX8_signOf_55 ?_
          refine lv_as (z := tkM k0) (ht) ?_
          refine lv_bipush (v := 43) hx hb dX8_signOf_58 (by decide) ?_
          refine lv_icmp_ne (tgt := 68) hx hb dX8_signOf_60 (by decide) (fun c_5 => ?_) (fun c_5 => ?_)
          ·
            refine lv_aload_n hx hb dX8_signOf_68 rfl (lv_at hl 0 rfl) ?_
            refine mr_f F hW 20 (by decide) rfl fl_RX8_102 dX8_signOf_69 ?_
            refine lv_as (z := tkM k0) (ht) ?_
            refine lv_bipush (v := 45) hx hb dX8_signOf_72 (by decide) ?_
            refine lv_icmp_ne (tgt := 82) hx hb dX8_signOf_74 (by decide) (fun c_6 => ?_) (fun c_6 => ?_)
            ·
              refine lv_aload_n hx hb dX8_signOf_82 rfl (lv_at hl 0 rfl) ?_
              refine mr_f F hW 20 (by decide) rfl fl_RX8_102 dX8_signOf_83 ?_
              refine lv_as (z := tkM k0) (ht) ?_
              refine lv_bipush (v := 42) hx hb dX8_signOf_86 (by decide) ?_
              refine lv_icmp_ne (tgt := 96) hx hb dX8_signOf_88 (by decide) (fun c_7 => ?_) (fun c_7 => ?_)
              ·
                refine lv_iconst (v := (-1)) hx hb dX8_signOf_96 (by decide) ?_
                exact hret (-1) () _ _ _ _ _ hW rfl rfl (by rw [← sg_of hk, if_neg c_1, if_neg c_2, if_neg c_3, if_neg c_4, if_neg c_5, if_neg c_6, if_neg c_7]) dX8_signOf_97
              ·
                refine lv_bipush (v := 18) hx hb dX8_signOf_91 (by decide) ?_
                refine lv_goto (tgt := 97) hx hb dX8_signOf_93 (by decide) ?_
                exact hret 18 () _ _ _ _ _ hW rfl rfl (by rw [← sg_of hk, if_neg c_1, if_neg c_2, if_neg c_3, if_neg c_4, if_neg c_5, if_neg c_6, if_pos c_7]) dX8_signOf_97
            ·
              refine lv_bipush (v := 17) hx hb dX8_signOf_77 (by decide) ?_
              refine lv_goto (tgt := 97) hx hb dX8_signOf_79 (by decide) ?_
              exact hret 17 () _ _ _ _ _ hW rfl rfl (by rw [← sg_of hk, if_neg c_1, if_neg c_2, if_neg c_3, if_neg c_4, if_neg c_5, if_pos c_6]) dX8_signOf_97
          ·
            refine lv_bipush (v := 16) hx hb dX8_signOf_63 (by decide) ?_
            refine lv_goto (tgt := 97) hx hb dX8_signOf_65 (by decide) ?_
            exact hret 16 () _ _ _ _ _ hW rfl rfl (by rw [← sg_of hk, if_neg c_1, if_neg c_2, if_neg c_3, if_neg c_4, if_pos c_5]) dX8_signOf_97
        ·
          refine lv_bipush (v := 15) hx hb dX8_signOf_49 (by decide) ?_
          refine lv_goto (tgt := 97) hx hb dX8_signOf_51 (by decide) ?_
          exact hret 15 () _ _ _ _ _ hW rfl rfl (by rw [← sg_of hk, if_neg c_1, if_neg c_2, if_neg c_3, if_pos c_4]) dX8_signOf_97
      ·
        refine lv_bipush (v := 14) hx hb dX8_signOf_35 (by decide) ?_
        refine lv_goto (tgt := 97) hx hb dX8_signOf_37 (by decide) ?_
        exact hret 14 () _ _ _ _ _ hW rfl rfl (by rw [← sg_of hk, if_neg c_1, if_neg c_2, if_pos c_3]) dX8_signOf_97
    ·
      refine lv_bipush (v := 12) hx hb dX8_signOf_21 (by decide) ?_
      refine lv_goto (tgt := 97) hx hb dX8_signOf_23 (by decide) ?_
      exact hret 12 () _ _ _ _ _ hW rfl rfl (by rw [← sg_of hk, if_neg c_1, if_pos c_2]) dX8_signOf_97
  ·
    refine lv_bipush (v := 11) hx hb dX8_signOf_8 (by decide) ?_
    refine lv_goto (tgt := 97) hx hb dX8_signOf_10 (by decide) ?_
    exact hret 11 () _ _ _ _ _ hW rfl rfl (by rw [← sg_of hk, if_pos c_1]) dX8_signOf_97
