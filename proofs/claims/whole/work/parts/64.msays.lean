/-! ===== the reference: a text's code, run ===== -/
def mst (σ : Nat → Nat → Int32) (t k : Nat) : Nat := (σ 6 (4 * t + k)).toNatClampNeg
/-- the texts that the reference holds are Lx -/
def okML (n : Nat) (σ : Nat → Nat → Int32) (Lx : Lw) : Prop := n ≤ 6 ∧ ∀ t, t < n → (∀ k, k < 4 → σ 6 (4 * t + k) = nI (mst σ t k) ∧ mst σ t k ≤ 160) ∧ (∀ k, k < 3 → mst σ t k ≤ mst σ t (k + 1)) ∧ ∀ pt, pt < 3 → (Lx t pt).length = mst σ t (pt + 1) - mst σ t pt ∧ (∀ j, j < (Lx t pt).length → σ 5 (200 * t + (mst σ t pt + j)) = encM ((Lx t pt).getD j 0)) ∧ runD (Lx t pt) 0 = some 1 ∧ ∀ c ∈ Lx t pt, okC c
/-- what thinking calls leave of what is kept -/
def Kp (ρ u : Nat → Nat → Int32) : Prop := u 17 = ρ 17 ∧ u 0 = ρ 0
theorem Kp.rf {ρ : Nat → Nat → Int32} : Kp ρ ρ := ⟨rfl, rfl⟩
theorem Kp.trans {ρ u w : Nat → Nat → Int32} (h : Kp ρ u) (h' : Kp u w) : Kp ρ w := ⟨h'.1.trans h.1, h'.2.trans h.2⟩
def stkL (ρ : Nat → Nat → Int32) : Nat → List Int32
  | 0 => []
  | h + 1 => ρ 15 h :: stkL ρ h
theorem stkL_up (ρ : Nat → Nat → Int32) (k : Nat) (v : Int32) : ∀ h, h ≤ k → stkL (upR ρ 15 k v) h = stkL ρ h
  | 0, _ => rfl
  | h + 1, hh => by unfold stkL; rw [stkL_up ρ k v h (by omega), upR_self, pk_un (by omega)]
theorem stkL_lay (ρ : Nat → Nat → Int32) (h : Nat) (v : Int32) : stkL (upR ρ 15 h v) (h + 1) = v :: stkL ρ h := by
  show upR ρ 15 h v 15 h :: stkL (upR ρ 15 h v) h = _
  rw [stkL_up ρ h v h (Nat.le_refl h), upR_self, pk_us]
theorem enc_num : ∀ j, j < 10000 → encM (nI j) = nI (100000 + j) := by
  intro j hj
  unfold encM
  rw [if_pos (Int32.not_lt.mp (nI_pos (by omega))), show (100000 : Int32) = nI 100000 from rfl, nI_add]
theorem enc_nm : ∀ j, j < 6 → encM (-(nI (j + 1))) = nI j := by decide +kernel
theorem nm_neg : ∀ j, j < 6 → (-(nI (j + 1)) < 0 ∧ ¬ -(nI (j + 1)) < -6) := by decide +kernel
theorem enc_ge {c : Int32} (h : okC c) (hc : 100000 ≤ encM c) : ¬ c < 0 ∧ encM c - 100000 = c := by
  rcases h with ⟨j, hj, rfl⟩ | ⟨j, hj, rfl⟩ | h
  · rw [enc_num j hj]
    exact ⟨nI_pos (by omega), by rw [show (100000 : Int32) = nI 100000 from rfl, sub_nI (by omega), Nat.add_sub_cancel_left]⟩
  · rw [enc_nm j hj] at hc
    exact absurd (mi_le (a := 100000) (b := j) hc (by decide) (by omega)) (by omega)
  · rcases h with rfl | rfl | rfl | rfl | rfl | rfl | rfl | rfl | rfl <;> exact absurd hc (by decide)
theorem enc_lt {c : Int32} (h : okC c) (h1 : encM c < 11) : ∃ j, j < 6 ∧ encM c = nI j ∧ c = -(nI (j + 1)) := by
  rcases h with ⟨j, hj, rfl⟩ | ⟨j, hj, rfl⟩ | h
  · rw [enc_num j hj] at h1
    exact absurd (mi_lt (b := 11) h1 (by omega) (by decide)) (by omega)
  · exact ⟨j, hj, enc_nm j hj, rfl⟩
  · rcases h with rfl | rfl | rfl | rfl | rfl | rfl | rfl | rfl | rfl <;> exact absurd h1 (by decide)
theorem enc_op {c : Int32} (h : okC c) (h0 : ¬ 100000 ≤ encM c) (h1 : ¬ encM c < 11) : c = -7 ∨ c = -8 ∨ c = -9 ∨ c = -13 ∨ c = -14 ∨ c = -15 ∨ c = -16 ∨ c = -17 ∨ c = -18 := by
  rcases h with ⟨j, hj, rfl⟩ | ⟨j, hj, rfl⟩ | h
  · exact absurd (by rw [enc_num j hj]; exact nI_le (a := 100000) (by omega) (by omega)) h0
  · exact absurd (by rw [enc_nm j hj]; exact nI_lt (b := 11) (by omega) (by decide)) h1
  · exact h
theorem enc_13 {c : Int32} (h : okC c) (h0 : ¬ 100000 ≤ encM c) (h1 : ¬ encM c < 11) (h2 : encM c = 13) : c = -9 := by
  rcases enc_op h h0 h1 with rfl | rfl | rfl | rfl | rfl | rfl | rfl | rfl | rfl <;> first | rfl | exact absurd h2 (by decide)
theorem enc_19 {c : Int32} (h : okC c) (h0 : ¬ 100000 ≤ encM c) (h1 : ¬ encM c < 11) (h2 : encM c = 19) : c = -18 := by
  rcases enc_op h h0 h1 with rfl | rfl | rfl | rfl | rfl | rfl | rfl | rfl | rfl <;> first | rfl | exact absurd h2 (by decide)
theorem enc_bin {c : Int32} (h : okC c) (h0 : ¬ 100000 ≤ encM c) (h1 : ¬ encM c < 11) (h2 : ¬ encM c = 13) (h3 : ¬ encM c = 19) : (c < -6 ∧ ¬ c = -9 ∧ ¬ c = -18) ∧ ∀ a b, twoS (encM c) a b = joinS c a b := by
  rcases enc_op h h0 h1 with rfl | rfl | rfl | rfl | rfl | rfl | rfl | rfl | rfl <;> first | exact ⟨by decide, fun _ _ => rfl⟩ | exact absurd rfl h2 | exact absurd rfl h3
theorem drop_cons {L : List Int32} {i : Nat} (h : i < L.length) : L.drop i = L.getD i 0 :: L.drop (i + 1) := by
  rw [List.drop_eq_getElem_cons h]
  congr 1
  simp [List.getD_eq_getElem?_getD, h]
theorem getD_mem {L : List Int32} {i : Nat} (h : i < L.length) : L.getD i 0 ∈ L := by
  rw [List.getD_eq_getElem?_getD, List.getElem?_eq_getElem h]
  exact List.getElem_mem h
theorem mul_nI (a b : Nat) : nI a * nI b = nI (a * b) := pk_mul a b
abbrev rm_yX8_says : Room := { frames := 1, cells := 0, slots := 0, locals := 22 }
set_option maxHeartbeats 800000 in
set_option maxRecDepth 100000 in
theorem kX8_says {l : Launch} {D : va_G} {cA : ClassId} {ad : Nat → Nat} {ρ T σ : Nat → Nat → Int32} {sz : Nat} {n pt : Nat} {Lx : Lw} {g : Nat → Int32} {mn : Int32} (hT : okT n T) (hM : okML n σ Lx) (hpt : pt < 3) (hnm : ∀ j, j < 6 → ρ 16 j = nameS g mn (-(nI (j + 1)))) : MMi l yX8_says cX8_says 5 FieldType.int rm_yX8_says [.ref (ad 0), .int (nI pt)] D cA ad ρ T σ sz (fun (r : Int32) (u : Nat → Nat → Int32) => r = evalS (Lx (lawN T) pt) g mn ∧ Kp ρ u) (fun u : Nat → Nat → Int32 => ment ad cA u T σ) := by
  refine gw_stI (Ff := fun u : Nat → Nat → Int32 => ment ad cA u T σ) (own := RX8) (by decide +kernel) rfl (Nat.le_of_ble_eq_true rfl) ?_
  intro p e s m ar below meth c A Q F hE hsz hW hret ls hl
  obtain ⟨hx, hb, hml, hown, hts⟩ := id F
  have hl : lv_has ls 5 [(0, .ref (ad 0)), (1, .int (nI pt))] := hl
  have ht : lawN T < n := hT.2.2.1
  have hrl : T 6 3 = nI (lawN T) := hT.2.2.2.1
  obtain ⟨hn6, hM⟩ := hM
  obtain ⟨hst, hmon, hcd⟩ := hM _ ht
  generalize hlw : lawN T = t at ht hrl hst hmon hcd
  have hs := hst pt (by omega)
  have hs1 := hst (pt + 1) (by omega)
  have hm := hmon pt hpt
  obtain ⟨hlen, hco, hrun, hok⟩ := hcd pt hpt
  generalize hS : mst σ t pt = s0 at hs hm hlen hco
  generalize hE0 : mst σ t (pt + 1) = e0 at hs1 hm hlen
  generalize hL : Lx t pt = L at hlen hco hrun hok
  generalize hRES : evalS L g mn = RES
  refine lv_iconst (v := 0) hx hb dX8_says_0 (by decide) ?_
  refine lv_istore_n (lv' := [(2, .int 0), (0, .ref (ad 0)), (1, .int (nI pt))]) hx hb dX8_says_1 rfl hl (by decide) rfl (fun ls hl => ?_)
  refine lv_aload_n hx hb dX8_says_2 rfl (lv_at hl 1 rfl) ?_
  refine mr_f F hW 8 (by decide) rfl fl_RX8_25 dX8_says_3 ?_
  refine lv_iconst (v := 4) hx hb dX8_says_6 (by decide) ?_
  refine lv_aload_n hx hb dX8_says_7 rfl (lv_at hl 1 rfl) ?_
  refine mr_f F hW 10 (by decide) rfl fl_RX8_89 dX8_says_8 ?_
  refine lv_as (z := nI t) (hrl) ?_
  refine lv_imul hx hb dX8_says_11 ?_
  refine lv_as (z := nI (4 * t)) (by rw [show (4 : Int32) = nI 4 from rfl]; exact mul_nI 4 t) ?_
  refine lv_iload_n hx hb dX8_says_12 rfl (lv_at hl 2 rfl) ?_
  refine lv_iadd hx hb dX8_says_13 ?_
  refine lv_as (z := nI (4 * t + pt)) (nI_add _ _) ?_
  refine mr_starts F hW (vp_in_nI (by omega) (by decide)) dX8_says_14 ?_
  refine lv_as (z := nI s0) (by rw [nI_clamp (by omega)]; exact hs.1) ?_
  refine lv_istore_n (lv' := [(3, .int (nI s0)), (2, .int 0), (0, .ref (ad 0)), (1, .int (nI pt))]) hx hb dX8_says_15 rfl hl (by decide) rfl (fun ls hl => ?_)
  have L16 : ∀ (k : Nat) (i h : Nat) (ρ' : Nat → Nat → Int32), (s0 ≤ i) → (i ≤ e0) → (e0 + 1 ≤ i + k) → (h ≤ 60) → (∀ j, j < 6 → ρ' 16 j = nameS g mn (-(nI (j + 1)))) → (Kp ρ ρ') → (runD (L.drop (i - s0)) h = some 1) → (((L.drop (i - s0)).foldl (stepS g mn) (stkL ρ' h)).headD 0 = RES) → ∀ (H : Heap) (locs : List Loc) (ls : Array Slot), MW D cA ad ρ' T σ A s s.heap H locs → lv_has ls 5 [(3, .int (nI i)), (2, .int (nI h)), (0, .ref (ad 0)), (1, .int (nI pt))] → W p l e rm_yX8_says s m ar below meth c H locs 0 0 Q (F0 m 16 ls []) := by
    intro k
    induction k with
    | zero => intro i h ρ' h0 h1 h2 h3 hnm hkp hr hv; exact absurd h2 (by omega)
    | succ k ih16 =>
      intro i h ρ' h0 h1 h2 h3 hnm hkp hr hv H locs ls hW hl
      refine lv_iload_n hx hb dX8_says_16 rfl (lv_at hl 0 rfl) ?_
      refine lv_aload_n hx hb dX8_says_17 rfl (lv_at hl 2 rfl) ?_
      refine mr_f F hW 8 (by decide) rfl fl_RX8_25 dX8_says_18 ?_
      refine lv_iconst (v := 4) hx hb dX8_says_21 (by decide) ?_
      refine lv_aload_n hx hb dX8_says_22 rfl (lv_at hl 2 rfl) ?_
      refine mr_f F hW 10 (by decide) rfl fl_RX8_89 dX8_says_23 ?_
      refine lv_as (z := nI t) (hrl) ?_
      refine lv_imul hx hb dX8_says_26 ?_
      refine lv_as (z := nI (4 * t)) (by rw [show (4 : Int32) = nI 4 from rfl]; exact mul_nI 4 t) ?_
      refine lv_iload_n hx hb dX8_says_27 rfl (lv_at hl 3 rfl) ?_
      refine lv_iadd hx hb dX8_says_28 ?_
      refine lv_as (z := nI (4 * t + pt)) (nI_add _ _) ?_
      refine lv_iconst (v := 1) hx hb dX8_says_29 (by decide) ?_
      refine lv_iadd hx hb dX8_says_30 ?_
      refine lv_as (z := nI (4 * t + (pt + 1))) (by rw [nI_1]; rfl) ?_
      refine mr_starts F hW (vp_in_nI (by omega) (by decide)) dX8_says_31 ?_
      refine lv_as (z := nI e0) (by rw [nI_clamp (by omega)]; exact hs1.1) ?_
      refine lv_icmp_ge (tgt := 197) hx hb dX8_says_32 (by decide) (fun c_1 => ?_) (fun c_1 => ?_)
      ·
        obtain rfl : i = e0 := (by have := mi_le (a := e0) (b := i) c_1 (by omega) (by omega); omega); rw [List.drop_eq_nil_of_le (by omega)] at hr hv; obtain rfl : h = 1 := Option.some.inj hr; have hv : ρ' 15 0 = RES := hv
        refine lv_aload_n hx hb dX8_says_197 rfl (lv_at hl 2 rfl) ?_
        refine mr_f F hW 27 (by decide) rfl fl_RX8_52 dX8_says_198 ?_
        refine lv_iconst (v := 0) hx hb dX8_says_201 (by decide) ?_
        refine mr_stack F hW (vp_in_nI (n := 0) (by decide) (by decide)) dX8_says_202 ?_
        refine lv_as (z := ρ' 15 0) rfl ?_
        exact hret (ρ' 15 0) ρ' _ _ _ _ _ hW rfl rfl (by rw [hlw, hL, hRES]; exact ⟨hv, hkp⟩) dX8_says_203
      ·
        have hlt : i < e0 := mi_nle (a := e0) (b := i) c_1 (by omega) (by omega); have hli : i - s0 < L.length := (by omega); rw [drop_cons hli] at hr hv; rw [List.foldl_cons] at hv; have hokc := hok _ (getD_mem hli); have hce : σ 5 (200 * t + i) = encM (L.getD (i - s0) 0) := (by have := hco (i - s0) hli; rwa [show s0 + (i - s0) = i by omega] at this); generalize L.getD (i - s0) 0 = cc at hr hv hokc hce
        refine lv_aload_n hx hb dX8_says_35 rfl (lv_at hl 2 rfl) ?_
        refine mr_f F hW 7 (by decide) rfl fl_RX8_22 dX8_says_36 ?_
        refine lv_sipush (v := 200) hx hb dX8_says_39 (by decide) ?_
        refine lv_aload_n hx hb dX8_says_42 rfl (lv_at hl 2 rfl) ?_
        refine mr_f F hW 10 (by decide) rfl fl_RX8_89 dX8_says_43 ?_
        refine lv_as (z := nI t) (hrl) ?_
        refine lv_imul hx hb dX8_says_46 ?_
        refine lv_as (z := nI (200 * t)) (by rw [show (200 : Int32) = nI 200 from rfl]; exact mul_nI 200 t) ?_
        refine lv_iload_n hx hb dX8_says_47 rfl (lv_at hl 0 rfl) ?_
        refine lv_iadd hx hb dX8_says_48 ?_
        refine lv_as (z := nI (200 * t + i)) (nI_add _ _) ?_
        refine mr_codes F hW (vp_in_nI (by omega) (by decide)) dX8_says_49 ?_
        refine lv_as (z := encM cc) (by rw [nI_clamp (by omega)]; exact hce) ?_
        refine lv_istore (lv' := [(4, .int (encM cc)), (3, .int (nI i)), (2, .int (nI h)), (0, .ref (ad 0)), (1, .int (nI pt))]) hx hb dX8_says_50 hl (by decide) rfl (fun ls hl => ?_)
        refine lv_iload hx hb dX8_says_52 (lv_at hl 0 rfl) ?_
        refine lv_ldc (v := 100000) hx hb hown (hts _ kc_RX8_137) dX8_says_54 ?_
        refine lv_icmp_ge (tgt := 66) hx hb dX8_says_56 (by decide) (fun c_2 => ?_) (fun c_2 => ?_)
        ·
          have hge := enc_ge hokc c_2; obtain ⟨hk60, hr2⟩ := runD_push hr (fun z => hge.1 (Int32.lt_trans z (by decide)))
          refine lv_aload_n hx hb dX8_says_66 rfl (lv_at hl 3 rfl) ?_
          refine mr_f F hW 27 (by decide) rfl fl_RX8_52 dX8_says_67 ?_
          refine lv_iload_n hx hb dX8_says_70 rfl (lv_at hl 2 rfl) ?_
          refine lv_iload hx hb dX8_says_71 (lv_at hl 0 rfl) ?_
          refine lv_bipush (v := 11) hx hb dX8_says_73 (by decide) ?_
          refine lv_icmp_ge (tgt := 88) hx hb dX8_says_75 (by decide) (fun c_3 => ?_) (fun c_3 => ?_)
          ·
            refine lv_iload hx hb dX8_says_88 (lv_at hl 0 rfl) ?_
            refine lv_ldc (v := 100000) hx hb hown (hts _ kc_RX8_137) dX8_says_90 ?_
            refine lv_isub hx hb dX8_says_92 ?_
            refine mw_stack F hW (vp_in_nI (by omega) (by decide)) dX8_says_93 (fun H locs hW => ?_)
            refine lv_iinc (v := nI (h + 1)) (lv' := [(2, .int (nI (h + 1))), (4, .int (encM cc)), (3, .int (nI i)), (0, .ref (ad 0)), (1, .int (nI pt))]) hx hb dX8_says_94 hl (k := 2) rfl (nI_1 h) (by decide) rfl (fun ls hl => ?_)
            refine lv_goto (tgt := 191) hx hb dX8_says_97 (by decide) ?_
            refine lv_iinc (v := nI (i + 1)) (lv' := [(3, .int (nI (i + 1))), (2, .int (nI (h + 1))), (4, .int (encM cc)), (0, .ref (ad 0)), (1, .int (nI pt))]) hx hb dX8_says_191 hl (k := 2) rfl (nI_1 i) (by decide) rfl (fun ls hl => ?_)
            refine lv_goto (tgt := 16) hx hb dX8_says_194 (by decide) ?_
            exact ih16 (i + 1) (h + 1) (upR ρ' 15 ((nI h).toNatClampNeg) ((encM cc) - 100000)) (by omega) (by omega) (by omega) (by omega) (hnm) (hkp) (by rw [show i + 1 - s0 = i - s0 + 1 by omega]; exact hr2) (by rw [show i + 1 - s0 = i - s0 + 1 by omega]; rw [nI_clamp (by omega), stkL_lay, hge.2, ← stepS_num (mn := mn) (g := g) (st := stkL ρ' h) hge.1]; exact hv) _ _ _ hW (lv_sub hl [0, 1, 3, 4] rfl)
          ·
            exact absurd (Int32.le_trans (show (11 : Int32) ≤ 100000 by decide) c_2) c_3
        ·
          refine lv_iload hx hb dX8_says_59 (lv_at hl 0 rfl) ?_
          refine lv_bipush (v := 11) hx hb dX8_says_61 (by decide) ?_
          refine lv_icmp_ge (tgt := 100) hx hb dX8_says_63 (by decide) (fun c_4 => ?_) (fun c_4 => ?_)
          ·
            refine lv_iload hx hb dX8_says_100 (lv_at hl 0 rfl) ?_
            refine lv_bipush (v := 13) hx hb dX8_says_102 (by decide) ?_
            refine lv_icmp_ne (tgt := 134) hx hb dX8_says_104 (by decide) (fun c_5 => ?_) (fun c_5 => ?_)
            ·
              refine lv_iload hx hb dX8_says_134 (lv_at hl 0 rfl) ?_
              refine lv_bipush (v := 19) hx hb dX8_says_136 (by decide) ?_
              refine lv_icmp_ne (tgt := 161) hx hb dX8_says_138 (by decide) (fun c_6 => ?_) (fun c_6 => ?_)
              ·
                obtain ⟨hbn, htw⟩ := enc_bin hokc c_2 (Int32.not_lt.mpr c_4) c_5 c_6; obtain ⟨hk1, hr2⟩ := runD_bin hr hbn.1 (fun z => z.elim hbn.2.1 hbn.2.2); obtain ⟨x0, rfl⟩ : ∃ x, h = x + 1 + 1 := ⟨h - 2, by omega⟩
                refine lv_iinc (v := nI (x0 + 1)) (lv' := [(2, .int (nI (x0 + 1))), (4, .int (encM cc)), (3, .int (nI i)), (0, .ref (ad 0)), (1, .int (nI pt))]) hx hb dX8_says_161 hl (k := 2) rfl (by rw [show Int32.ofInt (-1) = -1 from by decide, ← Int32.sub_eq_add_neg]; exact nI_pred (x0 + 1)) (by decide) rfl (fun ls hl => ?_)
                refine lv_aload_n hx hb dX8_says_164 rfl (lv_at hl 3 rfl) ?_
                refine mr_f F hW 27 (by decide) rfl fl_RX8_52 dX8_says_165 ?_
                refine lv_iload_n hx hb dX8_says_168 rfl (lv_at hl 0 rfl) ?_
                refine lv_iconst (v := 1) hx hb dX8_says_169 (by decide) ?_
                refine lv_isub hx hb dX8_says_170 ?_
                refine lv_as (z := nI x0) (nI_pred x0) ?_
                refine lv_iload hx hb dX8_says_171 (lv_at hl 1 rfl) ?_
                refine lv_aload_n hx hb dX8_says_173 rfl (lv_at hl 3 rfl) ?_
                refine mr_f F hW 27 (by decide) rfl fl_RX8_52 dX8_says_174 ?_
                refine lv_iload_n hx hb dX8_says_177 rfl (lv_at hl 0 rfl) ?_
                refine lv_iconst (v := 1) hx hb dX8_says_178 (by decide) ?_
                refine lv_isub hx hb dX8_says_179 ?_
                refine lv_as (z := nI x0) (nI_pred x0) ?_
                refine mr_stack F hW (vp_in_nI (by omega) (by decide)) dX8_says_180 ?_
                refine lv_aload_n hx hb dX8_says_181 rfl (lv_at hl 3 rfl) ?_
                refine mr_f F hW 27 (by decide) rfl fl_RX8_52 dX8_says_182 ?_
                refine lv_iload_n hx hb dX8_says_185 rfl (lv_at hl 0 rfl) ?_
                refine mr_stack F hW (vp_in_nI (by omega) (by decide)) dX8_says_186 ?_
                refine gw_callP (As := [.int (encM cc), .int (ρ' 15 (nI x0).toNatClampNeg), .int (ρ' 15 (nI (x0 + 1)).toNatClampNeg)]) (rest := [.int (nI x0), .ref (ad 15)]) F hl.1 (kX8_two) pd_yX8_two ml_RX8_151 st_yX8_two ini_RX8 cd_yX8_two ⟨rfl, rfl⟩ ⟨Nat.le_of_ble_eq_true rfl, Nat.le_of_ble_eq_true rfl⟩ rfl rfl (Nat.le_of_ble_eq_true rfl) ⟨Nat.zero_le _, Nat.zero_le _⟩ dX8_says_187 ?_
                refine lv_as (z := twoS (encM cc) (ρ' 15 (nI x0).toNatClampNeg) (ρ' 15 (nI (x0 + 1)).toNatClampNeg)) rfl ?_
                refine mw_stack F hW (vp_in_nI (by omega) (by decide)) dX8_says_190 (fun H locs hW => ?_)
                refine lv_iinc (v := nI (i + 1)) (lv' := [(3, .int (nI (i + 1))), (2, .int (nI (x0 + 1))), (4, .int (encM cc)), (0, .ref (ad 0)), (1, .int (nI pt))]) hx hb dX8_says_191 hl (k := 2) rfl (nI_1 i) (by decide) rfl (fun ls hl => ?_)
                refine lv_goto (tgt := 16) hx hb dX8_says_194 (by decide) ?_
                exact ih16 (i + 1) (x0 + 1) (upR ρ' 15 ((nI x0).toNatClampNeg) (twoS (encM cc) (ρ' 15 (nI x0).toNatClampNeg) (ρ' 15 (nI (x0 + 1)).toNatClampNeg))) (by omega) (by omega) (by omega) (by omega) (hnm) (hkp) (by rw [show i + 1 - s0 = i - s0 + 1 by omega]; exact hr2) (by rw [show i + 1 - s0 = i - s0 + 1 by omega]; rw [nI_clamp (by omega), nI_clamp (show x0 + 1 < 2 ^ 31 by omega), stkL_lay, htw]; rw [stepS_join hbn.1 hbn.2.1 hbn.2.2] at hv; exact hv) _ _ _ hW (lv_sub hl [0, 1, 3, 4] rfl)
              ·
                have hc18 := enc_19 hokc c_2 (Int32.not_lt.mpr c_4) c_6; obtain ⟨hk1, hr2⟩ := runD_un hr (by rw [hc18]; decide) (Or.inr hc18); obtain ⟨x0, rfl⟩ : ∃ x, h = x + 1 := ⟨h - 1, by omega⟩
                refine lv_aload_n hx hb dX8_says_141 rfl (lv_at hl 3 rfl) ?_
                refine mr_f F hW 27 (by decide) rfl fl_RX8_52 dX8_says_142 ?_
                refine lv_iload_n hx hb dX8_says_145 rfl (lv_at hl 2 rfl) ?_
                refine lv_iconst (v := 1) hx hb dX8_says_146 (by decide) ?_
                refine lv_isub hx hb dX8_says_147 ?_
                refine lv_as (z := nI x0) (nI_pred x0) ?_
                refine lv_aload_n hx hb dX8_says_148 rfl (lv_at hl 3 rfl) ?_
                refine mr_f F hW 27 (by decide) rfl fl_RX8_52 dX8_says_149 ?_
                refine lv_iload_n hx hb dX8_says_152 rfl (lv_at hl 2 rfl) ?_
                refine lv_iconst (v := 1) hx hb dX8_says_153 (by decide) ?_
                refine lv_isub hx hb dX8_says_154 ?_
                refine lv_as (z := nI x0) (nI_pred x0) ?_
                refine mr_stack F hW (vp_in_nI (by omega) (by decide)) dX8_says_155 ?_
                refine lv_ineg hx hb dX8_says_156 ?_
                refine mw_stack F hW (vp_in_nI (by omega) (by decide)) dX8_says_157 (fun H locs hW => ?_)
                refine lv_goto (tgt := 191) hx hb dX8_says_158 (by decide) ?_
                refine lv_iinc (v := nI (i + 1)) (lv' := [(3, .int (nI (i + 1))), (4, .int (encM cc)), (2, .int (nI (x0 + 1))), (0, .ref (ad 0)), (1, .int (nI pt))]) hx hb dX8_says_191 hl (k := 1) rfl (nI_1 i) (by decide) rfl (fun ls hl => ?_)
                refine lv_goto (tgt := 16) hx hb dX8_says_194 (by decide) ?_
                exact ih16 (i + 1) (x0 + 1) (upR ρ' 15 ((nI x0).toNatClampNeg) (-(ρ' 15 (nI x0).toNatClampNeg))) (by omega) (by omega) (by omega) (by omega) (hnm) (hkp) (by rw [show i + 1 - s0 = i - s0 + 1 by omega]; exact hr2) (by rw [show i + 1 - s0 = i - s0 + 1 by omega]; rw [nI_clamp (by omega), stkL_lay]; rw [stepS_turn (by rw [hc18]; decide) hc18] at hv; exact hv) _ _ _ hW (lv_sub hl [0, 2, 3, 4] rfl)
            ·
              have hc9 := enc_13 hokc c_2 (Int32.not_lt.mpr c_4) c_5; obtain ⟨hk1, hr2⟩ := runD_un hr (by rw [hc9]; decide) (Or.inl hc9); obtain ⟨x0, rfl⟩ : ∃ x, h = x + 1 := ⟨h - 1, by omega⟩
              refine lv_aload_n hx hb dX8_says_107 rfl (lv_at hl 3 rfl) ?_
              refine mr_f F hW 27 (by decide) rfl fl_RX8_52 dX8_says_108 ?_
              refine lv_iload_n hx hb dX8_says_111 rfl (lv_at hl 2 rfl) ?_
              refine lv_iconst (v := 1) hx hb dX8_says_112 (by decide) ?_
              refine lv_isub hx hb dX8_says_113 ?_
              refine lv_as (z := nI x0) (nI_pred x0) ?_
              refine lv_aload_n hx hb dX8_says_114 rfl (lv_at hl 3 rfl) ?_
              refine mr_f F hW 27 (by decide) rfl fl_RX8_52 dX8_says_115 ?_
              refine lv_iload_n hx hb dX8_says_118 rfl (lv_at hl 2 rfl) ?_
              refine lv_iconst (v := 1) hx hb dX8_says_119 (by decide) ?_
              refine lv_isub hx hb dX8_says_120 ?_
              refine lv_as (z := nI x0) (nI_pred x0) ?_
              refine mr_stack F hW (vp_in_nI (by omega) (by decide)) dX8_says_121 ?_
              refine lv_if_ne (tgt := 129) hx hb dX8_says_122 (by decide) (fun c_7 => ?_) (fun c_7 => ?_)
              ·
                refine lv_iconst (v := 0) hx hb dX8_says_129 (by decide) ?_
                refine mw_stack F hW (vp_in_nI (by omega) (by decide)) dX8_says_130 (fun H locs hW => ?_)
                refine lv_goto (tgt := 191) hx hb dX8_says_131 (by decide) ?_
                refine lv_iinc (v := nI (i + 1)) (lv' := [(3, .int (nI (i + 1))), (4, .int (encM cc)), (2, .int (nI (x0 + 1))), (0, .ref (ad 0)), (1, .int (nI pt))]) hx hb dX8_says_191 hl (k := 1) rfl (nI_1 i) (by decide) rfl (fun ls hl => ?_)
                refine lv_goto (tgt := 16) hx hb dX8_says_194 (by decide) ?_
                exact ih16 (i + 1) (x0 + 1) (upR ρ' 15 ((nI x0).toNatClampNeg) 0) (by omega) (by omega) (by omega) (by omega) (hnm) (hkp) (by rw [show i + 1 - s0 = i - s0 + 1 by omega]; exact hr2) (by rw [show i + 1 - s0 = i - s0 + 1 by omega]; rw [nI_clamp (by omega), stkL_lay]; rw [stepS_not (by rw [hc9]; decide) hc9] at hv; rw [show (if (stkL ρ' (x0 + 1)).headD 0 = 0 then (1 : Int32) else 0) = 0 from if_neg (by have := c_7; rw [nI_clamp (by omega)] at this; exact this)] at hv; exact hv) _ _ _ hW (lv_sub hl [0, 2, 3, 4] rfl)
              ·
                refine lv_iconst (v := 1) hx hb dX8_says_125 (by decide) ?_
                refine lv_goto (tgt := 130) hx hb dX8_says_126 (by decide) ?_
                refine mw_stack F hW (vp_in_nI (by omega) (by decide)) dX8_says_130 (fun H locs hW => ?_)
                refine lv_goto (tgt := 191) hx hb dX8_says_131 (by decide) ?_
                refine lv_iinc (v := nI (i + 1)) (lv' := [(3, .int (nI (i + 1))), (4, .int (encM cc)), (2, .int (nI (x0 + 1))), (0, .ref (ad 0)), (1, .int (nI pt))]) hx hb dX8_says_191 hl (k := 1) rfl (nI_1 i) (by decide) rfl (fun ls hl => ?_)
                refine lv_goto (tgt := 16) hx hb dX8_says_194 (by decide) ?_
                exact ih16 (i + 1) (x0 + 1) (upR ρ' 15 ((nI x0).toNatClampNeg) 1) (by omega) (by omega) (by omega) (by omega) (hnm) (hkp) (by rw [show i + 1 - s0 = i - s0 + 1 by omega]; exact hr2) (by rw [show i + 1 - s0 = i - s0 + 1 by omega]; rw [nI_clamp (by omega), stkL_lay]; rw [stepS_not (by rw [hc9]; decide) hc9] at hv; rw [show (if (stkL ρ' (x0 + 1)).headD 0 = 0 then (1 : Int32) else 0) = 1 from if_pos (by have := c_7; rw [nI_clamp (by omega)] at this; exact this)] at hv; exact hv) _ _ _ hW (lv_sub hl [0, 2, 3, 4] rfl)
          ·
            obtain ⟨j, hj, hej, hcj⟩ := enc_lt hokc (Int32.not_le.mp c_4); obtain ⟨hk60, hr2⟩ := runD_push hr (by rw [hcj]; exact (nm_neg j hj).2); rw [hej] at hl
            refine lv_aload_n hx hb dX8_says_66 rfl (lv_at hl 3 rfl) ?_
            refine mr_f F hW 27 (by decide) rfl fl_RX8_52 dX8_says_67 ?_
            refine lv_iload_n hx hb dX8_says_70 rfl (lv_at hl 2 rfl) ?_
            refine lv_iload hx hb dX8_says_71 (lv_at hl 0 rfl) ?_
            refine lv_bipush (v := 11) hx hb dX8_says_73 (by decide) ?_
            refine lv_icmp_ge (tgt := 88) hx hb dX8_says_75 (by decide) (fun c_8 => ?_) (fun c_8 => ?_)
            ·
              exact absurd (by rw [hej]; exact c_8) c_4
            ·
              refine lv_aload_n hx hb dX8_says_78 rfl (lv_at hl 3 rfl) ?_
              refine mr_f F hW 28 (by decide) rfl fl_RX8_55 dX8_says_79 ?_
              refine lv_iload hx hb dX8_says_82 (lv_at hl 0 rfl) ?_
              refine mr_named F hW (vp_in_nI hj (by decide)) dX8_says_84 ?_
              refine lv_goto (tgt := 93) hx hb dX8_says_85 (by decide) ?_
              refine mw_stack F hW (vp_in_nI (by omega) (by decide)) dX8_says_93 (fun H locs hW => ?_)
              refine lv_iinc (v := nI (h + 1)) (lv' := [(2, .int (nI (h + 1))), (4, .int (nI j)), (3, .int (nI i)), (0, .ref (ad 0)), (1, .int (nI pt))]) hx hb dX8_says_94 hl (k := 2) rfl (nI_1 h) (by decide) rfl (fun ls hl => ?_)
              refine lv_goto (tgt := 191) hx hb dX8_says_97 (by decide) ?_
              refine lv_iinc (v := nI (i + 1)) (lv' := [(3, .int (nI (i + 1))), (2, .int (nI (h + 1))), (4, .int (nI j)), (0, .ref (ad 0)), (1, .int (nI pt))]) hx hb dX8_says_191 hl (k := 2) rfl (nI_1 i) (by decide) rfl (fun ls hl => ?_)
              refine lv_goto (tgt := 16) hx hb dX8_says_194 (by decide) ?_
              exact ih16 (i + 1) (h + 1) (upR ρ' 15 ((nI h).toNatClampNeg) (ρ' 16 (nI j).toNatClampNeg)) (by omega) (by omega) (by omega) (by omega) (hnm) (hkp) (by rw [show i + 1 - s0 = i - s0 + 1 by omega]; exact hr2) (by rw [show i + 1 - s0 = i - s0 + 1 by omega]; rw [nI_clamp (by omega), stkL_lay, nI_clamp (by omega), hnm j hj, ← hcj, ← stepS_name (mn := mn) (g := g) (st := stkL ρ' h) (by rw [hcj]; exact (nm_neg j hj).1) (by rw [hcj]; exact (nm_neg j hj).2)]; exact hv) _ _ _ hW (lv_sub hl [0, 1, 3, 4] rfl)
  exact L16 (e0 + 1) s0 0 _ (Nat.le_refl _) (hm) (by omega) (by omega) (hnm) (Kp.rf) (by rw [Nat.sub_self]; exact hrun) (by rw [Nat.sub_self]; exact hRES) _ _ _ hW (lv_sub hl [0, 1, 2, 3] rfl)
