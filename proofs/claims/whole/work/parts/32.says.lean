theorem mod_fmv (x z : Int32) : modS x z = fmv x z := by
  unfold modS fmv fmOf remS
  by_cases h : x - x / z * z < 0
  · rw [if_pos h, if_neg (by rw [i32_le]; exact not_not_intro h)]
  · rw [if_neg h, if_pos (by rw [i32_le]; exact h)]
theorem mod_nat {g : Nat} (x : Int32) (h0 : 0 < g) (h1 : g < 2 ^ 31) : ∃ c, modS x (nI g) = nI c ∧ c < g := by
  obtain ⟨c, h2, h3⟩ := fmv_nat (a := x) (m := nI g) (by rw [nI_toInt h1]; omega)
  rw [nI_toInt h1] at h3
  exact ⟨c, by rw [mod_fmv]; exact h2, by omega⟩
/-- floorMod's numbers -/
def fmS (x z : Int32) : Int32 := if x ^^^ z < 0 then (if remS x z = 0 then remS x z else remS x z + z) else remS x z
theorem i32_neg (x : Int32) : x < 0 ↔ x.toBitVec.msb = true := by
  rw [Int32.lt_iff_toInt_lt, ← Int32.toInt_toBitVec, BitVec.msb_eq_toInt]
  simp
theorem fm_mod {g : Nat} (x : Int32) (h0 : 0 < g) (h1 : g < 2 ^ 31) : fmS x (nI g) = modS x (nI g) := by
  have hz : (nI g).toBitVec.msb = false := by
    have h2 := nI_pos h1
    rw [i32_neg] at h2
    simpa using h2
  have hx : (x ^^^ nI g < 0) ↔ x < 0 := by
    rw [i32_neg, i32_neg, Int32.toBitVec_xor, BitVec.msb_xor, hz, Bool.xor_false]
  have hr : (remS x (nI g)).toInt = x.toInt.tmod g := by
    unfold remS
    rw [rem_toInt, nI_toInt h1]
  unfold fmS modS
  by_cases h : x < 0
  · rw [if_pos (hx.mpr h)]
    rw [Int32.lt_iff_toInt_lt] at h
    have h' : x.toInt < 0 := h
    have e1 : x.toInt.tmod g = -((-x.toInt).tmod g) := by rw [Int.neg_tmod, Int.neg_neg]
    have e2 : 0 ≤ (-x.toInt).tmod (g : Int) := Int.tmod_nonneg _ (by omega)
    have hle : x.toInt.tmod g ≤ 0 := by omega
    by_cases hz0 : remS x (nI g) = 0
    · rw [if_pos hz0, if_neg (by rw [hz0]; decide)]
    · rw [if_neg hz0, if_pos ?_]
      rw [Int32.lt_iff_toInt_lt, hr]
      have hne : x.toInt.tmod g ≠ 0 := fun e => hz0 (Int32.toInt_inj.mp (by rw [hr, e]; rfl))
      show x.toInt.tmod g < 0
      omega
  · rw [if_neg (fun q => h (hx.mp q)), if_neg ?_]
    rw [Int32.lt_iff_toInt_lt] at h ⊢
    rw [hr]
    have hge : 0 ≤ x.toInt.tmod g := Int.tmod_nonneg _ (by simpa using h)
    show ¬ x.toInt.tmod g < 0
    omega
set_option maxHeartbeats 800000 in
set_option maxRecDepth 100000 in
theorem kJ9_floorMod_7cf53 {l : Launch} {x z : Int32} (hz : ¬ z = 0) : PM l yJ9_floorMod_7cf53 cJ9_floorMod_7cf53 3 FieldType.int { frames := 0, cells := 0, slots := 0, locals := 0 } [.int x, .int z] (fmS x z) := by
  refine gw_stSF (own := RJ9) (by decide +kernel) rfl (Nat.le_of_ble_eq_true rfl) ?_
  intro p e s m ar below meth c Q F hret ls hl
  obtain ⟨hx, hb, hml, hown, hts⟩ := id F
  have hl : lv_has ls 3 [(0, .int x), (1, .int z)] := hl
  refine lv_iload_n hx hb dJ9_floorMod_7cf53_0 rfl (lv_at hl 0 rfl) ?_
  refine lv_iload_n hx hb dJ9_floorMod_7cf53_1 rfl (lv_at hl 1 rfl) ?_
  refine lv_irem hx hb dJ9_floorMod_7cf53_2 hz ?_
  refine lv_topi (fun v_1 ev_1 => ?_)
  refine lv_istore_n (lv' := [(2, .int v_1), (0, .int x), (1, .int z)]) hx hb dJ9_floorMod_7cf53_3 rfl hl (by decide) rfl (fun ls hl => ?_)
  refine lv_iload_n hx hb dJ9_floorMod_7cf53_4 rfl (lv_at hl 1 rfl) ?_
  refine lv_iload_n hx hb dJ9_floorMod_7cf53_5 rfl (lv_at hl 2 rfl) ?_
  refine lv_ixor hx hb dJ9_floorMod_7cf53_6 ?_
  refine lv_if_ge (tgt := 18) hx hb dJ9_floorMod_7cf53_7 (by decide) (fun c_2 => ?_) (fun c_2 => ?_)
  ·
    refine lv_iload_n hx hb dJ9_floorMod_7cf53_18 rfl (lv_at hl 0 rfl) ?_
    exact hret v_1 _ _ rfl (by subst ev_1; (try simp only [i32_le, Decidable.not_not] at c_2); first | (simp only [fmS, remS, i32_le, c_2, if_true, if_false, not_false_eq_true, not_true_eq_false]; done) | simp [fmS, remS, c_2, i32_le]) dJ9_floorMod_7cf53_19
  ·
    refine lv_iload_n hx hb dJ9_floorMod_7cf53_10 rfl (lv_at hl 0 rfl) ?_
    refine lv_if_eq (tgt := 18) hx hb dJ9_floorMod_7cf53_11 (by decide) (fun c_3 => ?_) (fun c_3 => ?_)
    ·
      refine lv_iload_n hx hb dJ9_floorMod_7cf53_18 rfl (lv_at hl 0 rfl) ?_
      exact hret v_1 _ _ rfl (by subst ev_1; (try simp only [i32_le, Decidable.not_not] at c_2); (try simp only [i32_le, Decidable.not_not] at c_3); first | (simp only [fmS, remS, i32_le, c_2, c_3, if_true, if_false, not_false_eq_true, not_true_eq_false]; done) | simp [fmS, remS, c_2, c_3, i32_le]) dJ9_floorMod_7cf53_19
    ·
      refine lv_iload_n hx hb dJ9_floorMod_7cf53_14 rfl (lv_at hl 0 rfl) ?_
      refine lv_iload_n hx hb dJ9_floorMod_7cf53_15 rfl (lv_at hl 2 rfl) ?_
      refine lv_iadd hx hb dJ9_floorMod_7cf53_16 ?_
      exact hret (v_1 + z) _ _ rfl (by subst ev_1; (try simp only [i32_le, Decidable.not_not] at c_2); (try simp only [i32_le, Decidable.not_not] at c_3); first | (simp only [fmS, remS, i32_le, c_2, c_3, if_true, if_false, not_false_eq_true, not_true_eq_false]; done) | simp [fmS, remS, c_2, c_3, i32_le]) dJ9_floorMod_7cf53_17
abbrev rm_yX6_named : Room := { frames := 1, cells := 0, slots := 0, locals := 20 }
set_option maxHeartbeats 800000 in
set_option maxRecDepth 100000 in
theorem kX6_named {l : Launch} {D : va_G} {cs : Nat → ClassId} {ad : Nat → Nat} {n : Nat} {ρ σ : Nat → Nat → Int32} {TT τ : Nat → Nat → Nat → Int32} {sz : Nat} {b q : Nat} {x mn : Int32} (hb : b < 3) (hq : q < 6) (hw : ∃ j, j < 1024 ∧ TT b q 2 = nI j) : XMi l yX6_named cX6_named 3 FieldType.int rm_yX6_named [.int x, .ref (ad (9 + 8 * b + 1 + 1 + q)), .int mn] D cs ad n ρ TT τ σ sz (fun (r : Int32) (u : Unit) => r = nameS (TT b q) mn x) (fun u : Unit => xent ad cs n ρ TT τ σ) := by
  refine gw_stI (Ff := fun u : Unit => xent ad cs n ρ TT τ σ) (own := RX6) (by decide +kernel) rfl (Nat.le_of_ble_eq_true rfl) ?_
  intro p e s m ar below meth c A Q F hE hsz hW hret ls hl
  obtain ⟨hx, hb, hml, hown, hts⟩ := id F
  have hl : lv_has ls 3 [(0, .int x), (1, .ref (ad (9 + 8 * b + 1 + 1 + q))), (2, .int mn)] := hl
  refine lv_iload_n hx hb dX6_named_0 rfl (lv_at hl 0 rfl) ?_
  by_cases c_1 : x = (-5)
  ·
    refine lv_tableIn (off := 52) (tgt := 53) hx hb dX6_named_1 (by rw [c_1]; decide) (by rw [c_1]; decide) (by rw [c_1]; rfl) (by decide) ?_
    refine lv_aload_n hx hb dX6_named_53 rfl (lv_at hl 1 rfl) ?_
    refine xr_G (b := b) (q := q) F hW (by omega) (by omega) 2 (by decide) fl_RX6_67 dX6_named_54 ?_
    refine gw_callP (As := [.int (TT b q 2)]) (rest := []) F hl.1 (kJ6_bitCount_0f7a4) pd_yJ6_bitCount_0f7a4 ml_RX6_70 st_yJ6_bitCount_0f7a4 ini_RJ6 cd_yJ6_bitCount_0f7a4 ⟨rfl, rfl⟩ ⟨Nat.le_of_ble_eq_true rfl, Nat.le_of_ble_eq_true rfl⟩ rfl rfl (Nat.le_of_ble_eq_true rfl) ⟨Nat.zero_le _, Nat.zero_le _⟩ dX6_named_57 ?_
    exact hret (bcS (TT b q 2)) () _ _ _ _ _ hW rfl rfl (by obtain ⟨j, hj, ej⟩ := hw; simp only [ej, bc_ones j hj, nameS, c_1, if_true, if_false]; first | done | rfl | simp) dX6_named_60
  ·
    by_cases c_2 : x = (-4)
    ·
      refine lv_tableIn (off := 50) (tgt := 51) hx hb dX6_named_1 (by rw [c_2]; decide) (by rw [c_2]; decide) (by rw [c_2]; rfl) (by decide) ?_
      refine lv_iload_n hx hb dX6_named_51 rfl (lv_at hl 2 rfl) ?_
      exact hret mn () _ _ _ _ _ hW rfl rfl (by (try simp only [i32_le, Decidable.not_not] at c_1); (try simp only [i32_le, Decidable.not_not] at c_2); first | (simp only [nameS, i32_le, c_1, c_2, if_true, if_false, not_false_eq_true, not_true_eq_false]; done) | simp [nameS, c_1, c_2, i32_le]) dX6_named_52
    ·
      by_cases c_3 : x = (-3)
      ·
        refine lv_tableIn (off := 45) (tgt := 46) hx hb dX6_named_1 (by rw [c_3]; decide) (by rw [c_3]; decide) (by rw [c_3]; rfl) (by decide) ?_
        refine lv_aload_n hx hb dX6_named_46 rfl (lv_at hl 1 rfl) ?_
        refine xr_G (b := b) (q := q) F hW (by omega) (by omega) 5 (by decide) fl_RX6_64 dX6_named_47 ?_
        exact hret (TT b q 5) () _ _ _ _ _ hW rfl rfl (by (try simp only [i32_le, Decidable.not_not] at c_1); (try simp only [i32_le, Decidable.not_not] at c_2); (try simp only [i32_le, Decidable.not_not] at c_3); first | (simp only [nameS, i32_le, c_1, c_2, c_3, if_true, if_false, not_false_eq_true, not_true_eq_false]; done) | simp [nameS, c_1, c_2, c_3, i32_le]) dX6_named_50
      ·
        by_cases c_4 : x = (-2)
        ·
          refine lv_tableIn (off := 40) (tgt := 41) hx hb dX6_named_1 (by rw [c_4]; decide) (by rw [c_4]; decide) (by rw [c_4]; rfl) (by decide) ?_
          refine lv_aload_n hx hb dX6_named_41 rfl (lv_at hl 1 rfl) ?_
          refine xr_G (b := b) (q := q) F hW (by omega) (by omega) 4 (by decide) fl_RX6_61 dX6_named_42 ?_
          exact hret (TT b q 4) () _ _ _ _ _ hW rfl rfl (by (try simp only [i32_le, Decidable.not_not] at c_1); (try simp only [i32_le, Decidable.not_not] at c_2); (try simp only [i32_le, Decidable.not_not] at c_3); (try simp only [i32_le, Decidable.not_not] at c_4); first | (simp only [nameS, i32_le, c_1, c_2, c_3, c_4, if_true, if_false, not_false_eq_true, not_true_eq_false]; done) | simp [nameS, c_1, c_2, c_3, c_4, i32_le]) dX6_named_45
        ·
          by_cases c_5 : x = (-1)
          ·
            refine lv_tableIn (off := 35) (tgt := 36) hx hb dX6_named_1 (by rw [c_5]; decide) (by rw [c_5]; decide) (by rw [c_5]; rfl) (by decide) ?_
            refine lv_aload_n hx hb dX6_named_36 rfl (lv_at hl 1 rfl) ?_
            refine xr_G (b := b) (q := q) F hW (by omega) (by omega) 3 (by decide) fl_RX6_56 dX6_named_37 ?_
            exact hret (TT b q 3) () _ _ _ _ _ hW rfl rfl (by (try simp only [i32_le, Decidable.not_not] at c_1); (try simp only [i32_le, Decidable.not_not] at c_2); (try simp only [i32_le, Decidable.not_not] at c_3); (try simp only [i32_le, Decidable.not_not] at c_4); (try simp only [i32_le, Decidable.not_not] at c_5); first | (simp only [nameS, i32_le, c_1, c_2, c_3, c_4, c_5, if_true, if_false, not_false_eq_true, not_true_eq_false]; done) | simp [nameS, c_1, c_2, c_3, c_4, c_5, i32_le]) dX6_named_40
          ·
            refine lv_tableOut (tgt := 61) hx hb dX6_named_1 (tb_out5_m5 c_1 c_2 c_3 c_4 c_5) (by decide) ?_
            refine lv_aload_n hx hb dX6_named_61 rfl (lv_at hl 1 rfl) ?_
            refine xr_G (b := b) (q := q) F hW (by omega) (by omega) 1 (by decide) fl_RX6_76 dX6_named_62 ?_
            exact hret (TT b q 1) () _ _ _ _ _ hW rfl rfl (by (try simp only [i32_le, Decidable.not_not] at c_1); (try simp only [i32_le, Decidable.not_not] at c_2); (try simp only [i32_le, Decidable.not_not] at c_3); (try simp only [i32_le, Decidable.not_not] at c_4); (try simp only [i32_le, Decidable.not_not] at c_5); first | (simp only [nameS, i32_le, c_1, c_2, c_3, c_4, c_5, if_true, if_false, not_false_eq_true, not_true_eq_false]; done) | simp [nameS, c_1, c_2, c_3, c_4, c_5, i32_le]) dX6_named_65
/-- where a text's parts begin; a piece of its code; a part's code -/
def stN (τ : Nat → Nat → Nat → Int32) (t i : Nat) : Nat := (τ t 1 i).toNatClampNeg
def xLd (τ : Nat → Nat → Nat → Int32) (t i e : Nat) : List Int32 := (List.range (e - i)).map fun j => τ t 0 (i + j)
theorem xLd_nil {τ : Nat → Nat → Nat → Int32} {t i e : Nat} (h : e ≤ i) : xLd τ t i e = [] := by
  unfold xLd; rw [show e - i = 0 by omega]; rfl
theorem xLd_cons {τ : Nat → Nat → Nat → Int32} {t i e : Nat} (h : i < e) : xLd τ t i e = τ t 0 i :: xLd τ t (i + 1) e := by
  unfold xLd
  rw [show e - i = (e - (i + 1)) + 1 by omega, List.range_succ_eq_map, List.map_cons, List.map_map]
  congr 1
  apply List.map_congr_left
  intro j _
  show τ t 0 (i + (j + 1)) = τ t 0 (i + 1 + j)
  congr 1
  omega
def xLx (n : Nat) (τ : Nat → Nat → Nat → Int32) : Lw := fun t pt => if t < n ∧ pt < 3 then xLd τ t (stN τ t pt) (stN τ t (pt + 1)) else []
def okX (n : Nat) (τ : Nat → Nat → Nat → Int32) : Prop := ∀ t, t < n → (τ t 2 1).toNatClampNeg ≤ 160 ∧ (∀ i, i < 4 → τ t 1 i = nI (stN τ t i) ∧ stN τ t i ≤ (τ t 2 1).toNatClampNeg) ∧ (∀ i, i < 3 → stN τ t i ≤ stN τ t (i + 1)) ∧ ∀ pt, pt < 3 → runD (xLd τ t (stN τ t pt) (stN τ t (pt + 1))) 0 = some 1
theorem runD_push {c : Int32} {L : List Int32} {h : Nat} (e : runD (c :: L) h = some 1) (hc : ¬ c < -6) : h < 60 ∧ runD L (h + 1) = some 1 := by
  unfold runD depS at e
  rw [if_pos (by rw [i32_le]; exact hc)] at e
  by_cases hh : h < 60
  · rw [if_pos hh] at e; exact ⟨hh, e⟩
  · rw [if_neg hh] at e; cases e
theorem runD_un {c : Int32} {L : List Int32} {h : Nat} (e : runD (c :: L) h = some 1) (hc : c < -6) (hu : c = -9 ∨ c = -18) : 1 ≤ h ∧ runD L h = some 1 := by
  unfold runD depS at e
  rw [if_neg (by rw [i32_le]; exact not_not_intro hc), if_pos hu] at e
  by_cases hh : 1 ≤ h
  · rw [if_pos hh] at e; exact ⟨hh, e⟩
  · rw [if_neg hh] at e; cases e
theorem runD_bin {c : Int32} {L : List Int32} {h : Nat} (e : runD (c :: L) h = some 1) (hc : c < -6) (hu : ¬ (c = -9 ∨ c = -18)) : 2 ≤ h ∧ runD L (h - 1) = some 1 := by
  unfold runD depS at e
  rw [if_neg (by rw [i32_le]; exact not_not_intro hc), if_neg hu] at e
  by_cases hh : 2 ≤ h
  · rw [if_pos hh] at e; exact ⟨hh, e⟩
  · rw [if_neg hh] at e; cases e
/-- what the pile holds, the last first -/
def pileL (ρ : Nat → Nat → Int32) : Nat → List Int32
  | 0 => []
  | h + 1 => ρ 7 h :: pileL ρ h
theorem pileL_6 (ρ : Nat → Nat → Int32) (v : Int32) : ∀ h, pileL (upR ρ 6 1 v) h = pileL ρ h
  | 0 => rfl
  | h + 1 => by unfold pileL; rw [pileL_6 ρ v h]; rfl
theorem pileL_7 (ρ : Nat → Nat → Int32) (k : Nat) (v : Int32) : ∀ h, h ≤ k → pileL (upR ρ 7 k v) h = pileL ρ h
  | 0, _ => rfl
  | h + 1, hh => by unfold pileL; rw [pileL_7 ρ k v h (by omega), upR_self, pk_un (by omega)]
theorem pileL_lay (ρ : Nat → Nat → Int32) (h : Nat) (v w : Int32) : pileL (upR (upR ρ 7 h v) 6 1 w) (h + 1) = v :: pileL ρ h := by
  rw [pileL_6]
  show upR ρ 7 h v 7 h :: pileL (upR ρ 7 h v) h = _
  rw [pileL_7 ρ h v h (Nat.le_refl h), upR_self, pk_us]
theorem clamp_eq (lo v : Int32) (hlo : lo = -99 ∨ lo = 0) : (if lo < (if v < 99 then v else 99) then (if v < 99 then v else 99) else lo) = clampS lo v := by
  unfold clampS
  have hl : ¬ (99 : Int32) < lo := by rcases hlo with rfl | rfl <;> decide
  by_cases h1 : v < 99
  · rw [if_pos h1]
    have h3 : ¬ (99 : Int32) < v := by
      rw [Int32.lt_iff_toInt_lt] at h1 ⊢; omega
    by_cases h2 : lo < v
    · rw [if_pos h2, if_neg (by rw [Int32.lt_iff_toInt_lt] at h2 ⊢; omega), if_neg h3]
    · rw [if_neg h2]
      by_cases h4 : v < lo
      · rw [if_pos h4]
      · rw [if_neg h4, if_neg h3]
        apply Int32.toInt_inj.mp
        rw [Int32.lt_iff_toInt_lt] at h2 h4; omega
  · rw [if_neg h1]
    have h5 : lo < 99 := by rcases hlo with rfl | rfl <;> decide
    rw [if_pos h5]
    have h6 : ¬ v < lo := by
      rw [Int32.lt_iff_toInt_lt] at h1 h5 ⊢; omega
    rw [if_neg h6]
    by_cases h7 : 99 < v
    · rw [if_pos h7]
    · rw [if_neg h7]
      apply Int32.toInt_inj.mp
      rw [Int32.lt_iff_toInt_lt] at h1 h7; omega
theorem stepS_num {c : Int32} {g : Nat → Int32} {mn : Int32} {st : List Int32} (hc : ¬ c < 0) : stepS g mn st c = c :: st := by
  unfold stepS; rw [if_pos (by rw [i32_le]; exact hc)]
theorem stepS_name {c : Int32} {g : Nat → Int32} {mn : Int32} {st : List Int32} (hc : c < 0) (h6 : ¬ c < -6) : stepS g mn st c = nameS g mn c :: st := by
  unfold stepS; rw [if_neg (by rw [i32_le]; exact not_not_intro hc), if_pos (by rw [i32_le]; exact h6)]
theorem i32_lt0 {c : Int32} (h6 : c < -6) : c < 0 := Int32.lt_trans h6 (by decide)
theorem stepS_low {c : Int32} {g : Nat → Int32} {mn : Int32} {st : List Int32} (h6 : c < -6) : stepS g mn st c = if c = -9 then (if st.headD 0 = 0 then 1 else 0) :: st.tail else if c = -18 then (-(st.headD 0)) :: st.tail else joinS c (st.tail.headD 0) (st.headD 0) :: st.tail.tail := by
  unfold stepS; rw [if_neg (by rw [i32_le]; exact not_not_intro (i32_lt0 h6)), if_neg (by rw [i32_le]; exact not_not_intro h6)]
theorem stepS_not {c : Int32} {g : Nat → Int32} {mn : Int32} {st : List Int32} (h6 : c < -6) (h9 : c = -9) : stepS g mn st c = (if st.headD 0 = 0 then 1 else 0) :: st.tail := by rw [stepS_low h6, if_pos h9]
theorem stepS_turn {c : Int32} {g : Nat → Int32} {mn : Int32} {st : List Int32} (h6 : c < -6) (h18 : c = -18) : stepS g mn st c = (-(st.headD 0)) :: st.tail := by rw [stepS_low h6, if_neg (by rw [h18]; decide), if_pos h18]
theorem stepS_join {c : Int32} {g : Nat → Int32} {mn : Int32} {st : List Int32} (h6 : c < -6) (h9 : ¬ c = -9) (h18 : ¬ c = -18) : stepS g mn st c = joinS c (st.tail.headD 0) (st.headD 0) :: st.tail.tail := by rw [stepS_low h6, if_neg h9, if_neg h18]
abbrev rm_yX6_says : Room := { frames := 2, cells := 0, slots := 0, locals := 42 }
set_option maxHeartbeats 800000 in
set_option maxRecDepth 100000 in
theorem kX6_says {l : Launch} {D : va_G} {cs : Nat → ClassId} {ad : Nat → Nat} {n : Nat} {ρ σ : Nat → Nat → Int32} {TT τ : Nat → Nat → Nat → Int32} {sz : Nat} {b q t pt : Nat} {mn : Int32} (hb : b < 3) (hq : q < 6) (ht : t < n) (hp3 : pt < 3) (hw : ∃ j, j < 1024 ∧ TT b q 2 = nI j) (hX : okX n τ) : XMi l yX6_says cX6_says 7 FieldType.int rm_yX6_says [.ref (ad (42 + 3 * t)), .int (nI pt), .ref (ad (9 + 8 * b + 1 + 1 + q)), .int mn] D cs ad n ρ TT τ σ sz (fun (r : Int32) (u : Nat → Nat → Int32) => r = saysG (xLd τ t (stN τ t pt) (stN τ t (pt + 1))) pt (TT b q) mn) (fun u : Nat → Nat → Int32 => xent ad cs n u TT τ σ) := by
  refine gw_stI (Ff := fun u : Nat → Nat → Int32 => xent ad cs n u TT τ σ) (own := RX6) (by decide +kernel) rfl (Nat.le_of_ble_eq_true rfl) ?_
  intro p e s m ar below meth c A Q F hE hsz hW hret ls hl
  obtain ⟨hx, hb, hml, hown, hts⟩ := id F
  have hl : lv_has ls 7 [(0, .ref (ad (42 + 3 * t))), (1, .int (nI pt)), (2, .ref (ad (9 + 8 * b + 1 + 1 + q))), (3, .int mn)] := hl
  obtain ⟨hlen, hst, hmon, hdep⟩ := hX t ht
  have hs := hst pt (by omega)
  have hs1 := hst (pt + 1) (by omega)
  have hm := hmon pt hp3
  have hd0 := hdep pt hp3
  generalize hS : stN τ t pt = i0 at hs hm hd0
  generalize hE0 : stN τ t (pt + 1) = e0 at hs1 hm hd0
  generalize hRES : evalS (xLd τ t i0 e0) (TT b q) mn = RES
  generalize hLN : (τ t 2 1).toNatClampNeg = ln at hlen hs hs1
  refine lv_iload_n hx hb dX6_says_0 rfl (lv_at hl 1 rfl) ?_
  refine lv_if_lt (tgt := 15) hx hb dX6_says_1 (by decide) (fun c_1 => ?_) (fun c_1 => ?_)
  ·
    exact absurd c_1 (nI_pos (by omega))
  ·
    refine lv_iload_n hx hb dX6_says_4 rfl (lv_at hl 1 rfl) ?_
    refine lv_iconst (v := 1) hx hb dX6_says_5 (by decide) ?_
    refine lv_iadd hx hb dX6_says_6 ?_
    refine lv_aload_n hx hb dX6_says_7 rfl (lv_at hl 0 rfl) ?_
    refine xr_X (t := t) F hW (by omega) 2 (by decide) rfl fl_RX6_19 dX6_says_8 ?_
    refine xr_Zl (t := t) F hW (by omega) dX6_says_11 ?_
    refine lv_icmp_lt (tgt := 17) hx hb dX6_says_12 (by decide) (fun c_2 => ?_) (fun c_2 => ?_)
    ·
      refine lv_aload_n hx hb dX6_says_17 rfl (lv_at hl 0 rfl) ?_
      refine xr_X (t := t) F hW (by omega) 3 (by decide) rfl fl_RX6_22 dX6_says_18 ?_
      refine lv_iconst (v := 0) hx hb dX6_says_21 (by decide) ?_
      refine xw_I F hW 1 (by decide) fl_RX6_26 rfl (ty := .int) rfl rfl rfl rfl dX6_says_22 (fun H locs hW => ?_)
      refine lv_aload_n hx hb dX6_says_25 rfl (lv_at hl 0 rfl) ?_
      refine xr_X (t := t) F hW (by omega) 2 (by decide) rfl fl_RX6_19 dX6_says_26 ?_
      refine lv_iload_n hx hb dX6_says_29 rfl (lv_at hl 1 rfl) ?_
      refine xr_Z (t := t) F hW (by omega) (vp_in_nI (by omega) (by decide)) dX6_says_30 ?_
      refine lv_as (z := nI i0) (by rw [nI_clamp (by omega)]; exact hs.1) ?_
      refine lv_istore (lv' := [(4, .int (nI i0)), (0, .ref (ad (42 + 3 * t))), (1, .int (nI pt)), (2, .ref (ad (9 + 8 * b + 1 + 1 + q))), (3, .int mn)]) hx hb dX6_says_31 hl (by decide) rfl (fun ls hl => ?_)
      have L33 : ∀ (k : Nat) (i h : Nat) (ρ' : Nat → Nat → Int32), (i ≤ e0) → (e0 + 1 ≤ i + k) → (h ≤ 60) → (ρ' 6 1 = nI h) → (runD (xLd τ t i e0) h = some 1) → (((xLd τ t i e0).foldl (stepS (TT b q) mn) (pileL ρ' h)).headD 0 = RES) → ∀ (H : Heap) (locs : List Loc) (ls : Array Slot), XW D cs ad n ρ' TT τ σ A s s.heap H locs → lv_has ls 7 [(0, .ref (ad (42 + 3 * t))), (1, .int (nI pt)), (2, .ref (ad (9 + 8 * b + 1 + 1 + q))), (3, .int mn), (4, .int (nI i))] → W p l e rm_yX6_says s m ar below meth c H locs 0 0 Q (F0 m 33 ls []) := by
        intro k
        induction k with
        | zero => intro i h ρ' h1 h2 h3 h4 hr hv; exact absurd h2 (by omega)
        | succ k ih33 =>
          intro i h ρ' h1 h2 h3 h4 hr hv H locs ls hW hl
          refine lv_iload hx hb dX6_says_33 (lv_at hl 4 rfl) ?_
          refine lv_aload_n hx hb dX6_says_35 rfl (lv_at hl 0 rfl) ?_
          refine xr_X (t := t) F hW (by omega) 2 (by decide) rfl fl_RX6_19 dX6_says_36 ?_
          refine lv_iload_n hx hb dX6_says_39 rfl (lv_at hl 1 rfl) ?_
          refine lv_iconst (v := 1) hx hb dX6_says_40 (by decide) ?_
          refine lv_iadd hx hb dX6_says_41 ?_
          refine lv_as (z := nI (pt + 1)) (nI_1 pt) ?_
          refine xr_Z (t := t) F hW (by omega) (vp_in_nI (by omega) (by decide)) dX6_says_42 ?_
          refine lv_as (z := nI e0) (by rw [nI_clamp (by omega)]; exact hs1.1) ?_
          refine lv_icmp_ge (tgt := 199) hx hb dX6_says_43 (by decide) (fun c_3 => ?_) (fun c_3 => ?_)
          ·
            rw [xLd_nil (mi_le c_3 (by omega) (by omega))] at hr hv; obtain rfl : h = 1 := Option.some.inj hr; have hv : ρ' 7 0 = RES := hv
            refine lv_iload_n hx hb dX6_says_199 rfl (lv_at hl 1 rfl) ?_
            refine lv_iconst (v := 2) hx hb dX6_says_200 (by decide) ?_
            refine lv_icmp_ne (tgt := 209) hx hb dX6_says_201 (by decide) (fun c_4 => ?_) (fun c_4 => ?_)
            ·
              refine lv_iconst (v := 0) hx hb dX6_says_209 (by decide) ?_
              refine lv_bipush (v := 99) hx hb dX6_says_210 (by decide) ?_
              refine lv_aload_n hx hb dX6_says_212 rfl (lv_at hl 0 rfl) ?_
              refine xr_X (t := t) F hW (by omega) 3 (by decide) rfl fl_RX6_22 dX6_says_213 ?_
              refine gw_callVi (As := []) (rest := [.int 99, .int 0]) F hl.1 hW (fun _ _ hw => va_Nw.warmM hw hE) XE_E (by omega) xe_6 rfl (kX1_lift (h := 0) h4 (by omega)) pd_yX1_lift ml_RX6_39 im_yX1_lift se_yX1_lift ini_RX1 cd_yX1_lift ⟨rfl, rfl⟩ ⟨Nat.le_of_ble_eq_true rfl, Nat.le_of_ble_eq_true rfl⟩ rfl rfl (Nat.le_of_ble_eq_true rfl) ⟨Nat.zero_le _, Nat.zero_le _⟩ dX6_says_216 (fun r u H locs hp hW _ _ => ?_)
              obtain ⟨rfl, rfl⟩ := hp
              refine gw_callP (As := [.int 99, .int (ρ' 7 0)]) (rest := [.int 0]) F hl.1 (kJ9_min_7cf53) pd_yJ9_min_7cf53 ml_RX6_47 st_yJ9_min_7cf53 ini_RJ9 cd_yJ9_min_7cf53 ⟨rfl, rfl⟩ ⟨Nat.le_of_ble_eq_true rfl, Nat.le_of_ble_eq_true rfl⟩ rfl rfl (Nat.le_of_ble_eq_true rfl) ⟨Nat.zero_le _, Nat.zero_le _⟩ dX6_says_219 ?_
              refine gw_callP (As := [.int 0, .int (if ρ' 7 0 < 99 then ρ' 7 0 else 99)]) (rest := []) F hl.1 (kJ9_max_7cf53) pd_yJ9_max_7cf53 ml_RX6_53 st_yJ9_max_7cf53 ini_RJ9 cd_yJ9_max_7cf53 ⟨rfl, rfl⟩ ⟨Nat.le_of_ble_eq_true rfl, Nat.le_of_ble_eq_true rfl⟩ rfl rfl (Nat.le_of_ble_eq_true rfl) ⟨Nat.zero_le _, Nat.zero_le _⟩ dX6_says_222 ?_
              exact hret (if 0 < if ρ' 7 0 < 99 then ρ' 7 0 else 99 then if ρ' 7 0 < 99 then ρ' 7 0 else 99 else 0) _ _ _ _ _ _ hW rfl rfl (by rw [clamp_eq _ _ (Or.inr rfl)]; unfold saysG; rw [hS, hE0, hRES, hv, if_neg (fun z => c_4 ((nI_eq (a := pt) (b := 2) (by omega) (by decide)).mpr z))]) dX6_says_225
            ·
              refine lv_bipush (v := (-99)) hx hb dX6_says_204 (by decide) ?_
              refine lv_goto (tgt := 210) hx hb dX6_says_206 (by decide) ?_
              refine lv_bipush (v := 99) hx hb dX6_says_210 (by decide) ?_
              refine lv_aload_n hx hb dX6_says_212 rfl (lv_at hl 0 rfl) ?_
              refine xr_X (t := t) F hW (by omega) 3 (by decide) rfl fl_RX6_22 dX6_says_213 ?_
              refine gw_callVi (As := []) (rest := [.int 99, .int (-99)]) F hl.1 hW (fun _ _ hw => va_Nw.warmM hw hE) XE_E (by omega) xe_6 rfl (kX1_lift (h := 0) h4 (by omega)) pd_yX1_lift ml_RX6_39 im_yX1_lift se_yX1_lift ini_RX1 cd_yX1_lift ⟨rfl, rfl⟩ ⟨Nat.le_of_ble_eq_true rfl, Nat.le_of_ble_eq_true rfl⟩ rfl rfl (Nat.le_of_ble_eq_true rfl) ⟨Nat.zero_le _, Nat.zero_le _⟩ dX6_says_216 (fun r u H locs hp hW _ _ => ?_)
              obtain ⟨rfl, rfl⟩ := hp
              refine gw_callP (As := [.int 99, .int (ρ' 7 0)]) (rest := [.int (-99)]) F hl.1 (kJ9_min_7cf53) pd_yJ9_min_7cf53 ml_RX6_47 st_yJ9_min_7cf53 ini_RJ9 cd_yJ9_min_7cf53 ⟨rfl, rfl⟩ ⟨Nat.le_of_ble_eq_true rfl, Nat.le_of_ble_eq_true rfl⟩ rfl rfl (Nat.le_of_ble_eq_true rfl) ⟨Nat.zero_le _, Nat.zero_le _⟩ dX6_says_219 ?_
              refine gw_callP (As := [.int (-99), .int (if ρ' 7 0 < 99 then ρ' 7 0 else 99)]) (rest := []) F hl.1 (kJ9_max_7cf53) pd_yJ9_max_7cf53 ml_RX6_53 st_yJ9_max_7cf53 ini_RJ9 cd_yJ9_max_7cf53 ⟨rfl, rfl⟩ ⟨Nat.le_of_ble_eq_true rfl, Nat.le_of_ble_eq_true rfl⟩ rfl rfl (Nat.le_of_ble_eq_true rfl) ⟨Nat.zero_le _, Nat.zero_le _⟩ dX6_says_222 ?_
              exact hret (if (-99) < if ρ' 7 0 < 99 then ρ' 7 0 else 99 then if ρ' 7 0 < 99 then ρ' 7 0 else 99 else (-99)) _ _ _ _ _ _ hW rfl rfl (by rw [clamp_eq _ _ (Or.inl rfl)]; unfold saysG; rw [hS, hE0, hRES, hv, if_pos ((nI_eq (a := pt) (b := 2) (by omega) (by decide)).mp c_4)]) dX6_says_225
          ·
            have hlt : i < e0 := mi_nle c_3 (by omega) (by omega); rw [xLd_cons hlt] at hr hv; rw [List.foldl_cons] at hv
            refine lv_iload hx hb dX6_says_46 (lv_at hl 4 rfl) ?_
            refine lv_aload_n hx hb dX6_says_48 rfl (lv_at hl 0 rfl) ?_
            refine xr_X (t := t) F hW (by omega) 1 (by decide) rfl fl_RX6_15 dX6_says_49 ?_
            refine xr_Cl (t := t) F hW (by omega) (v := Int32.ofNat (τ t 2 1).toNatClampNeg) rfl dX6_says_52 ?_
            refine lv_icmp_ge (tgt := 199) hx hb dX6_says_53 (by decide) (fun c_5 => ?_) (fun c_5 => ?_)
            ·
              exact absurd c_5 (nI_ge (by omega) (by omega))
            ·
              refine lv_aload_n hx hb dX6_says_56 rfl (lv_at hl 0 rfl) ?_
              refine xr_X (t := t) F hW (by omega) 1 (by decide) rfl fl_RX6_15 dX6_says_57 ?_
              refine lv_iload hx hb dX6_says_60 (lv_at hl 4 rfl) ?_
              refine xr_C (t := t) F hW (by omega) (vp_in_nI (by omega) (by omega)) dX6_says_62 ?_
              refine lv_as (z := τ t 0 i) (by rw [nI_clamp (by omega)]) ?_
              refine lv_istore (lv' := [(5, .int (τ t 0 i)), (0, .ref (ad (42 + 3 * t))), (1, .int (nI pt)), (2, .ref (ad (9 + 8 * b + 1 + 1 + q))), (3, .int mn), (4, .int (nI i))]) hx hb dX6_says_63 hl (by decide) rfl (fun ls hl => ?_)
              refine lv_iload hx hb dX6_says_65 (lv_at hl 0 rfl) ?_
              refine lv_if_lt (tgt := 82) hx hb dX6_says_67 (by decide) (fun c_6 => ?_) (fun c_6 => ?_)
              ·
                refine lv_iload hx hb dX6_says_82 (lv_at hl 0 rfl) ?_
                refine lv_bipush (v := (-6)) hx hb dX6_says_84 (by decide) ?_
                refine lv_icmp_lt (tgt := 106) hx hb dX6_says_86 (by decide) (fun c_7 => ?_) (fun c_7 => ?_)
                ·
                  refine lv_iload hx hb dX6_says_106 (lv_at hl 0 rfl) ?_
                  refine lv_bipush (v := (-9)) hx hb dX6_says_108 (by decide) ?_
                  refine lv_icmp_ne (tgt := 138) hx hb dX6_says_110 (by decide) (fun c_8 => ?_) (fun c_8 => ?_)
                  ·
                    refine lv_iload hx hb dX6_says_138 (lv_at hl 0 rfl) ?_
                    refine lv_bipush (v := (-18)) hx hb dX6_says_140 (by decide) ?_
                    refine lv_icmp_ne (tgt := 163) hx hb dX6_says_142 (by decide) (fun c_9 => ?_) (fun c_9 => ?_)
                    ·
                      obtain ⟨hk1, hr2⟩ := runD_bin hr c_7 (fun z => z.elim c_8 c_9); obtain ⟨x0, rfl⟩ : ∃ x, h = x + 1 + 1 := ⟨h - 2, by omega⟩
                      refine lv_aload_n hx hb dX6_says_163 rfl (lv_at hl 1 rfl) ?_
                      refine xr_X (t := t) F hW (by omega) 3 (by decide) rfl fl_RX6_22 dX6_says_164 ?_
                      refine gw_callVi (As := []) (rest := []) F hl.1 hW (fun _ _ hw => va_Nw.warmM hw hE) XE_E (by omega) xe_6 rfl (kX1_lift (h := x0 + 1) h4 (by omega)) pd_yX1_lift ml_RX6_39 im_yX1_lift se_yX1_lift ini_RX1 cd_yX1_lift ⟨rfl, rfl⟩ ⟨Nat.le_of_ble_eq_true rfl, Nat.le_of_ble_eq_true rfl⟩ rfl rfl (Nat.le_of_ble_eq_true rfl) ⟨Nat.zero_le _, Nat.zero_le _⟩ dX6_says_167 (fun r u H locs hp hW _ _ => ?_)
                      obtain ⟨rfl, rfl⟩ := hp
                      refine lv_topi (fun v_10 ev_10 => ?_)
                      refine lv_istore (lv' := [(6, .int v_10), (5, .int (τ t 0 i)), (0, .ref (ad (42 + 3 * t))), (1, .int (nI pt)), (2, .ref (ad (9 + 8 * b + 1 + 1 + q))), (3, .int mn), (4, .int (nI i))]) hx hb dX6_says_170 hl (by decide) rfl (fun ls hl => ?_)
                      refine lv_aload_n hx hb dX6_says_172 rfl (lv_at hl 2 rfl) ?_
                      refine xr_X (t := t) F hW (by omega) 3 (by decide) rfl fl_RX6_22 dX6_says_173 ?_
                      refine lv_iload hx hb dX6_says_176 (lv_at hl 1 rfl) ?_
                      refine lv_aload_n hx hb dX6_says_178 rfl (lv_at hl 2 rfl) ?_
                      refine xr_X (t := t) F hW (by omega) 3 (by decide) rfl fl_RX6_22 dX6_says_179 ?_
                      refine gw_callVi (As := []) (rest := [.int (τ t 0 i), .ref (ad 6)]) F hl.1 hW (fun _ _ hw => va_Nw.warmM hw hE) XE_E (by omega) xe_6 rfl (kX1_lift (h := x0) rfl (by omega)) pd_yX1_lift ml_RX6_39 im_yX1_lift se_yX1_lift ini_RX1 cd_yX1_lift ⟨rfl, rfl⟩ ⟨Nat.le_of_ble_eq_true rfl, Nat.le_of_ble_eq_true rfl⟩ rfl rfl (Nat.le_of_ble_eq_true rfl) ⟨Nat.zero_le _, Nat.zero_le _⟩ dX6_says_182 (fun r u H locs hp hW _ _ => ?_)
                      obtain ⟨rfl, rfl⟩ := hp
                      refine lv_iload hx hb dX6_says_185 (lv_at hl 0 rfl) ?_
                      refine gw_callP (As := [.int (τ t 0 i), .int ((upR ρ' 6 1 (nI (x0 + 1))) 7 x0), .int v_10]) (rest := [.ref (ad 6)]) F hl.1 (kX6_joined) pd_yX6_joined ml_RX6_43 st_yX6_joined ini_RX6 cd_yX6_joined ⟨rfl, rfl⟩ ⟨Nat.le_of_ble_eq_true rfl, Nat.le_of_ble_eq_true rfl⟩ rfl rfl (Nat.le_of_ble_eq_true rfl) ⟨Nat.zero_le _, Nat.zero_le _⟩ dX6_says_187 ?_
                      refine gw_callVv (As := [.int (joinS (τ t 0 i) ((upR ρ' 6 1 (nI (x0 + 1))) 7 x0) v_10)]) (rest := []) F hl.1 hW (fun _ _ hw => va_Nw.warmM hw hE) XE_E (by omega) xe_6 rfl (kX1_lay (h := x0) rfl (by omega)) pd_yX1_lay ml_RX6_31 im_yX1_lay se_yX1_lay ini_RX1 cd_yX1_lay ⟨rfl, rfl⟩ ⟨Nat.le_of_ble_eq_true rfl, Nat.le_of_ble_eq_true rfl⟩ rfl rfl (Nat.le_of_ble_eq_true rfl) ⟨Nat.zero_le _, Nat.zero_le _⟩ dX6_says_190 (fun u H locs hp hW _ _ => ?_)
                      subst hp
                      refine lv_iinc (v := nI (i + 1)) (lv' := [(4, .int (nI (i + 1))), (6, .int v_10), (5, .int (τ t 0 i)), (0, .ref (ad (42 + 3 * t))), (1, .int (nI pt)), (2, .ref (ad (9 + 8 * b + 1 + 1 + q))), (3, .int mn)]) hx hb dX6_says_193 hl (k := 6) rfl (nI_1 i) (by decide) rfl (fun ls hl => ?_)
                      refine lv_goto (tgt := 33) hx hb dX6_says_196 (by decide) ?_
                      exact ih33 (i + 1) (x0 + 1) _ (by omega) (by omega) (by omega) (rfl) (hr2) (by subst ev_10; rw [show pileL _ _ = stepS (TT b q) mn (pileL ρ' (x0 + 1 + 1)) (τ t 0 i) from by rw [pileL_lay]; rw [pileL_6, pileL_6, stepS_join c_7 c_8 c_9]; rfl]; exact hv) _ _ _ hW (lv_sub hl [3, 4, 5, 6, 0] rfl)
                    ·
                      obtain ⟨hk1, hr2⟩ := runD_un hr c_7 (Or.inr c_9); obtain ⟨x0, rfl⟩ : ∃ x, h = x + 1 := ⟨h - 1, by omega⟩
                      refine lv_aload_n hx hb dX6_says_145 rfl (lv_at hl 1 rfl) ?_
                      refine xr_X (t := t) F hW (by omega) 3 (by decide) rfl fl_RX6_22 dX6_says_146 ?_
                      refine lv_aload_n hx hb dX6_says_149 rfl (lv_at hl 1 rfl) ?_
                      refine xr_X (t := t) F hW (by omega) 3 (by decide) rfl fl_RX6_22 dX6_says_150 ?_
                      refine gw_callVi (As := []) (rest := [.ref (ad 6)]) F hl.1 hW (fun _ _ hw => va_Nw.warmM hw hE) XE_E (by omega) xe_6 rfl (kX1_lift (h := x0) h4 (by omega)) pd_yX1_lift ml_RX6_39 im_yX1_lift se_yX1_lift ini_RX1 cd_yX1_lift ⟨rfl, rfl⟩ ⟨Nat.le_of_ble_eq_true rfl, Nat.le_of_ble_eq_true rfl⟩ rfl rfl (Nat.le_of_ble_eq_true rfl) ⟨Nat.zero_le _, Nat.zero_le _⟩ dX6_says_153 (fun r u H locs hp hW _ _ => ?_)
                      obtain ⟨rfl, rfl⟩ := hp
                      refine lv_ineg hx hb dX6_says_156 ?_
                      refine gw_callVv (As := [.int (-(ρ' 7 x0))]) (rest := []) F hl.1 hW (fun _ _ hw => va_Nw.warmM hw hE) XE_E (by omega) xe_6 rfl (kX1_lay (h := x0) rfl (by omega)) pd_yX1_lay ml_RX6_31 im_yX1_lay se_yX1_lay ini_RX1 cd_yX1_lay ⟨rfl, rfl⟩ ⟨Nat.le_of_ble_eq_true rfl, Nat.le_of_ble_eq_true rfl⟩ rfl rfl (Nat.le_of_ble_eq_true rfl) ⟨Nat.zero_le _, Nat.zero_le _⟩ dX6_says_157 (fun u H locs hp hW _ _ => ?_)
                      subst hp
                      refine lv_goto (tgt := 193) hx hb dX6_says_160 (by decide) ?_
                      refine lv_iinc (v := nI (i + 1)) (lv' := [(4, .int (nI (i + 1))), (5, .int (τ t 0 i)), (0, .ref (ad (42 + 3 * t))), (1, .int (nI pt)), (2, .ref (ad (9 + 8 * b + 1 + 1 + q))), (3, .int mn)]) hx hb dX6_says_193 hl (k := 5) rfl (nI_1 i) (by decide) rfl (fun ls hl => ?_)
                      refine lv_goto (tgt := 33) hx hb dX6_says_196 (by decide) ?_
                      exact ih33 (i + 1) (x0 + 1) _ (by omega) (by omega) (by omega) (rfl) (hr2) (by rw [show pileL _ _ = stepS (TT b q) mn (pileL ρ' (x0 + 1)) (τ t 0 i) from by rw [pileL_lay]; rw [pileL_6, stepS_turn c_7 c_9]; rfl]; exact hv) _ _ _ hW (lv_sub hl [2, 3, 4, 5, 0] rfl)
                  ·
                    obtain ⟨hk1, hr2⟩ := runD_un hr c_7 (Or.inl c_8); obtain ⟨x0, rfl⟩ : ∃ x, h = x + 1 := ⟨h - 1, by omega⟩
                    refine lv_aload_n hx hb dX6_says_113 rfl (lv_at hl 1 rfl) ?_
                    refine xr_X (t := t) F hW (by omega) 3 (by decide) rfl fl_RX6_22 dX6_says_114 ?_
                    refine lv_aload_n hx hb dX6_says_117 rfl (lv_at hl 1 rfl) ?_
                    refine xr_X (t := t) F hW (by omega) 3 (by decide) rfl fl_RX6_22 dX6_says_118 ?_
                    refine gw_callVi (As := []) (rest := [.ref (ad 6)]) F hl.1 hW (fun _ _ hw => va_Nw.warmM hw hE) XE_E (by omega) xe_6 rfl (kX1_lift (h := x0) h4 (by omega)) pd_yX1_lift ml_RX6_39 im_yX1_lift se_yX1_lift ini_RX1 cd_yX1_lift ⟨rfl, rfl⟩ ⟨Nat.le_of_ble_eq_true rfl, Nat.le_of_ble_eq_true rfl⟩ rfl rfl (Nat.le_of_ble_eq_true rfl) ⟨Nat.zero_le _, Nat.zero_le _⟩ dX6_says_121 (fun r u H locs hp hW _ _ => ?_)
                    obtain ⟨rfl, rfl⟩ := hp
                    refine lv_if_ne (tgt := 131) hx hb dX6_says_124 (by decide) (fun c_11 => ?_) (fun c_11 => ?_)
                    ·
                      refine lv_iconst (v := 0) hx hb dX6_says_131 (by decide) ?_
                      refine gw_callVv (As := [.int 0]) (rest := []) F hl.1 hW (fun _ _ hw => va_Nw.warmM hw hE) XE_E (by omega) xe_6 rfl (kX1_lay (h := x0) rfl (by omega)) pd_yX1_lay ml_RX6_31 im_yX1_lay se_yX1_lay ini_RX1 cd_yX1_lay ⟨rfl, rfl⟩ ⟨Nat.le_of_ble_eq_true rfl, Nat.le_of_ble_eq_true rfl⟩ rfl rfl (Nat.le_of_ble_eq_true rfl) ⟨Nat.zero_le _, Nat.zero_le _⟩ dX6_says_132 (fun u H locs hp hW _ _ => ?_)
                      subst hp
                      refine lv_goto (tgt := 193) hx hb dX6_says_135 (by decide) ?_
                      refine lv_iinc (v := nI (i + 1)) (lv' := [(4, .int (nI (i + 1))), (5, .int (τ t 0 i)), (0, .ref (ad (42 + 3 * t))), (1, .int (nI pt)), (2, .ref (ad (9 + 8 * b + 1 + 1 + q))), (3, .int mn)]) hx hb dX6_says_193 hl (k := 5) rfl (nI_1 i) (by decide) rfl (fun ls hl => ?_)
                      refine lv_goto (tgt := 33) hx hb dX6_says_196 (by decide) ?_
                      exact ih33 (i + 1) (x0 + 1) _ (by omega) (by omega) (by omega) (rfl) (hr2) (by rw [show pileL _ _ = stepS (TT b q) mn (pileL ρ' (x0 + 1)) (τ t 0 i) from by rw [pileL_lay]; rw [pileL_6, stepS_not c_7 c_8]; show _ = (if ρ' 7 x0 = 0 then 1 else 0) :: pileL ρ' x0; rw [if_neg c_11]]; exact hv) _ _ _ hW (lv_sub hl [2, 3, 4, 5, 0] rfl)
                    ·
                      refine lv_iconst (v := 1) hx hb dX6_says_127 (by decide) ?_
                      refine lv_goto (tgt := 132) hx hb dX6_says_128 (by decide) ?_
                      refine gw_callVv (As := [.int 1]) (rest := []) F hl.1 hW (fun _ _ hw => va_Nw.warmM hw hE) XE_E (by omega) xe_6 rfl (kX1_lay (h := x0) rfl (by omega)) pd_yX1_lay ml_RX6_31 im_yX1_lay se_yX1_lay ini_RX1 cd_yX1_lay ⟨rfl, rfl⟩ ⟨Nat.le_of_ble_eq_true rfl, Nat.le_of_ble_eq_true rfl⟩ rfl rfl (Nat.le_of_ble_eq_true rfl) ⟨Nat.zero_le _, Nat.zero_le _⟩ dX6_says_132 (fun u H locs hp hW _ _ => ?_)
                      subst hp
                      refine lv_goto (tgt := 193) hx hb dX6_says_135 (by decide) ?_
                      refine lv_iinc (v := nI (i + 1)) (lv' := [(4, .int (nI (i + 1))), (5, .int (τ t 0 i)), (0, .ref (ad (42 + 3 * t))), (1, .int (nI pt)), (2, .ref (ad (9 + 8 * b + 1 + 1 + q))), (3, .int mn)]) hx hb dX6_says_193 hl (k := 5) rfl (nI_1 i) (by decide) rfl (fun ls hl => ?_)
                      refine lv_goto (tgt := 33) hx hb dX6_says_196 (by decide) ?_
                      exact ih33 (i + 1) (x0 + 1) _ (by omega) (by omega) (by omega) (rfl) (hr2) (by rw [show pileL _ _ = stepS (TT b q) mn (pileL ρ' (x0 + 1)) (τ t 0 i) from by rw [pileL_lay]; rw [pileL_6, stepS_not c_7 c_8]; show _ = (if ρ' 7 x0 = 0 then 1 else 0) :: pileL ρ' x0; rw [if_pos c_11]]; exact hv) _ _ _ hW (lv_sub hl [2, 3, 4, 5, 0] rfl)
                ·
                  obtain ⟨hk60, hr2⟩ := runD_push hr c_7
                  refine lv_aload_n hx hb dX6_says_89 rfl (lv_at hl 1 rfl) ?_
                  refine xr_X (t := t) F hW (by omega) 3 (by decide) rfl fl_RX6_22 dX6_says_90 ?_
                  refine lv_iload hx hb dX6_says_93 (lv_at hl 0 rfl) ?_
                  refine lv_aload_n hx hb dX6_says_95 rfl (lv_at hl 3 rfl) ?_
                  refine lv_iload_n hx hb dX6_says_96 rfl (lv_at hl 4 rfl) ?_
                  refine gw_callSi (As := [.int (τ t 0 i), .ref (ad (9 + 8 * b + 1 + 1 + q)), .int mn]) (rest := [.ref (ad 6)]) F hl.1 hW (fun _ _ hw => va_Nw.warmM hw hE) XE_E (kX6_named (b := b) (q := q) (by omega) (by omega) hw) pd_yX6_named ml_RX6_35 st_yX6_named ini_RX6 cd_yX6_named ⟨rfl, rfl⟩ ⟨Nat.le_of_ble_eq_true rfl, Nat.le_of_ble_eq_true rfl⟩ rfl rfl (Nat.le_of_ble_eq_true rfl) ⟨Nat.zero_le _, Nat.zero_le _⟩ dX6_says_97 (fun r u H locs hp hW _ _ => ?_)
                  subst hp
                  refine gw_callVv (As := [.int (nameS (TT b q) mn (τ t 0 i))]) (rest := []) F hl.1 hW (fun _ _ hw => va_Nw.warmM hw hE) XE_E (by omega) xe_6 rfl (kX1_lay (h := h) h4 (by omega)) pd_yX1_lay ml_RX6_31 im_yX1_lay se_yX1_lay ini_RX1 cd_yX1_lay ⟨rfl, rfl⟩ ⟨Nat.le_of_ble_eq_true rfl, Nat.le_of_ble_eq_true rfl⟩ rfl rfl (Nat.le_of_ble_eq_true rfl) ⟨Nat.zero_le _, Nat.zero_le _⟩ dX6_says_100 (fun u H locs hp hW _ _ => ?_)
                  subst hp
                  refine lv_goto (tgt := 193) hx hb dX6_says_103 (by decide) ?_
                  refine lv_iinc (v := nI (i + 1)) (lv' := [(4, .int (nI (i + 1))), (5, .int (τ t 0 i)), (0, .ref (ad (42 + 3 * t))), (1, .int (nI pt)), (2, .ref (ad (9 + 8 * b + 1 + 1 + q))), (3, .int mn)]) hx hb dX6_says_193 hl (k := 5) rfl (nI_1 i) (by decide) rfl (fun ls hl => ?_)
                  refine lv_goto (tgt := 33) hx hb dX6_says_196 (by decide) ?_
                  exact ih33 (i + 1) (h + 1) _ (by omega) (by omega) (by omega) (rfl) (hr2) (by rw [show pileL _ _ = stepS (TT b q) mn (pileL ρ' h) (τ t 0 i) from by rw [pileL_lay]; rw [stepS_name c_6 c_7]]; exact hv) _ _ _ hW (lv_sub hl [2, 3, 4, 5, 0] rfl)
              ·
                obtain ⟨hk60, hr2⟩ := runD_push hr (fun z => c_6 (Int32.lt_trans z (by decide)))
                refine lv_aload_n hx hb dX6_says_70 rfl (lv_at hl 1 rfl) ?_
                refine xr_X (t := t) F hW (by omega) 3 (by decide) rfl fl_RX6_22 dX6_says_71 ?_
                refine lv_iload hx hb dX6_says_74 (lv_at hl 0 rfl) ?_
                refine gw_callVv (As := [.int (τ t 0 i)]) (rest := []) F hl.1 hW (fun _ _ hw => va_Nw.warmM hw hE) XE_E (by omega) xe_6 rfl (kX1_lay (h := h) h4 (by omega)) pd_yX1_lay ml_RX6_31 im_yX1_lay se_yX1_lay ini_RX1 cd_yX1_lay ⟨rfl, rfl⟩ ⟨Nat.le_of_ble_eq_true rfl, Nat.le_of_ble_eq_true rfl⟩ rfl rfl (Nat.le_of_ble_eq_true rfl) ⟨Nat.zero_le _, Nat.zero_le _⟩ dX6_says_76 (fun u H locs hp hW _ _ => ?_)
                subst hp
                refine lv_goto (tgt := 193) hx hb dX6_says_79 (by decide) ?_
                refine lv_iinc (v := nI (i + 1)) (lv' := [(4, .int (nI (i + 1))), (5, .int (τ t 0 i)), (0, .ref (ad (42 + 3 * t))), (1, .int (nI pt)), (2, .ref (ad (9 + 8 * b + 1 + 1 + q))), (3, .int mn)]) hx hb dX6_says_193 hl (k := 5) rfl (nI_1 i) (by decide) rfl (fun ls hl => ?_)
                refine lv_goto (tgt := 33) hx hb dX6_says_196 (by decide) ?_
                exact ih33 (i + 1) (h + 1) _ (by omega) (by omega) (by omega) (rfl) (hr2) (by rw [show pileL _ _ = stepS (TT b q) mn (pileL ρ' h) (τ t 0 i) from by rw [pileL_lay]; rw [stepS_num c_6]]; exact hv) _ _ _ hW (lv_sub hl [2, 3, 4, 5, 0] rfl)
      exact L33 (e0 + 1) i0 0 _ (hm) (by omega) (by omega) (rfl) (hd0) (hRES) _ _ _ hW (lv_sub hl [1, 2, 3, 4, 0] rfl)
    ·
      exact absurd (by rw [nI_1]; exact nI_lt (a := pt + 1) (b := 4) (by omega) (by decide)) c_2
