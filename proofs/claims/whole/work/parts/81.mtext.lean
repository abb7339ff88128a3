/-! ===== the reference's text() ===== -/
def WTx (n : Nat) (σ u : Nat → Nat → Int32) : Prop := (∀ j, j < 200 * n → u 5 j = σ 5 j) ∧ (∀ j, j < 4 * n → u 6 j = σ 6 j) ∧ (∀ k, (k < 18 ∨ 21 < k) → (k < 24 ∨ 26 < k) → u 0 k = σ 0 k) ∧ ∀ o, o ≠ 0 → o ≠ 5 → o ≠ 6 → o ≠ 14 → u o = σ o
section TX
variable {β : Nat → Int32} {n z k : Nat} {m0 : Int32} {σ u v : Nat → Nat → Int32} {x y : Rs}
theorem wtx_e (h : WTx n σ u) (h' : WFe n u v) : WTx n σ v := ⟨fun j hj => (h'.1 j hj).trans (h.1 j hj), fun j hj => (congrFun (h'.2.2 6 (by decide) (by decide) (by decide)) j).trans (h.2.1 j hj), fun k a b => (h'.2.1 k a b).trans (h.2.2.1 k a b), fun o a b c d => (h'.2.2 o a b d).trans (h.2.2.2 o a b c d)⟩
theorem wtx_6 {i : Nat} {w : Int32} (h : WTx n σ u) (hi : 4 * n ≤ i) : WTx n σ (upR u 6 i w) := ⟨fun j hj => by rw [up_ne2 (by decide)]; exact h.1 j hj, fun j hj => by rw [upR_self, pk_un (by omega)]; exact h.2.1 j hj, fun k a b => by rw [up_ne2 (by decide)]; exact h.2.2.1 k a b, fun o a b c d => by rw [up_ne2 c]; exact h.2.2.2 o a b c d⟩
theorem wtx_0 : WTx n σ (upR (upR σ 0 18 0) 0 26 0) := ⟨fun j hj => by rw [up_ne2 (by decide), up_ne2 (by decide)], fun j hj => by rw [up_ne2 (by decide), up_ne2 (by decide)], fun k a b => by rw [upR_self, pk_un (by omega), upR_self, pk_un (by omega)], fun o a b c d => by rw [up_ne2 a, up_ne2 a]⟩
def TxI (β : Nat → Int32) (n z : Nat) (m0 : Int32) (σ : Nat → Nat → Int32) (k : Nat) (g : Bool) (y : Rs) (u : Nat → Nat → Int32) : Prop := WTx n σ u ∧ (thR β z m0 k).1 = g ∧ (g = false → u 0 19 = nI (thR β z m0 k).2.2.2.1) ∧ (g = true → nxR β z y = (thR β z m0 k).2 ∧ OuO n u y.2.2.2.2 ∧ u 0 18 = nI y.1 ∧ y.1 ≤ z ∧ y.2.2.2.2.length ≤ y.1 ∧ ∀ i, i < k → u 6 (4 * n + i) = stR β z m0 i)
def TxS (β : Nat → Int32) (n z : Nat) (m0 : Int32) (σ : Nat → Nat → Int32) (q : Nat) (x : Rs) (u : Nat → Nat → Int32) : Prop := WTx n σ u ∧ u 0 18 = nI x.1 ∧ u 0 19 = nI x.2.2.1 ∧ OuO n u x.2.2.2.2 ∧ ∀ i, i < q → u 6 (4 * n + i) = stR β z m0 i
theorem txi_0 : TxI β n z m0 σ 0 true (0, 0, 0, m0, []) (upR (upR σ 0 18 0) 0 26 0) := ⟨wtx_0, rfl, fun q => ft q.symm, fun _ => ⟨rfl, ⟨by rw [upR_self]; exact pk_us, fun j hj => absurd hj (Nat.not_lt_zero j)⟩, by rw [upR_self, pk_un (by decide), upR_self]; exact pk_us, Nat.zero_le _, Nat.le_refl _, fun i hi => absurd hi (Nat.not_lt_zero i)⟩⟩
theorem txs_nx {t w : Int32} (h : TxI β n z m0 σ k true y u) : TxS β n z m0 σ k (thR β z m0 k).2 (nmS u (nI (thR β z m0 k).2.1) (nI (thR β z m0 k).2.2.2.1) t w) := by
  obtain ⟨h1, _, _, h2⟩ := h
  obtain ⟨a1, a2, a3, a4, a5, a6⟩ := h2 rfl
  rw [← a1]
  exact ⟨wtx_e h1 wfe_nm, rfl, rfl, ou_f a2 (nm_k (by omega)) (nm_ne (by decide)), fun i hi => by rw [nm_ne (by decide)]; exact a6 i hi⟩
theorem txs_st {w : Int32} (h : TxS β n z m0 σ k (thR β z m0 k).2 u) (hw : w = nI (thR β z m0 k).2.2.2.2.2.length) : TxS β n z m0 σ (k + 1) (thR β z m0 k).2 (upR u 6 (4 * n + k) w) := by
  obtain ⟨a1, a2, a3, a4, a5⟩ := h
  refine ⟨wtx_6 a1 (by omega), by rw [up_ne2 (by decide)]; exact a2, by rw [up_ne2 (by decide)]; exact a3, ou_f a4 (by rw [up_ne2 (by decide)]) (up_ne2 (by decide)), fun i hi => ?_⟩
  rw [upR_self]
  by_cases e : i = k
  · subst e; rw [pk_us]; exact hw
  · rw [pk_un (by omega)]; exact a5 i (by omega)
theorem part_no {key : Int32} (h : ¬ x.2.1 = key) : partR β z key x = (false, x) := by
  have t1 : tokR β z key x = (false, x) := if_neg h
  rw [part_0 (by rw [t1]), t1]
theorem part_yes {key : Int32} (h : x.2.1 = key) (h1 : (orR β z (loR β z 5) (nxR β z x)).1 = true) (h2 : (orR β z (loR β z 5) (nxR β z x)).2.2.1 = 59) : partR β z key x = (true, nxR β z (orR β z (loR β z 5) (nxR β z x)).2) := by
  have t1 : tokR β z key x = (true, nxR β z x) := if_pos h
  rw [part_2 (by rw [t1]) (by rw [t1]; exact h1), t1]
  exact if_pos h2
theorem part_bad {key : Int32} (h : x.2.1 = key) (h1 : ¬ ((orR β z (loR β z 5) (nxR β z x)).1 = true ∧ (orR β z (loR β z 5) (nxR β z x)).2.2.1 = 59)) : (partR β z key x).1 = false ∧ (partR β z key x).2.2.2.1 = (orR β z (loR β z 5) (nxR β z x)).2.2.2.1 := by
  have t1 : tokR β z key x = (true, nxR β z x) := if_pos h
  cases hor : (orR β z (loR β z 5) (nxR β z x)).1 with
  | false =>
    rw [part_1 (by rw [t1]) (by rw [t1]; exact hor), t1]
    exact ⟨hor, rfl⟩
  | true =>
    rw [part_2 (by rw [t1]) (by rw [t1]; exact hor), t1]
    have t2 : tokR β z 59 (orR β z (loR β z 5) (nxR β z x)).2 = (false, (orR β z (loR β z 5) (nxR β z x)).2) := if_neg (fun q => h1 ⟨hor, q⟩)
    show (tokR β z 59 (orR β z (loR β z 5) (nxR β z x)).2).1 = false ∧ (tokR β z 59 (orR β z (loR β z 5) (nxR β z x)).2).2.2.2.1 = _
    rw [t2]; exact ⟨rfl, rfl⟩
theorem or_len (hz1 : z ≤ 160) (hx : okL β z x) (hln : x.2.2.2.2.length ≤ x.2.2.1) (h0 : ¬ x.2.1 = 0) (h1 : (orR β z (loR β z 5) (nxR β z x)).1 = true) : (orR β z (loR β z 5) (nxR β z x)).2.1 ≤ z ∧ (orR β z (loR β z 5) (nxR β z x)).2.2.2.2.2.length ≤ (orR β z (loR β z 5) (nxR β z x)).2.1 := by
  have hm := mo_or (mo_lo β z 5)
  obtain ⟨w1, w2, w3, E, e1, e2, e3, e4⟩ := wr_nx (wr_all β hz1 5).2.2 hm hx hln h0 h1
  have hk := okL_at (mo_nx hm hx).1
  refine ⟨hk.2, ?_⟩
  rw [e1, List.length_append]; omega
theorem txi_no (h : TxS β n z m0 σ (k + 1) (thR β z m0 k).2 u) (hg : (thR β z m0 k).1 = true) (hn : ¬ (thR β z m0 k).2.2.1 = -(nI (k + 10))) : TxI β n z m0 σ (k + 1) false y u := by
  have e : thR β z m0 (k + 1) = (false, (thR β z m0 k).2) := (th_y hg).trans (part_no hn)
  exact ⟨h.1, by rw [e], fun _ => by rw [e]; exact h.2.2.1, fun q => ft q⟩
theorem tok_ne {k : Nat} (hk : k < 3) {t : Int32} (h : t = -(nI (k + 10))) : ¬ t = 0 := fun q => key_0 k hk (h.symm.trans q)
theorem txi_er {R : Bool × Rs} {r : Int32} (h : TxS β n z m0 σ (k + 1) (thR β z m0 k).2 u) (hg : (thR β z m0 k).1 = true) (hn : (thR β z m0 k).2.2.1 = -(nI (k + 10))) (hR : R = (((orR β z (loR β z 5) (nxR β z (thR β z m0 k).2)).1 && decide ((orR β z (loR β z 5) (nxR β z (thR β z m0 k).2)).2.2.1 = 59)), x)) (hx : x.2.2.1 = (orR β z (loR β z 5) (nxR β z (thR β z m0 k).2)).2.2.2.1) (hP : EPost n u R r v) (hr : r = 0) : TxI β n z m0 σ (k + 1) false y v := by
  obtain ⟨p1, p2, p3, p4⟩ := hP
  have hf : R.1 = false := bI_0 (p1.symm.trans hr)
  have hc : ¬ ((orR β z (loR β z 5) (nxR β z (thR β z m0 k).2)).1 = true ∧ (orR β z (loR β z 5) (nxR β z (thR β z m0 k).2)).2.2.1 = 59) := fun q => by
    rw [hR] at hf
    have hf : ((orR β z (loR β z 5) (nxR β z (thR β z m0 k).2)).1 && decide ((orR β z (loR β z 5) (nxR β z (thR β z m0 k).2)).2.2.1 = 59)) = false := hf
    rw [q.1, decide_eq_true q.2] at hf
    exact absurd hf (by decide)
  obtain ⟨b1, b2⟩ := part_bad hn hc
  rw [← th_y hg] at b1 b2
  refine ⟨wtx_e h.1 p2, b1, fun _ => ?_, fun q => ft q⟩
  rw [p3, b2, hR, ← hx]
theorem txi_ok {R : Bool × Rs} {r : Int32} (hz1 : z ≤ 160) (hk : k < 3) (h : TxS β n z m0 σ (k + 1) (thR β z m0 k).2 u) (hg : (thR β z m0 k).1 = true) (hn : (thR β z m0 k).2.2.1 = -(nI (k + 10))) (hR : R = (((orR β z (loR β z 5) (nxR β z (thR β z m0 k).2)).1 && decide ((orR β z (loR β z 5) (nxR β z (thR β z m0 k).2)).2.2.1 = 59)), x)) (hx : (orR β z (loR β z 5) (nxR β z (thR β z m0 k).2)).1 = true → (orR β z (loR β z 5) (nxR β z (thR β z m0 k).2)).2.2.1 = 59 → x = (orR β z (loR β z 5) (nxR β z (thR β z m0 k).2)).2) (hP : EPost n u R r v) (hr : ¬ r = 0) : TxI β n z m0 σ (k + 1) true x v := by
  obtain ⟨p1, p2, p3, p4⟩ := hP
  have hf : R.1 = true := bI_1 (fun q => hr (p1.trans q))
  obtain ⟨p5, p6⟩ := p4 hf
  rw [hR] at hf p5 p6
  have hf : ((orR β z (loR β z 5) (nxR β z (thR β z m0 k).2)).1 && decide ((orR β z (loR β z 5) (nxR β z (thR β z m0 k).2)).2.2.1 = 59)) = true := hf
  rw [Bool.and_eq_true] at hf
  have h59 := of_decide_eq_true hf.2
  have hx := hx hf.1 h59
  have e := (th_y hg).trans (part_yes hn hf.1 h59)
  obtain ⟨t1, t2, _⟩ := th_parts hz1 m0 k (by omega) hg
  have hl := or_len hz1 t1 t2 (tok_ne hk hn) hf.1
  rw [← hx] at hl e
  refine ⟨wtx_e h.1 p2, by rw [e], fun q => ft q.symm, fun _ => ⟨by rw [e], p5, p6, hl.1, hl.2, fun i hi => ?_⟩⟩
  rw [p2.2.2 6 (by decide) (by decide) (by decide)]; exact h.2.2.2.2 i hi
theorem th_stop (hg : (thR β z m0 k).1 = false) : ∀ j, thR β z m0 (k + j) = thR β z m0 k
  | 0 => rfl
  | j + 1 => by
    have ih := th_stop hg j
    show thR β z m0 (k + j + 1) = _
    rw [th_n (by rw [ih]; exact hg), ih]
theorem th_stop3 (hk : k ≤ 3) (hg : (thR β z m0 k).1 = false) : thR β z m0 3 = thR β z m0 k := by
  obtain ⟨j, hj⟩ : ∃ j, 3 = k + j := ⟨3 - k, by omega⟩
  rw [hj]; exact th_stop hg j
/-- what text() leaves -/
def TxF (n : Nat) (σ u : Nat → Nat → Int32) : Prop := u 0 6 = 0 ∧ (∀ k, k ≠ 6 → k ≠ 9 → (k < 18 ∨ 21 < k) → (k < 24 ∨ 26 < k) → u 0 k = σ 0 k) ∧ (∀ j, j < 200 * n → u 5 j = σ 5 j) ∧ (∀ j, j < 4 * n → u 6 j = σ 6 j) ∧ ∀ o, o ≠ 0 → o ≠ 5 → o ≠ 6 → o ≠ 14 → u o = σ o
def TxP (β : Nat → Int32) (n z : Nat) (m0 : Int32) (σ : Nat → Nat → Int32) (r : Int32) (u : Nat → Nat → Int32) : Prop :=
  (6 ≤ n ∧ r = -4 ∧ u = σ) ∨ (n < 6 ∧ ¬ fauP β z m0 = -1 ∧ r = -100 - fauP β z m0 ∧ u 0 9 = nI n ∧ TxF n σ u) ∨ (n < 6 ∧ fauP β z m0 = -1 ∧ r = nI n ∧ u 0 9 = nI (n + 1) ∧ TxF n σ u ∧ (∀ j, j < (thR β z m0 3).2.2.2.2.2.length → u 5 (200 * n + j) = encM ((thR β z m0 3).2.2.2.2.2.getD j 0)) ∧ ∀ k, k < 4 → u 6 (4 * n + k) = stR β z m0 k)
theorem txf_of {i : Nat} {w : Int32} (h : WTx n σ u) (hi : 4 * n ≤ i) : TxF n σ (upR (upR u 6 i w) 0 6 0) := by
  have h2 := wtx_6 (w := w) h hi
  refine ⟨by rw [upR_self]; exact pk_us, fun k a b c d => by rw [upR_self, pk_un a]; exact h2.2.2.1 k c d, fun j hj => by rw [up_ne2 (by decide)]; exact h2.1 j hj, fun j hj => by rw [up_ne2 (by decide)]; exact h2.2.1 j hj, fun o a b c d => by rw [up_ne2 a]; exact h2.2.2.2 o a b c d⟩
theorem fau_neg (hz1 : z ≤ 160) {b : Nat} (hb : b ≤ z) : ¬ nI b = -1 := fun q => nI_pos (n := b) (by omega) (by rw [q]; decide)
theorem txp_bad {i b : Nat} {w r : Int32} (hz1 : z ≤ 160) (hn : n < 6) (hnn : σ 0 9 = nI n) (h : WTx n σ u) (hi : 4 * n ≤ i) (hf : fauP β z m0 = nI b) (hb : b ≤ z) (hr : r = -100 - nI b) : TxP β n z m0 σ r (upR (upR u 6 i w) 0 6 0) :=
  Or.inr (Or.inl ⟨hn, by rw [hf]; exact fau_neg hz1 hb, by rw [hf]; exact hr, by rw [upR_self, pk_un (by decide), up_ne2 (by decide), h.2.2.1 9 (by omega) (by omega)]; exact hnn, txf_of h hi⟩)
theorem txp_good {w : Int32} (hn : n < 6) (h : TxS β n z m0 σ 3 (thR β z m0 3).2 u) (hf : fauP β z m0 = -1) (hw : w = nI (thR β z m0 3).2.2.2.2.2.length) : TxP β n z m0 σ (nI n) (upR (upR (upR u 6 (4 * n + 3) w) 0 6 0) 0 9 (nI (n + 1))) := by
  obtain ⟨a1, a2, a3, a4, a5⟩ := h
  have hF := txf_of (i := 4 * n + 3) (w := w) a1 (by omega)
  refine Or.inr (Or.inr ⟨hn, hf, rfl, by rw [upR_self]; exact pk_us, ⟨?_, fun k a b c d => ?_, fun j hj => ?_, fun j hj => ?_, fun o a b c d => ?_⟩, fun j hj => ?_, fun k hk => ?_⟩)
  · rw [upR_self, pk_un (by decide)]; exact hF.1
  · rw [upR_self, pk_un b]; exact hF.2.1 k a b c d
  · rw [up_ne2 (by decide)]; exact hF.2.2.1 j hj
  · rw [up_ne2 (by decide)]; exact hF.2.2.2.1 j hj
  · rw [up_ne2 a]; exact hF.2.2.2.2 o a b c d
  · rw [up_ne2 (by decide), up_ne2 (by decide), up_ne2 (by decide)]; exact a4.2 j hj
  · rw [up_ne2 (by decide), up_ne2 (by decide), upR_self]
    by_cases e : k = 3
    · subst e; rw [pk_us]; exact hw
    · rw [pk_un (by omega)]; exact a5 k (by omega)
theorem tk_key {t nb w : Int32} (htk : tkOK t) (hv : vOK t nb w) {i : Nat} (hi : i < 3) : (tkM t = 3 ∧ w = nI i) ↔ t = -(nI (i + 10)) := by
  have k3 : ∀ i, i < 3 → tkM (-(nI (i + 10))) = 3 := by decide +kernel
  refine ⟨fun ⟨h1, h2⟩ => ?_, fun h => ⟨by rw [h]; exact k3 i hi, hv.2.2 i hi h⟩⟩
  have hk := (tk_iff htk).2.2.2.2.2.2.2.2.mp h1
  have hj : ∃ j, j < 3 ∧ t = -(nI (j + 10)) := by
    rcases hk with e | e | e
    · exact ⟨0, by decide, e.trans (by decide)⟩
    · exact ⟨1, by decide, e.trans (by decide)⟩
    · exact ⟨2, by decide, e.trans (by decide)⟩
  obtain ⟨j, hj3, e⟩ := hj
  have hw := hv.2.2 j hj3 e
  have : i = j := nI_i (by omega) (by omega) (h2.symm.trans hw)
  rw [this]; exact e
end TX
abbrev rm_yX8_text : Room := { frames := 4, cells := 0, slots := 0, locals := 87 }
set_option maxHeartbeats 800000 in
set_option maxRecDepth 100000 in
theorem kX8_text {l : Launch} {D : va_G} {cA : ClassId} {ad : Nat → Nat} {ρ T σ : Nat → Nat → Int32} {sz : Nat} {β : Nat → Int32} {n z : Nat} {m0 : Int32} (hnn : σ 0 9 = nI n) (hn6 : n ≤ 6) (hz : σ 0 6 = nI z) (hz1 : z ≤ 160) (hβ : ∀ j, j < z → β j = σ 4 j) (hwd : ∀ i q, i < 12 → q < 8 → σ 13 (8 * i + q) = wdW i q) : MMi l yX8_text cX8_text 3 FieldType.int rm_yX8_text [.ref (ad 0)] D cA ad ρ T σ sz (fun (r : Int32) (u : Nat → Nat → Int32) => TxP β n z m0 σ r u) (fun u : Nat → Nat → Int32 => ment ad cA ρ T u) := by
  refine gw_stI (Ff := fun u : Nat → Nat → Int32 => ment ad cA ρ T u) (own := RX8) (by decide +kernel) rfl (Nat.le_of_ble_eq_true rfl) ?_
  intro p e s m ar below meth c A Q F hE hsz hW hret ls hl
  obtain ⟨hx, hb, hml, hown, hts⟩ := id F
  have hl : lv_has ls 3 [(0, .ref (ad 0))] := hl
  refine lv_aload_n hx hb dX8_text_0 rfl (lv_at hl 0 rfl) ?_
  refine mr_f F hW 9 (by decide) rfl fl_RX8_86 dX8_text_1 ?_
  refine lv_as (z := nI n) (hnn) ?_
  refine lv_bipush (v := 6) hx hb dX8_text_4 (by decide) ?_
  refine lv_icmp_ne (tgt := 12) hx hb dX8_text_6 (by decide) (fun c_1 => ?_) (fun c_1 => ?_)
  ·
    have hn : n < 6 := Nat.lt_of_le_of_ne hn6 (fun q => c_1 (by rw [q]; rfl))
    refine lv_aload_n hx hb dX8_text_12 rfl (lv_at hl 0 rfl) ?_
    refine lv_iconst (v := 0) hx hb dX8_text_13 (by decide) ?_
    refine mw_σ F hW 18 (by decide) fl_RX8_96 rfl (ty := .int) rfl rfl rfl rfl dX8_text_14 (fun H locs hW => ?_)
    refine lv_aload_n hx hb dX8_text_17 rfl (lv_at hl 0 rfl) ?_
    refine lv_iconst (v := 0) hx hb dX8_text_18 (by decide) ?_
    refine mw_σ F hW 26 (by decide) fl_RX8_112 rfl (ty := .int) rfl rfl rfl rfl dX8_text_19 (fun H locs hW => ?_)
    refine lv_iconst (v := 1) hx hb dX8_text_22 (by decide) ?_
    refine lv_istore_n (lv' := [(1, .int 1), (0, .ref (ad 0))]) hx hb dX8_text_23 rfl hl (by decide) rfl (fun ls hl => ?_)
    refine lv_iconst (v := 0) hx hb dX8_text_24 (by decide) ?_
    refine lv_istore_n (lv' := [(2, .int 0), (1, .int 1), (0, .ref (ad 0))]) hx hb dX8_text_25 rfl hl (by decide) rfl (fun ls hl => ?_)
    have L26 : ∀ (k : Nat) (k0 : Nat) (gd : Bool) (y : Rs) (σ' : Nat → Nat → Int32), (k0 ≤ 3) → (4 ≤ k0 + k) → (TxI β n z m0 σ k0 gd y σ') → ∀ (H : Heap) (locs : List Loc) (ls : Array Slot), MW D cA ad ρ T σ' A s s.heap H locs → lv_has ls 3 [(2, .int (nI k0)), (1, .int (bI gd)), (0, .ref (ad 0))] → W p l e rm_yX8_text s m ar below meth c H locs 0 0 Q (F0 m 26 ls []) := by
      intro k
      induction k with
      | zero => intro k0 gd y σ' h1 h2 hI; exact absurd h2 (by omega)
      | succ k ih26 =>
        intro k0 gd y σ' h1 h2 hI H locs ls hW hl
        refine lv_iload_n hx hb dX8_text_26 rfl (lv_at hl 0 rfl) ?_
        refine lv_iconst (v := 3) hx hb dX8_text_27 (by decide) ?_
        refine lv_icmp_ge (tgt := 101) hx hb dX8_text_28 (by decide) (fun c_2 => ?_) (fun c_2 => ?_)
        ·
          obtain rfl : k0 = 3 := by have := mi_le (a := 3) (b := k0) c_2 (by decide) (by omega); omega
          refine lv_iload_n hx hb dX8_text_101 rfl (lv_at hl 1 rfl) ?_
          refine lv_if_eq (tgt := 122) hx hb dX8_text_102 (by decide) (fun c_3 => ?_) (fun c_3 => ?_)
          ·
            have hgd : gd = false := bI_0 c_3; rw [hgd] at hI hl; obtain ⟨hwt, hg1, hgf, hgt⟩ := id hI
            refine lv_aload_n hx hb dX8_text_122 rfl (lv_at hl 2 rfl) ?_
            refine mr_f F hW 8 (by decide) rfl fl_RX8_25 dX8_text_123 ?_
            refine lv_iconst (v := 4) hx hb dX8_text_126 (by decide) ?_
            refine lv_aload_n hx hb dX8_text_127 rfl (lv_at hl 2 rfl) ?_
            refine mr_f F hW 9 (by decide) rfl fl_RX8_86 dX8_text_128 ?_
            refine lv_as (z := nI n) ((hwt.2.2.1 9 (by omega) (by omega)).trans hnn) ?_
            refine lv_imul hx hb dX8_text_131 ?_
            refine lv_as (z := nI (4 * n)) (c4t _) ?_
            refine lv_iconst (v := 3) hx hb dX8_text_132 (by decide) ?_
            refine lv_iadd hx hb dX8_text_133 ?_
            refine lv_as (z := nI (4 * n + 3)) (nI_add _ _) ?_
            refine lv_aload_n hx hb dX8_text_134 rfl (lv_at hl 2 rfl) ?_
            refine mr_f F hW 26 (by decide) rfl fl_RX8_112 dX8_text_135 ?_
            refine mw_starts F hW (vp_in_nI (by omega) (by decide)) dX8_text_138 (fun H locs hW => ?_)
            have hW : MW D cA ad ρ T (upR σ' 6 (4 * n + 3) (σ' 0 26)) A s s.heap H locs := by rw [nI_clamp (show (4 * n + 3) < 2 ^ 31 by omega)] at hW; exact hW
            refine lv_aload_n hx hb dX8_text_139 rfl (lv_at hl 2 rfl) ?_
            refine lv_iconst (v := 0) hx hb dX8_text_140 (by decide) ?_
            refine mw_σ F hW 6 (by decide) fl_RX8_61 rfl (ty := .int) rfl rfl rfl rfl dX8_text_141 (fun H locs hW => ?_)
            refine lv_iload_n hx hb dX8_text_144 rfl (lv_at hl 1 rfl) ?_
            refine lv_if_ne (tgt := 156) hx hb dX8_text_145 (by decide) (fun c_4 => ?_) (fun c_4 => ?_)
            ·
              exact absurd c_4 (by decide)
            ·
              refine lv_bipush (v := (-100)) hx hb dX8_text_148 (by decide) ?_
              refine lv_aload_n hx hb dX8_text_150 rfl (lv_at hl 2 rfl) ?_
              refine mr_f F hW 19 (by decide) rfl fl_RX8_99 dX8_text_151 ?_
              refine lv_as (z := nI ((thR β z m0 3).2.2.2.1)) (by rw [upR_self, pk_un (by decide), up_ne2 (by decide)]; exact hgf rfl) ?_
              refine lv_isub hx hb dX8_text_154 ?_
              exact hret ((-100) - (nI ((thR β z m0 3).2.2.2.1))) (upR (upR σ' 6 (4 * n + 3) (σ' 0 26)) 0 6 0) _ _ _ _ _ hW rfl rfl (txp_bad hz1 hn hnn hwt (by omega) (fau_0 hg1) (th_at 3) rfl) dX8_text_155
          ·
            have hgd : gd = true := bI_1 c_3; rw [hgd] at hI hl; obtain ⟨hwt, hg1, hgf, hgt⟩ := id hI; obtain ⟨hny, hO, h18, hyz, hyl, hst⟩ := hgt rfl
            refine lv_aload_n hx hb dX8_text_105 rfl (lv_at hl 2 rfl) ?_
            refine gw_callVv (As := []) (rest := []) F hl.1 hW (fun _ _ _ => trivial) gw_T_E (by decide) (rfl : ment ad cA _ _ _ 0 = _) rfl (kX8_next (β := β) (z := z) (a := y.1) ((hwt.2.2.1 6 (by omega) (by omega)).trans hz) hz1 h18 hyz (fun j hj => (hβ j hj).trans (congrFun (hwt.2.2.2 4 (by decide) (by decide) (by decide) (by decide)) j).symm) (fun i q hi hq => (congrFun (hwt.2.2.2 13 (by decide) (by decide) (by decide) (by decide)) _).trans (hwd i q hi hq))) pd_yX8_next ml_RX8_134 im_yX8_next se_yX8_next ini_RX8 cd_yX8_next ⟨rfl, rfl⟩ ⟨Nat.le_of_ble_eq_true rfl, Nat.le_of_ble_eq_true rfl⟩ rfl rfl (Nat.le_of_ble_eq_true rfl) ⟨Nat.zero_le _, Nat.zero_le _⟩ dX8_text_106 (fun σn H locs hp hW _ _ => ?_)
            obtain ⟨wv, hu, hvo⟩ := hp
            subst hu
            have hS : TxS β n z m0 σ 3 (thR β z m0 3).2 (nmS σ' (nI (thR β z m0 3).2.1) (nI (thR β z m0 3).2.2.2.1) (tkM (thR β z m0 3).2.2.1) wv) := txs_nx hI
            have hvo : vOK (nxR β z y).2.1 (numG β z 161 (nxR β z y).2.2.1 0).2 wv := hvo
            rw [hny] at hvo
            have hW : MW D cA ad ρ T (nmS σ' (nI (nxR β z y).1) (nI (nxR β z y).2.2.1) (tkM (nxR β z y).2.1) wv) A s s.heap H locs := hW
            rw [hny] at hW
            have htk : tkOK (thR β z m0 3).2.2.1 := by rw [← hny]; exact nxK_ok _ _ _
            refine lv_aload_n hx hb dX8_text_109 rfl (lv_at hl 2 rfl) ?_
            refine mr_f F hW 20 (by decide) rfl fl_RX8_102 dX8_text_110 ?_
            refine lv_if_ne (tgt := 120) hx hb dX8_text_113 (by decide) (fun c_5 => ?_) (fun c_5 => ?_)
            ·
              have hz0 : ¬ (thR β z m0 3).2.2.1 = 0 := fun q => c_5 ((tk_iff htk).2.2.2.2.2.2.2.1.mpr q)
              refine lv_iconst (v := 0) hx hb dX8_text_120 (by decide) ?_
              refine lv_istore_n (lv' := [(1, .int 0), (2, .int (nI 3)), (0, .ref (ad 0))]) hx hb dX8_text_121 rfl hl (by decide) rfl (fun ls hl => ?_)
              refine lv_aload_n hx hb dX8_text_122 rfl (lv_at hl 2 rfl) ?_
              refine mr_f F hW 8 (by decide) rfl fl_RX8_25 dX8_text_123 ?_
              refine lv_iconst (v := 4) hx hb dX8_text_126 (by decide) ?_
              refine lv_aload_n hx hb dX8_text_127 rfl (lv_at hl 2 rfl) ?_
              refine mr_f F hW 9 (by decide) rfl fl_RX8_86 dX8_text_128 ?_
              refine lv_as (z := nI n) ((hS.1.2.2.1 9 (by omega) (by omega)).trans hnn) ?_
              refine lv_imul hx hb dX8_text_131 ?_
              refine lv_as (z := nI (4 * n)) (c4t _) ?_
              refine lv_iconst (v := 3) hx hb dX8_text_132 (by decide) ?_
              refine lv_iadd hx hb dX8_text_133 ?_
              refine lv_as (z := nI (4 * n + 3)) (nI_add _ _) ?_
              refine lv_aload_n hx hb dX8_text_134 rfl (lv_at hl 2 rfl) ?_
              refine mr_f F hW 26 (by decide) rfl fl_RX8_112 dX8_text_135 ?_
              refine mw_starts F hW (vp_in_nI (by omega) (by decide)) dX8_text_138 (fun H locs hW => ?_)
              have hW : MW D cA ad ρ T (upR (nmS σ' (nI (thR β z m0 3).2.1) (nI (thR β z m0 3).2.2.2.1) (tkM (thR β z m0 3).2.2.1) wv) 6 (4 * n + 3) ((nmS σ' (nI (thR β z m0 3).2.1) (nI (thR β z m0 3).2.2.2.1) (tkM (thR β z m0 3).2.2.1) wv) 0 26)) A s s.heap H locs := by rw [nI_clamp (show (4 * n + 3) < 2 ^ 31 by omega)] at hW; exact hW
              refine lv_aload_n hx hb dX8_text_139 rfl (lv_at hl 2 rfl) ?_
              refine lv_iconst (v := 0) hx hb dX8_text_140 (by decide) ?_
              refine mw_σ F hW 6 (by decide) fl_RX8_61 rfl (ty := .int) rfl rfl rfl rfl dX8_text_141 (fun H locs hW => ?_)
              refine lv_iload_n hx hb dX8_text_144 rfl (lv_at hl 0 rfl) ?_
              refine lv_if_ne (tgt := 156) hx hb dX8_text_145 (by decide) (fun c_6 => ?_) (fun c_6 => ?_)
              ·
                exact absurd c_6 (by decide)
              ·
                refine lv_bipush (v := (-100)) hx hb dX8_text_148 (by decide) ?_
                refine lv_aload_n hx hb dX8_text_150 rfl (lv_at hl 2 rfl) ?_
                refine mr_f F hW 19 (by decide) rfl fl_RX8_99 dX8_text_151 ?_
                refine lv_as (z := nI ((thR β z m0 3).2.2.2.1)) (by rw [upR_self, pk_un (by decide), up_ne2 (by decide)]; exact hS.2.2.1) ?_
                refine lv_isub hx hb dX8_text_154 ?_
                exact hret ((-100) - (nI ((thR β z m0 3).2.2.2.1))) (upR (upR (nmS σ' (nI (thR β z m0 3).2.1) (nI (thR β z m0 3).2.2.2.1) (tkM (thR β z m0 3).2.2.1) wv) 6 (4 * n + 3) ((nmS σ' (nI (thR β z m0 3).2.1) (nI (thR β z m0 3).2.2.2.1) (tkM (thR β z m0 3).2.2.1) wv) 0 26)) 0 6 0) _ _ _ _ _ hW rfl rfl (txp_bad hz1 hn hnn hS.1 (by omega) (fau_1 hg1 hz0) (th_at 3) rfl) dX8_text_155
            ·
              have hz0 : (thR β z m0 3).2.2.1 = 0 := (tk_iff htk).2.2.2.2.2.2.2.1.mp c_5
              refine lv_iconst (v := 1) hx hb dX8_text_116 (by decide) ?_
              refine lv_goto (tgt := 121) hx hb dX8_text_117 (by decide) ?_
              refine lv_istore_n (lv' := [(1, .int 1), (2, .int (nI 3)), (0, .ref (ad 0))]) hx hb dX8_text_121 rfl hl (by decide) rfl (fun ls hl => ?_)
              refine lv_aload_n hx hb dX8_text_122 rfl (lv_at hl 2 rfl) ?_
              refine mr_f F hW 8 (by decide) rfl fl_RX8_25 dX8_text_123 ?_
              refine lv_iconst (v := 4) hx hb dX8_text_126 (by decide) ?_
              refine lv_aload_n hx hb dX8_text_127 rfl (lv_at hl 2 rfl) ?_
              refine mr_f F hW 9 (by decide) rfl fl_RX8_86 dX8_text_128 ?_
              refine lv_as (z := nI n) ((hS.1.2.2.1 9 (by omega) (by omega)).trans hnn) ?_
              refine lv_imul hx hb dX8_text_131 ?_
              refine lv_as (z := nI (4 * n)) (c4t _) ?_
              refine lv_iconst (v := 3) hx hb dX8_text_132 (by decide) ?_
              refine lv_iadd hx hb dX8_text_133 ?_
              refine lv_as (z := nI (4 * n + 3)) (nI_add _ _) ?_
              refine lv_aload_n hx hb dX8_text_134 rfl (lv_at hl 2 rfl) ?_
              refine mr_f F hW 26 (by decide) rfl fl_RX8_112 dX8_text_135 ?_
              refine lv_as (z := nI ((thR β z m0 3).2.2.2.2.2.length)) (hS.2.2.2.1.1) ?_
              refine mw_starts F hW (vp_in_nI (by omega) (by decide)) dX8_text_138 (fun H locs hW => ?_)
              have hW : MW D cA ad ρ T (upR (nmS σ' (nI (thR β z m0 3).2.1) (nI (thR β z m0 3).2.2.2.1) (tkM (thR β z m0 3).2.2.1) wv) 6 (4 * n + 3) (nI ((thR β z m0 3).2.2.2.2.2.length))) A s s.heap H locs := by rw [nI_clamp (show (4 * n + 3) < 2 ^ 31 by omega)] at hW; exact hW
              refine lv_aload_n hx hb dX8_text_139 rfl (lv_at hl 2 rfl) ?_
              refine lv_iconst (v := 0) hx hb dX8_text_140 (by decide) ?_
              refine mw_σ F hW 6 (by decide) fl_RX8_61 rfl (ty := .int) rfl rfl rfl rfl dX8_text_141 (fun H locs hW => ?_)
              refine lv_iload_n hx hb dX8_text_144 rfl (lv_at hl 0 rfl) ?_
              refine lv_if_ne (tgt := 156) hx hb dX8_text_145 (by decide) (fun c_7 => ?_) (fun c_7 => ?_)
              ·
                refine lv_aload_n hx hb dX8_text_156 rfl (lv_at hl 2 rfl) ?_
                refine lv_dup hx hb dX8_text_157 rfl ?_
                refine mr_f F hW 9 (by decide) rfl fl_RX8_86 dX8_text_158 ?_
                refine lv_as (z := nI n) (by rw [upR_self, pk_un (by decide), up_ne2 (by decide)]; exact (hS.1.2.2.1 9 (by omega) (by omega)).trans hnn) ?_
                refine lv_iconst (v := 1) hx hb dX8_text_161 (by decide) ?_
                refine lv_iadd hx hb dX8_text_162 ?_
                refine lv_as (z := nI (n + 1)) (nI_1 n) ?_
                refine mw_σ F hW 9 (by decide) fl_RX8_86 rfl (ty := .int) rfl rfl rfl rfl dX8_text_163 (fun H locs hW => ?_)
                refine lv_aload_n hx hb dX8_text_166 rfl (lv_at hl 2 rfl) ?_
                refine mr_f F hW 9 (by decide) rfl fl_RX8_86 dX8_text_167 ?_
                refine lv_as (z := nI (n + 1)) (by rw [upR_self]; exact pk_us) ?_
                refine lv_iconst (v := 1) hx hb dX8_text_170 (by decide) ?_
                refine lv_isub hx hb dX8_text_171 ?_
                refine lv_as (z := nI n) (nI_pred _) ?_
                exact hret (nI n) (upR (upR (upR (nmS σ' (nI (thR β z m0 3).2.1) (nI (thR β z m0 3).2.2.2.1) (tkM (thR β z m0 3).2.2.1) wv) 6 (4 * n + 3) (nI ((thR β z m0 3).2.2.2.2.2.length))) 0 6 0) 0 9 (nI (n + 1))) _ _ _ _ _ hW rfl rfl (txp_good hn hS (fau_2 hg1 hz0) rfl) dX8_text_172
              ·
                exact absurd c_7 (by decide)
        ·
          have hk3 : k0 < 3 := mi_nle (a := 3) (b := k0) c_2 (by decide) (by omega)
          refine lv_iload_n hx hb dX8_text_31 rfl (lv_at hl 1 rfl) ?_
          refine lv_if_eq (tgt := 101) hx hb dX8_text_32 (by decide) (fun c_8 => ?_) (fun c_8 => ?_)
          ·
            have hgd : gd = false := bI_0 c_8; rw [hgd] at hI hl; obtain ⟨hwt, hg1, hgf, hgt⟩ := id hI; have e3 := th_stop3 h1 hg1; rw [← e3] at hg1 hgf
            refine lv_iload_n hx hb dX8_text_101 rfl (lv_at hl 1 rfl) ?_
            refine lv_if_eq (tgt := 122) hx hb dX8_text_102 (by decide) (fun c_9 => ?_) (fun c_9 => ?_)
            ·
              refine lv_aload_n hx hb dX8_text_122 rfl (lv_at hl 2 rfl) ?_
              refine mr_f F hW 8 (by decide) rfl fl_RX8_25 dX8_text_123 ?_
              refine lv_iconst (v := 4) hx hb dX8_text_126 (by decide) ?_
              refine lv_aload_n hx hb dX8_text_127 rfl (lv_at hl 2 rfl) ?_
              refine mr_f F hW 9 (by decide) rfl fl_RX8_86 dX8_text_128 ?_
              refine lv_as (z := nI n) ((hwt.2.2.1 9 (by omega) (by omega)).trans hnn) ?_
              refine lv_imul hx hb dX8_text_131 ?_
              refine lv_as (z := nI (4 * n)) (c4t _) ?_
              refine lv_iconst (v := 3) hx hb dX8_text_132 (by decide) ?_
              refine lv_iadd hx hb dX8_text_133 ?_
              refine lv_as (z := nI (4 * n + 3)) (nI_add _ _) ?_
              refine lv_aload_n hx hb dX8_text_134 rfl (lv_at hl 2 rfl) ?_
              refine mr_f F hW 26 (by decide) rfl fl_RX8_112 dX8_text_135 ?_
              refine mw_starts F hW (vp_in_nI (by omega) (by decide)) dX8_text_138 (fun H locs hW => ?_)
              have hW : MW D cA ad ρ T (upR σ' 6 (4 * n + 3) (σ' 0 26)) A s s.heap H locs := by rw [nI_clamp (show (4 * n + 3) < 2 ^ 31 by omega)] at hW; exact hW
              refine lv_aload_n hx hb dX8_text_139 rfl (lv_at hl 2 rfl) ?_
              refine lv_iconst (v := 0) hx hb dX8_text_140 (by decide) ?_
              refine mw_σ F hW 6 (by decide) fl_RX8_61 rfl (ty := .int) rfl rfl rfl rfl dX8_text_141 (fun H locs hW => ?_)
              refine lv_iload_n hx hb dX8_text_144 rfl (lv_at hl 1 rfl) ?_
              refine lv_if_ne (tgt := 156) hx hb dX8_text_145 (by decide) (fun c_10 => ?_) (fun c_10 => ?_)
              ·
                exact absurd c_10 (by decide)
              ·
                refine lv_bipush (v := (-100)) hx hb dX8_text_148 (by decide) ?_
                refine lv_aload_n hx hb dX8_text_150 rfl (lv_at hl 2 rfl) ?_
                refine mr_f F hW 19 (by decide) rfl fl_RX8_99 dX8_text_151 ?_
                refine lv_as (z := nI ((thR β z m0 3).2.2.2.1)) (by rw [upR_self, pk_un (by decide), up_ne2 (by decide)]; exact hgf rfl) ?_
                refine lv_isub hx hb dX8_text_154 ?_
                exact hret ((-100) - (nI ((thR β z m0 3).2.2.2.1))) (upR (upR σ' 6 (4 * n + 3) (σ' 0 26)) 0 6 0) _ _ _ _ _ hW rfl rfl (txp_bad hz1 hn hnn hwt (by omega) (fau_0 hg1) (th_at 3) rfl) dX8_text_155
            ·
              exact absurd c_9 (by decide)
          ·
            have hgd : gd = true := bI_1 c_8; rw [hgd] at hI hl; obtain ⟨hwt, hg1, hgf, hgt⟩ := id hI; obtain ⟨hny, hO, h18, hyz, hyl, hst⟩ := hgt rfl
            refine lv_aload_n hx hb dX8_text_35 rfl (lv_at hl 2 rfl) ?_
            refine gw_callVv (As := []) (rest := []) F hl.1 hW (fun _ _ _ => trivial) gw_T_E (by decide) (rfl : ment ad cA _ _ _ 0 = _) rfl (kX8_next (β := β) (z := z) (a := y.1) ((hwt.2.2.1 6 (by omega) (by omega)).trans hz) hz1 h18 hyz (fun j hj => (hβ j hj).trans (congrFun (hwt.2.2.2 4 (by decide) (by decide) (by decide) (by decide)) j).symm) (fun i q hi hq => (congrFun (hwt.2.2.2 13 (by decide) (by decide) (by decide) (by decide)) _).trans (hwd i q hi hq))) pd_yX8_next ml_RX8_134 im_yX8_next se_yX8_next ini_RX8 cd_yX8_next ⟨rfl, rfl⟩ ⟨Nat.le_of_ble_eq_true rfl, Nat.le_of_ble_eq_true rfl⟩ rfl rfl (Nat.le_of_ble_eq_true rfl) ⟨Nat.zero_le _, Nat.zero_le _⟩ dX8_text_36 (fun σn H locs hp hW _ _ => ?_)
            obtain ⟨wv, hu, hvo⟩ := hp
            subst hu
            have hS : TxS β n z m0 σ k0 (thR β z m0 k0).2 (nmS σ' (nI (thR β z m0 k0).2.1) (nI (thR β z m0 k0).2.2.2.1) (tkM (thR β z m0 k0).2.2.1) wv) := txs_nx hI
            have hvo : vOK (nxR β z y).2.1 (numG β z 161 (nxR β z y).2.2.1 0).2 wv := hvo
            rw [hny] at hvo
            have hW : MW D cA ad ρ T (nmS σ' (nI (nxR β z y).1) (nI (nxR β z y).2.2.1) (tkM (nxR β z y).2.1) wv) A s s.heap H locs := hW
            rw [hny] at hW
            have htk : tkOK (thR β z m0 k0).2.2.1 := by rw [← hny]; exact nxK_ok _ _ _
            refine lv_aload_n hx hb dX8_text_39 rfl (lv_at hl 2 rfl) ?_
            refine mr_f F hW 20 (by decide) rfl fl_RX8_102 dX8_text_40 ?_
            refine lv_as (z := tkM (thR β z m0 k0).2.2.1) (rfl) ?_
            refine lv_iconst (v := 3) hx hb dX8_text_43 (by decide) ?_
            refine lv_icmp_ne (tgt := 59) hx hb dX8_text_44 (by decide) (fun c_11 => ?_) (fun c_11 => ?_)
            ·
              have hnk : ¬ (thR β z m0 k0).2.2.1 = -(nI (k0 + 10)) := fun q => c_11 ((tk_key htk hvo hk3).mpr q).1
              refine lv_iconst (v := 0) hx hb dX8_text_59 (by decide) ?_
              refine lv_istore_n (lv' := [(1, .int 0), (2, .int (nI k0)), (0, .ref (ad 0))]) hx hb dX8_text_60 rfl hl (by decide) rfl (fun ls hl => ?_)
              refine lv_aload_n hx hb dX8_text_61 rfl (lv_at hl 2 rfl) ?_
              refine mr_f F hW 8 (by decide) rfl fl_RX8_25 dX8_text_62 ?_
              refine lv_iconst (v := 4) hx hb dX8_text_65 (by decide) ?_
              refine lv_aload_n hx hb dX8_text_66 rfl (lv_at hl 2 rfl) ?_
              refine mr_f F hW 9 (by decide) rfl fl_RX8_86 dX8_text_67 ?_
              refine lv_as (z := nI n) ((hS.1.2.2.1 9 (by omega) (by omega)).trans hnn) ?_
              refine lv_imul hx hb dX8_text_70 ?_
              refine lv_as (z := nI (4 * n)) (c4t _) ?_
              refine lv_iload_n hx hb dX8_text_71 rfl (lv_at hl 1 rfl) ?_
              refine lv_iadd hx hb dX8_text_72 ?_
              refine lv_as (z := nI (4 * n + k0)) (nI_add _ _) ?_
              refine lv_aload_n hx hb dX8_text_73 rfl (lv_at hl 2 rfl) ?_
              refine mr_f F hW 26 (by decide) rfl fl_RX8_112 dX8_text_74 ?_
              refine lv_as (z := nI ((thR β z m0 k0).2.2.2.2.2.length)) (hS.2.2.2.1.1) ?_
              refine mw_starts F hW (vp_in_nI (by omega) (by decide)) dX8_text_77 (fun H locs hW => ?_)
              have hW : MW D cA ad ρ T (upR (nmS σ' (nI (thR β z m0 k0).2.1) (nI (thR β z m0 k0).2.2.2.1) (tkM (thR β z m0 k0).2.2.1) wv) 6 (4 * n + k0) (nI ((thR β z m0 k0).2.2.2.2.2.length))) A s s.heap H locs := by rw [nI_clamp (show (4 * n + k0) < 2 ^ 31 by omega)] at hW; exact hW
              refine lv_iload_n hx hb dX8_text_78 rfl (lv_at hl 0 rfl) ?_
              refine lv_if_eq (tgt := 93) hx hb dX8_text_79 (by decide) (fun c_12 => ?_) (fun c_12 => ?_)
              ·
                refine lv_iconst (v := 0) hx hb dX8_text_93 (by decide) ?_
                refine lv_istore_n (lv' := [(1, .int 0), (2, .int (nI k0)), (0, .ref (ad 0))]) hx hb dX8_text_94 rfl hl (by decide) rfl (fun ls hl => ?_)
                refine lv_iinc (v := nI (k0 + 1)) (lv' := [(2, .int (nI (k0 + 1))), (1, .int 0), (0, .ref (ad 0))]) hx hb dX8_text_95 hl (k := 1) rfl (nI_1 k0) (by decide) rfl (fun ls hl => ?_)
                refine lv_goto (tgt := 26) hx hb dX8_text_98 (by decide) ?_
                exact ih26 (k0 + 1) false y _ (by omega) (by omega) (txi_no (txs_st hS rfl) hg1 hnk) _ _ _ hW (lv_sub hl [0, 1, 2] rfl)
              ·
                exact absurd c_12 (by decide)
            ·
              have h43 := c_11
              refine lv_aload_n hx hb dX8_text_47 rfl (lv_at hl 2 rfl) ?_
              refine mr_f F hW 21 (by decide) rfl fl_RX8_105 dX8_text_48 ?_
              refine lv_as (z := wv) (rfl) ?_
              refine lv_iload_n hx hb dX8_text_51 rfl (lv_at hl 0 rfl) ?_
              refine lv_icmp_ne (tgt := 59) hx hb dX8_text_52 (by decide) (fun c_13 => ?_) (fun c_13 => ?_)
              ·
                have hnk : ¬ (thR β z m0 k0).2.2.1 = -(nI (k0 + 10)) := fun q => c_13 ((tk_key htk hvo hk3).mpr q).2
                refine lv_iconst (v := 0) hx hb dX8_text_59 (by decide) ?_
                refine lv_istore_n (lv' := [(1, .int 0), (2, .int (nI k0)), (0, .ref (ad 0))]) hx hb dX8_text_60 rfl hl (by decide) rfl (fun ls hl => ?_)
                refine lv_aload_n hx hb dX8_text_61 rfl (lv_at hl 2 rfl) ?_
                refine mr_f F hW 8 (by decide) rfl fl_RX8_25 dX8_text_62 ?_
                refine lv_iconst (v := 4) hx hb dX8_text_65 (by decide) ?_
                refine lv_aload_n hx hb dX8_text_66 rfl (lv_at hl 2 rfl) ?_
                refine mr_f F hW 9 (by decide) rfl fl_RX8_86 dX8_text_67 ?_
                refine lv_as (z := nI n) ((hS.1.2.2.1 9 (by omega) (by omega)).trans hnn) ?_
                refine lv_imul hx hb dX8_text_70 ?_
                refine lv_as (z := nI (4 * n)) (c4t _) ?_
                refine lv_iload_n hx hb dX8_text_71 rfl (lv_at hl 1 rfl) ?_
                refine lv_iadd hx hb dX8_text_72 ?_
                refine lv_as (z := nI (4 * n + k0)) (nI_add _ _) ?_
                refine lv_aload_n hx hb dX8_text_73 rfl (lv_at hl 2 rfl) ?_
                refine mr_f F hW 26 (by decide) rfl fl_RX8_112 dX8_text_74 ?_
                refine lv_as (z := nI ((thR β z m0 k0).2.2.2.2.2.length)) (hS.2.2.2.1.1) ?_
                refine mw_starts F hW (vp_in_nI (by omega) (by decide)) dX8_text_77 (fun H locs hW => ?_)
                have hW : MW D cA ad ρ T (upR (nmS σ' (nI (thR β z m0 k0).2.1) (nI (thR β z m0 k0).2.2.2.1) (tkM (thR β z m0 k0).2.2.1) wv) 6 (4 * n + k0) (nI ((thR β z m0 k0).2.2.2.2.2.length))) A s s.heap H locs := by rw [nI_clamp (show (4 * n + k0) < 2 ^ 31 by omega)] at hW; exact hW
                refine lv_iload_n hx hb dX8_text_78 rfl (lv_at hl 0 rfl) ?_
                refine lv_if_eq (tgt := 93) hx hb dX8_text_79 (by decide) (fun c_14 => ?_) (fun c_14 => ?_)
                ·
                  refine lv_iconst (v := 0) hx hb dX8_text_93 (by decide) ?_
                  refine lv_istore_n (lv' := [(1, .int 0), (2, .int (nI k0)), (0, .ref (ad 0))]) hx hb dX8_text_94 rfl hl (by decide) rfl (fun ls hl => ?_)
                  refine lv_iinc (v := nI (k0 + 1)) (lv' := [(2, .int (nI (k0 + 1))), (1, .int 0), (0, .ref (ad 0))]) hx hb dX8_text_95 hl (k := 1) rfl (nI_1 k0) (by decide) rfl (fun ls hl => ?_)
                  refine lv_goto (tgt := 26) hx hb dX8_text_98 (by decide) ?_
                  exact ih26 (k0 + 1) false y _ (by omega) (by omega) (txi_no (txs_st hS rfl) hg1 hnk) _ _ _ hW (lv_sub hl [0, 1, 2] rfl)
                ·
                  exact absurd c_14 (by decide)
              ·
                have hkey : (thR β z m0 k0).2.2.1 = -(nI (k0 + 10)) := (tk_key htk hvo hk3).mp ⟨h43, c_13⟩
                refine lv_iconst (v := 1) hx hb dX8_text_55 (by decide) ?_
                refine lv_goto (tgt := 60) hx hb dX8_text_56 (by decide) ?_
                refine lv_istore_n (lv' := [(1, .int 1), (2, .int (nI k0)), (0, .ref (ad 0))]) hx hb dX8_text_60 rfl hl (by decide) rfl (fun ls hl => ?_)
                refine lv_aload_n hx hb dX8_text_61 rfl (lv_at hl 2 rfl) ?_
                refine mr_f F hW 8 (by decide) rfl fl_RX8_25 dX8_text_62 ?_
                refine lv_iconst (v := 4) hx hb dX8_text_65 (by decide) ?_
                refine lv_aload_n hx hb dX8_text_66 rfl (lv_at hl 2 rfl) ?_
                refine mr_f F hW 9 (by decide) rfl fl_RX8_86 dX8_text_67 ?_
                refine lv_as (z := nI n) ((hS.1.2.2.1 9 (by omega) (by omega)).trans hnn) ?_
                refine lv_imul hx hb dX8_text_70 ?_
                refine lv_as (z := nI (4 * n)) (c4t _) ?_
                refine lv_iload_n hx hb dX8_text_71 rfl (lv_at hl 1 rfl) ?_
                refine lv_iadd hx hb dX8_text_72 ?_
                refine lv_as (z := nI (4 * n + k0)) (nI_add _ _) ?_
                refine lv_aload_n hx hb dX8_text_73 rfl (lv_at hl 2 rfl) ?_
                refine mr_f F hW 26 (by decide) rfl fl_RX8_112 dX8_text_74 ?_
                refine lv_as (z := nI ((thR β z m0 k0).2.2.2.2.2.length)) (hS.2.2.2.1.1) ?_
                refine mw_starts F hW (vp_in_nI (by omega) (by decide)) dX8_text_77 (fun H locs hW => ?_)
                have hW : MW D cA ad ρ T (upR (nmS σ' (nI (thR β z m0 k0).2.1) (nI (thR β z m0 k0).2.2.2.1) (tkM (thR β z m0 k0).2.2.1) wv) 6 (4 * n + k0) (nI ((thR β z m0 k0).2.2.2.2.2.length))) A s s.heap H locs := by rw [nI_clamp (show (4 * n + k0) < 2 ^ 31 by omega)] at hW; exact hW
                refine lv_iload_n hx hb dX8_text_78 rfl (lv_at hl 0 rfl) ?_
                refine lv_if_eq (tgt := 93) hx hb dX8_text_79 (by decide) (fun c_15 => ?_) (fun c_15 => ?_)
                ·
                  exact absurd c_15 (by decide)
                ·
                  refine lv_aload_n hx hb dX8_text_82 rfl (lv_at hl 2 rfl) ?_
                  have hS := txs_st hS rfl
                  obtain ⟨t1, t2, _⟩ := th_parts hz1 m0 k0 (by omega) hg1
                  obtain ⟨f1, y2, hf, hy1, hy2⟩ := m_read β hz1 (okL_nx2 t1).1
                  have t3 := okL_at t1
                  refine gw_callVi (As := []) (rest := []) F hl.1 hW (fun _ _ _ => trivial) gw_T_E (by decide) (rfl : ment ad cA _ _ _ 0 = _) rfl (kX8_eRead (β := β) (n := n) (z := z) (y0 := (thR β z m0 k0).2) ((hS.1.2.2.1 9 (by omega) (by omega)).trans hnn) (by omega) ((hS.1.2.2.1 6 (by omega) (by omega)).trans hz) hz1 (fun j hj => (hβ j hj).trans (congrFun (hS.1.2.2.2 4 (by decide) (by decide) (by decide) (by decide)) j).symm) (fun i q hi hq => (congrFun (hS.1.2.2.2 13 (by decide) (by decide) (by decide) (by decide)) _).trans (hwd i q hi hq)) hf hS.2.2.2.1 hS.2.1 t3.2 (Nat.le_trans t2 t3.1)) pd_yX8_eRead ml_RX8_147 im_yX8_eRead se_yX8_eRead ini_RX8 cd_yX8_eRead ⟨rfl, rfl⟩ ⟨Nat.le_of_ble_eq_true rfl, Nat.le_of_ble_eq_true rfl⟩ rfl rfl (Nat.le_of_ble_eq_true rfl) ⟨Nat.zero_le _, Nat.zero_le _⟩ dX8_text_83 (fun re σe H locs hp hW _ _ => ?_)
                  refine lv_if_eq (tgt := 93) hx hb dX8_text_86 (by decide) (fun c_16 => ?_) (fun c_16 => ?_)
                  ·
                    have c86 := c_16
                    refine lv_iconst (v := 0) hx hb dX8_text_93 (by decide) ?_
                    refine lv_istore_n (lv' := [(1, .int 0), (2, .int (nI k0)), (0, .ref (ad 0))]) hx hb dX8_text_94 rfl hl (by decide) rfl (fun ls hl => ?_)
                    refine lv_iinc (v := nI (k0 + 1)) (lv' := [(2, .int (nI (k0 + 1))), (1, .int 0), (0, .ref (ad 0))]) hx hb dX8_text_95 hl (k := 1) rfl (nI_1 k0) (by decide) rfl (fun ls hl => ?_)
                    refine lv_goto (tgt := 26) hx hb dX8_text_98 (by decide) ?_
                    exact ih26 (k0 + 1) false y _ (by omega) (by omega) (txi_er hS hg1 hkey rfl hy1 hp c86) _ _ _ hW (lv_sub hl [0, 1, 2] rfl)
                  ·
                    have c86 := c_16
                    refine lv_iconst (v := 1) hx hb dX8_text_89 (by decide) ?_
                    refine lv_goto (tgt := 94) hx hb dX8_text_90 (by decide) ?_
                    refine lv_istore_n (lv' := [(1, .int 1), (2, .int (nI k0)), (0, .ref (ad 0))]) hx hb dX8_text_94 rfl hl (by decide) rfl (fun ls hl => ?_)
                    refine lv_iinc (v := nI (k0 + 1)) (lv' := [(2, .int (nI (k0 + 1))), (1, .int 1), (0, .ref (ad 0))]) hx hb dX8_text_95 hl (k := 1) rfl (nI_1 k0) (by decide) rfl (fun ls hl => ?_)
                    refine lv_goto (tgt := 26) hx hb dX8_text_98 (by decide) ?_
                    exact ih26 (k0 + 1) true y2 _ (by omega) (by omega) (txi_ok hz1 (by omega) hS hg1 hkey rfl hy2 hp c86) _ _ _ hW (lv_sub hl [0, 1, 2] rfl)
    exact L26 4 0 true (0, 0, 0, m0, []) _ (by omega) (by omega) (txi_0) _ _ _ hW (lv_sub hl [0, 1, 2] rfl)
  ·
    have hn : n = 6 := nI_i (b := 6) (by omega) (by decide) c_1
    refine lv_bipush (v := (-4)) hx hb dX8_text_9 (by decide) ?_
    exact hret (-4) σ _ _ _ _ _ hW rfl rfl (Or.inl ⟨by omega, rfl, rfl⟩) dX8_text_11
