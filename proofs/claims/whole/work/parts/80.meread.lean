/-! ===== the reference's reader: an expression ===== -/
def WFe (n : Nat) (σ u : Nat → Nat → Int32) : Prop := (∀ j, j < 200 * n → u 5 j = σ 5 j) ∧ (∀ k, (k < 18 ∨ 21 < k) → (k < 24 ∨ 26 < k) → u 0 k = σ 0 k) ∧ ∀ o, o ≠ 0 → o ≠ 5 → o ≠ 14 → u o = σ o
theorem WFe.rf {n : Nat} {σ : Nat → Nat → Int32} : WFe n σ σ := ⟨fun _ _ => rfl, fun _ _ _ => rfl, fun _ _ _ _ => rfl⟩
theorem WFe.trans {n : Nat} {σ u w : Nat → Nat → Int32} (h : WFe n σ u) (h' : WFe n u w) : WFe n σ w := ⟨fun j hj => (h'.1 j hj).trans (h.1 j hj), fun k a b => (h'.2.1 k a b).trans (h.2.1 k a b), fun o a b c => (h'.2.2 o a b c).trans (h.2.2 o a b c)⟩
theorem wfe_of {n : Nat} {σ u : Nat → Nat → Int32} (h : WFr n σ u) : WFe n σ u := ⟨h.1, fun k a b => h.2.1 k (by omega) (by omega) (by omega), h.2.2⟩
theorem nm_k {σ : Nat → Nat → Int32} {a b t v : Int32} {k : Nat} (h : k < 18 ∨ 21 < k) : nmS σ a b t v 0 k = σ 0 k := by
  unfold nmS
  rw [va_up_self, pk_un (by omega), pk_un (by omega), pk_un (by omega), pk_un (by omega)]
theorem wfe_nm {n : Nat} {σ : Nat → Nat → Int32} {a b t v : Int32} : WFe n σ (nmS σ a b t v) := ⟨fun j _ => by rw [nm_ne (by decide)], fun k h _ => nm_k h, fun o h _ _ => nm_ne h⟩
def ErS (n : Nat) (σ : Nat → Nat → Int32) (B : Nat) (K : List Nat) (x : Rs) (u : Nat → Nat → Int32) : Prop := StO u K ∧ OuO n u x.2.2.2.2 ∧ WFe n σ u ∧ u 0 18 = nI x.1 ∧ u 0 19 = nI x.2.2.1 ∧ VaH K ∧ K.length + x.2.2.2.2.length ≤ B
def ErH (n : Nat) (σ : Nat → Nat → Int32) (z : Nat) (K : List Nat) (x : Rs) (u : Nat → Nat → Int32) : Prop := StO u K ∧ OuO n u x.2.2.2.2 ∧ WFe n σ u ∧ u 0 18 = nI x.1 ∧ VaH K ∧ K.length + x.2.2.2.2.length ≤ x.1 ∧ x.1 ≤ z
section ER
variable {n z B : Nat} {σ u v : Nat → Nat → Int32} {K : List Nat} {x : Rs} {β : Nat → Int32}
theorem sto_of (h : StO u K) (h4 : v 0 24 = u 0 24) (h5 : v 0 25 = u 0 25) (h14 : v 14 = u 14) : StO v K := ⟨h4.trans h.1, h5.trans h.2.1, fun j hj => by rw [h14]; exact h.2.2 j hj⟩
theorem er_nx {t w : Int32} (h : ErH n σ z K x u) : ErS n σ (nxR β z x).2.2.1 K (nxR β z x) (nmS u (nI (nxR β z x).1) (nI (nxR β z x).2.2.1) t w) :=
  ⟨sto_of h.1 (nm_k (by omega)) (nm_k (by omega)) (nm_ne (by decide)), ou_f h.2.1 (nm_k (by omega)) (nm_ne (by decide)), h.2.2.1.trans wfe_nm, rfl, rfl, h.2.2.2.2.1, Nat.le_trans h.2.2.2.2.2.1 (skpG_le β z 161 x.1 h.2.2.2.2.2.2).1⟩
theorem er_hd (h : ErS n σ B K x u) (hB : B ≤ x.1) (hz : x.1 ≤ z) : ErH n σ z K x u := ⟨h.1, h.2.1, h.2.2.1, h.2.2.2.1, h.2.2.2.2.2.1, Nat.le_trans h.2.2.2.2.2.2 hB, hz⟩
theorem er_put {c w : Int32} (h : ErS n σ B K x u) (hB : B < 160) (hw : w = encM c) : ErS n σ (B + 1) K (wrR c x) (upR (upR u 5 (200 * n + x.2.2.2.2.length) w) 0 26 (nI (x.2.2.2.2.length + 1))) := by
  have hl := h.2.2.2.2.2.2
  have hF : WFr n u (upR (upR u 5 (200 * n + x.2.2.2.2.length) w) 0 26 (nI (x.2.2.2.2.length + 1))) := wf_put WFr.rf
  have e : (wrR c x).2.2.2.2 = x.2.2.2.2 ++ [c] := wri_ln (by omega) c
  refine ⟨sto_of h.1 ?_ ?_ ?_, ?_, h.2.2.1.trans (wfe_of hF), ?_, ?_, h.2.2.2.2.2.1, ?_⟩
  · rw [upR_self, pk_un (by decide), up_ne2 (by decide)]
  · rw [upR_self, pk_un (by decide), up_ne2 (by decide)]
  · rw [up_ne2 (by decide), up_ne2 (by decide)]
  · rw [e]; exact ou_snoc h.2.1 hw
  · exact (hF.2.1 18 (by decide) (by decide) (by decide)).trans h.2.2.2.1
  · exact (hF.2.1 19 (by decide) (by decide) (by decide)).trans h.2.2.2.2.1
  · rw [e, List.length_append, List.length_singleton]; omega
theorem er_unw {r : Nat} (h : ErS n σ B K x u) (hB : B ≤ 160) (hp : StO v (popU r K x).1 ∧ OuO n v (popU r K x).2.2.2.2.2 ∧ WFr n u v) : ErS n σ B (popU r K x).1 (popU r K x).2 v := by
  have hl := h.2.2.2.2.2.2
  refine ⟨hp.1, hp.2.1, h.2.2.1.trans (wfe_of hp.2.2), ?_, ?_, popU_va K x h.2.2.2.2.2.1, ?_⟩
  · rw [(popU_at K x).1]; exact (hp.2.2.2.1 18 (by decide) (by decide) (by decide)).trans h.2.2.2.1
  · rw [popU_fst]; exact (hp.2.2.2.1 19 (by decide) (by decide) (by decide)).trans h.2.2.2.2.1
  · rw [popU_len K x (by omega)]; exact hl
theorem va_cons {s : Nat} (hs : s = 0 ∨ (11 ≤ s ∧ s ≤ 19)) (h : VaH K) : VaH (s :: K) := fun q hq => by
  rcases List.mem_cons.mp hq with e | e
  · rw [e]; exact hs
  · exact h q e
theorem er_push {s : Nat} (h : ErS n σ B K x u) (hs : s = 0 ∨ s = 13 ∨ s = 19) : ErS n σ (B + 1) (s :: K) x (upR (upR (upR u 0 25 (nI (opN K + 1))) 14 K.length (nI s)) 0 24 (nI (K.length + 1))) := by
  have hl := h.2.2.2.2.2.2
  have hF : WFr n u (upR (upR (upR u 0 25 (nI (opN K + 1))) 14 K.length (nI s)) 0 24 (nI (K.length + 1))) := wf_f (wf_14 (wf_f WFr.rf (by omega))) (by omega)
  refine ⟨⟨?_, ?_, fun j hj => ?_⟩, ou_f h.2.1 ?_ ?_, h.2.2.1.trans (wfe_of hF), ?_, ?_, va_cons (by omega) h.2.2.2.2.2.1, ?_⟩
  · rw [upR_self]; exact pk_us
  · rw [upR_self, pk_un (by decide), up_ne2 (by decide), upR_self, pk_us, opN_un hs, Nat.add_comm]
  · rw [up_ne2 (by decide), upR_self]
    have hj : j < K.length + 1 := hj
    by_cases e : j = K.length
    · subst e; rw [pk_us, rev_top]
    · rw [pk_un e, rev_lo (by omega), up_ne2 (by decide)]; exact h.1.2.2 j (by omega)
  · rw [upR_self, pk_un (by decide), up_ne2 (by decide), upR_self, pk_un (by decide)]
  · rw [up_ne2 (by decide), up_ne2 (by decide), up_ne2 (by decide)]
  · exact (hF.2.1 18 (by decide) (by decide) (by decide)).trans h.2.2.2.1
  · exact (hF.2.1 19 (by decide) (by decide) (by decide)).trans h.2.2.2.2.1
  · show K.length + 1 + _ ≤ _; omega
theorem er_btw {r s : Nat} (h : ErS n σ B K x u) (hB : B ≤ 160) (hs : 11 ≤ s ∧ s ≤ 19) (h1 : StO v (s :: (popU r K x).1)) (h2 : OuO n v (popU r K x).2.2.2.2.2) (h3 : WFr n u v) : ErS n σ (B + 1) (s :: (popU r K x).1) (popU r K x).2 v := by
  have hl := h.2.2.2.2.2.2
  refine ⟨h1, h2, h.2.2.1.trans (wfe_of h3), ?_, ?_, va_cons (Or.inr hs) (popU_va K x h.2.2.2.2.2.1), ?_⟩
  · rw [(popU_at K x).1]; exact (h3.2.1 18 (by decide) (by decide) (by decide)).trans h.2.2.2.1
  · rw [popU_fst]; exact (h3.2.1 19 (by decide) (by decide) (by decide)).trans h.2.2.2.2.1
  · have e := popU_len (r := r) K x (by omega)
    show (popU r K x).1.length + 1 + _ ≤ _
    omega
theorem er_pop0 (h : ErS n σ B (0 :: K) x u) : ErS n σ B K x (upR (upR u 0 24 (nI K.length)) 0 25 (nI (opN K))) := by
  have hl : K.length + 1 + x.2.2.2.2.length ≤ B := h.2.2.2.2.2.2
  have hF : WFr n u (upR (upR u 0 24 (nI K.length)) 0 25 (nI (opN K))) := wf_f (wf_f WFr.rf (by omega)) (by omega)
  refine ⟨⟨?_, ?_, fun j hj => ?_⟩, ou_f h.2.1 ?_ ?_, h.2.2.1.trans (wfe_of hF), ?_, ?_, fun q hq => h.2.2.2.2.2.1 q (by simp [hq]), by omega⟩
  · rw [upR_self, pk_un (by decide), upR_self]; exact pk_us
  · rw [upR_self]; exact pk_us
  · rw [up_ne2 (by decide), up_ne2 (by decide), h.1.2.2 j (by simp; omega), rev_lo hj]
  · rw [upR_self, pk_un (by decide), upR_self, pk_un (by decide)]
  · rw [up_ne2 (by decide), up_ne2 (by decide)]
  · exact (hF.2.1 18 (by decide) (by decide) (by decide)).trans h.2.2.2.1
  · exact (hF.2.1 19 (by decide) (by decide) (by decide)).trans h.2.2.2.2.1
/-- what eRead leaves -/
def EPost (n : Nat) (σ : Nat → Nat → Int32) (R : Bool × Rs) (r : Int32) (u : Nat → Nat → Int32) : Prop := r = bI R.1 ∧ WFe n σ u ∧ u 0 19 = nI R.2.2.2.1 ∧ (R.1 = true → OuO n u R.2.2.2.2.2 ∧ u 0 18 = nI R.2.1)
theorem er_bad {R : Bool × Rs} {y : Rs} (h : ErS n σ B K x u) (ht : x.2.2.1 = y.2.2.1) (hR : R = (false, y)) : EPost n σ R 0 u := by
  rw [hR]; exact ⟨rfl, h.2.2.1, h.2.2.2.2.1.trans (by rw [ht]), fun q => ft q⟩
theorem er_bad2 {R : Bool × Rs} (h : ErS n σ B K x u) (h3 : WFr n u v) (hR : R = (false, x)) : EPost n σ R 0 v := by
  rw [hR]; exact ⟨rfl, h.2.2.1.trans (wfe_of h3), (h3.2.1 19 (by decide) (by decide) (by decide)).trans h.2.2.2.2.1, fun q => ft q⟩
theorem er_good {R : Bool × Rs} (h : ErS n σ B K x u) (hR : R = (true, x)) : EPost n σ R 1 u := by
  rw [hR]; exact ⟨rfl, h.2.2.1, h.2.2.2.2.1, fun _ => ⟨h.2.1, h.2.2.2.1⟩⟩
theorem er_0 (hO : OuO n σ x.2.2.2.2) (ha : σ 0 18 = nI x.1) (hz : x.1 ≤ z) (hl : x.2.2.2.2.length ≤ x.1) : ErH n σ z [] x (upR (upR σ 0 24 0) 0 25 0) :=
  ⟨⟨by rw [upR_self, pk_un (by decide), upR_self]; exact pk_us, by rw [upR_self]; exact pk_us, fun j hj => absurd hj (Nat.not_lt_zero j)⟩, ou_f hO (by rw [upR_self, pk_un (by decide), upR_self, pk_un (by decide)]) (by rw [up_ne2 (by decide), up_ne2 (by decide)]), wfe_of (wf_f (wf_f WFr.rf (by omega)) (by omega)), by rw [upR_self, pk_un (by decide), upR_self, pk_un (by decide)]; exact ha, fun q hq => absurd hq (by simp), by show 0 + _ ≤ _; omega, hz⟩
/-! the machine, undone -/
theorem nn_0 (h : isNN x) : ¬ x.2.1 = 0 := fun q => by rcases h with w | w <;> rw [q] at w <;> exact absurd w (by decide)
theorem mR_s {f : Nat} {w mn : Bool} {R : Bool × Rs} (h : mR β z f w mn K x = some R) : ∃ q, f = q + 1 := by
  cases f with
  | zero => rw [mR] at h; cases h
  | succ q => exact ⟨q, rfl⟩
variable {f : Nat} {mn : Bool} {R : Bool × Rs}
theorem mv_nn (h : mR β z (f + 1) true mn K x = some R) (hn : isNN x) : mR β z f false false (popU 7 K (wrR (nnC x) x)).1 (nxR β z (popU 7 K (wrR (nnC x) x)).2) = some R := by
  rw [mR, if_pos rfl, if_pos hn] at h; exact h
theorem mv_9 (h : mR β z (f + 1) true mn K x = some R) (h9 : x.2.1 = -9) (hm : mn = true) : (opN K = 5 → R = (false, x)) ∧ (¬ opN K = 5 → mR β z f true true (13 :: K) (nxR β z x) = some R) := by
  subst hm
  rw [mR, if_pos rfl, if_neg (nn_9 h9), if_pos ⟨h9, rfl⟩] at h
  refine ⟨fun ho => ?_, fun ho => ?_⟩
  · rw [if_pos ho] at h; exact (Option.some.inj h).symm
  · rw [if_neg ho] at h; exact h
theorem mv_45 (h : mR β z (f + 1) true mn K x = some R) (h4 : x.2.1 = 45) : (opN K = 5 → R = (false, x)) ∧ (¬ opN K = 5 → mR β z f true false (19 :: K) (nxR β z x) = some R) := by
  rw [mR, if_pos rfl, if_neg (nn_45 h4), if_neg (fun q => absurd (h4.symm.trans q.1) (by decide)), if_pos h4] at h
  refine ⟨fun ho => ?_, fun ho => ?_⟩
  · rw [if_pos ho] at h; exact (Option.some.inj h).symm
  · rw [if_neg ho] at h; exact h
theorem mv_40 (h : mR β z (f + 1) true mn K x = some R) (h4 : x.2.1 = 40) : (opN K = 5 → R = (false, x)) ∧ (¬ opN K = 5 → mR β z f true true (0 :: K) (nxR β z x) = some R) := by
  rw [mR, if_pos rfl, if_neg (nn_40 h4), if_neg (fun q => absurd (h4.symm.trans q.1) (by decide)), if_neg (fun q => absurd (h4.symm.trans q) (by decide)), if_pos h4] at h
  refine ⟨fun ho => ?_, fun ho => ?_⟩
  · rw [if_pos ho] at h; exact (Option.some.inj h).symm
  · rw [if_neg ho] at h; exact h
theorem mv_els (h : mR β z (f + 1) true mn K x = some R) (hn : ¬ isNN x) (h9 : ¬ (x.2.1 = -9 ∧ mn = true)) (h1 : ¬ x.2.1 = 45) (h2 : ¬ x.2.1 = 40) : R = (false, x) := by
  rw [mR, if_pos rfl, if_neg hn, if_neg h9, if_neg h1, if_neg h2] at h; exact (Option.some.inj h).symm
theorem mv_59 (h : mR β z (f + 1) false mn K x = some R) (h5 : x.2.1 = 59) : ((popU 1 K x).1 = [] → R = (true, (popU 1 K x).2)) ∧ (¬ (popU 1 K x).1 = [] → R = (false, x)) := by
  rw [mR, if_neg (by decide), if_pos h5] at h
  refine ⟨fun ho => ?_, fun ho => ?_⟩
  · rw [if_pos ho] at h; exact (Option.some.inj h).symm
  · rw [if_neg ho] at h; exact (Option.some.inj h).symm
theorem mv_41 (h : mR β z (f + 1) false mn K x = some R) (h5 : ¬ x.2.1 = 59) (h4 : x.2.1 = 41) : ((popU 1 K x).1 = [] → R = (false, x)) ∧ (∀ s K2, (popU 1 K x).1 = s :: K2 → mR β z f false false (popU 7 K2 (popU 1 K x).2).1 (nxR β z (popU 7 K2 (popU 1 K x).2).2) = some R) := by
  rw [mR, if_neg (by decide), if_neg h5, if_pos h4] at h
  refine ⟨fun ho => ?_, fun s K2 ho => ?_⟩
  · rw [if_pos ho] at h; exact (Option.some.inj h).symm
  · rw [if_neg (by rw [ho]; simp), ho] at h; exact h
theorem mv_0 (h : mR β z (f + 1) false mn K x = some R) (h5 : ¬ x.2.1 = 59) (h4 : ¬ x.2.1 = 41) (hs : sgM x.2.1 = 0) : R = (false, x) := by
  rw [mR, if_neg (by decide), if_neg h5, if_neg h4, if_pos hs] at h; exact (Option.some.inj h).symm
theorem mv_op (h : mR β z (f + 1) false mn K x = some R) (h5 : ¬ x.2.1 = 59) (h4 : ¬ x.2.1 = 41) (hs : ¬ sgM x.2.1 = 0) : ((rkN (sgM x.2.1) = 4 ∧ topR (popU (if rkN (sgM x.2.1) = 4 then 5 else rkN (sgM x.2.1)) K x).1 = 4) → R = (false, x)) ∧ (¬ (rkN (sgM x.2.1) = 4 ∧ topR (popU (if rkN (sgM x.2.1) = 4 then 5 else rkN (sgM x.2.1)) K x).1 = 4) → mR β z f true (decide (sgM x.2.1 ≤ 12)) (sgM x.2.1 :: (popU (if rkN (sgM x.2.1) = 4 then 5 else rkN (sgM x.2.1)) K x).1) (nxR β z (popU (if rkN (sgM x.2.1) = 4 then 5 else rkN (sgM x.2.1)) K x).2) = some R) := by
  rw [mR, if_neg (by decide), if_neg h5, if_neg h4, if_neg hs] at h
  refine ⟨fun ho => ?_, fun ho => ?_⟩
  · rw [if_pos ho] at h; exact (Option.some.inj h).symm
  · rw [if_neg ho] at h; exact h
end ER
theorem sgM_or (k : Int32) : sgM k = 0 ∨ sgM k = 11 ∨ sgM k = 12 ∨ sgM k = 14 ∨ sgM k = 15 ∨ sgM k = 16 ∨ sgM k = 17 ∨ sgM k = 18 := by
  unfold sgM
  repeat (first | omega | split)
theorem sgM_ok {k : Int32} (h : ¬ sgM k = 0) : sgM k < 20 ∧ 1 ≤ rkN (sgM k) ∧ ¬ (sgM k = 0 ∨ sgM k = 13 ∨ sgM k = 19) ∧ (11 ≤ sgM k ∧ sgM k ≤ 19) := by
  rcases sgM_or k with e | e | e | e | e | e | e | e
  · exact absurd e h
  all_goals (rw [e]; decide)
theorem sgM_m1 {k : Int32} : ¬ nI (sgM k) = -1 := fun q => by
  have h := sgM_or k
  exact nI_pos (n := sgM k) (by omega) (by rw [q]; decide)
theorem sgM_sgR {k : Int32} (h : ¬ sgM k = 0) : sgR k = nI (sgM k) := if_neg h
theorem sgM_sg0 {k : Int32} (h : sgM k = 0) : sgR k = -1 := if_pos h
theorem nx_num {β : Nat → Int32} {z i : Nat} {m : Int32} (h : nxK β z i = 2) : nxM β z i m = (numG β z 161 i 0).2 := by
  obtain ⟨a1, a2, a3, a4⟩ := nxK_2 h
  unfold nxM
  rw [if_pos a1, if_pos a2, if_neg a3]
theorem en_num {x : Rs} {w nb : Int32} (h2 : x.2.1 = 2) (hv : vOK x.2.1 nb w) (hn : x.2.2.2.1 = nb) (hb : nbL x) : 100000 + w = encM (nnC x) := by
  obtain ⟨j, hj, e⟩ := hb h2
  unfold nnC encM
  rw [if_pos h2, e, if_pos (Int32.not_lt.mp (nI_pos (by omega))), hv.1 h2, ← hn, e]
theorem en_nam {x : Rs} {w nb : Int32} (h2 : ¬ x.2.1 = 2) (h : x.2.1 ≤ -1 ∧ -6 ≤ x.2.1) (hv : vOK x.2.1 nb w) : w = encM (nnC x) := by
  obtain ⟨j, hj, e⟩ := nm_of h.1 h.2
  have key : ∀ j, j < 6 → nI j = encM (-(nI (j + 1))) := by decide +kernel
  unfold nnC
  rw [if_neg h2, e, hv.2.1 j hj e]
  exact key j hj
abbrev rm_yX8_eRead : Room := { frames := 3, cells := 0, slots := 0, locals := 64 }
set_option maxHeartbeats 800000 in
set_option maxRecDepth 100000 in
theorem kX8_eRead {l : Launch} {D : va_G} {cA : ClassId} {ad : Nat → Nat} {ρ T σ : Nat → Nat → Int32} {sz : Nat} {β : Nat → Int32} {n z f0 : Nat} {y0 : Rs} {RES : Bool × Rs} (hnn : σ 0 9 = nI n) (hn5 : n ≤ 5) (hz : σ 0 6 = nI z) (hz1 : z ≤ 160) (hβ : ∀ j, j < z → β j = σ 4 j) (hwd : ∀ i q, i < 12 → q < 8 → σ 13 (8 * i + q) = wdW i q) (hR0 : mR β z f0 true true [] (nxR β z y0) = some RES) (hO0 : OuO n σ y0.2.2.2.2) (ha0 : σ 0 18 = nI y0.1) (hyz0 : y0.1 ≤ z) (hyl0 : y0.2.2.2.2.length ≤ y0.1) : MMi l yX8_eRead cX8_eRead 4 FieldType.boolean rm_yX8_eRead [.ref (ad 0)] D cA ad ρ T σ sz (fun (r : Int32) (u : Nat → Nat → Int32) => EPost n σ RES r u) (fun u : Nat → Nat → Int32 => ment ad cA ρ T u) := by
  refine gw_stI (Ff := fun u : Nat → Nat → Int32 => ment ad cA ρ T u) (own := RX8) (by decide +kernel) rfl (Nat.le_of_ble_eq_true rfl) ?_
  intro p e s m ar below meth c A Q F hE hsz hW hret ls hl
  obtain ⟨hx, hb, hml, hown, hts⟩ := id F
  have hl : lv_has ls 4 [(0, .ref (ad 0))] := hl
  refine lv_aload_n hx hb dX8_eRead_0 rfl (lv_at hl 0 rfl) ?_
  refine lv_iconst (v := 0) hx hb dX8_eRead_1 (by decide) ?_
  refine mw_σ F hW 24 (by decide) fl_RX8_115 rfl (ty := .int) rfl rfl rfl rfl dX8_eRead_2 (fun H locs hW => ?_)
  refine lv_aload_n hx hb dX8_eRead_5 rfl (lv_at hl 0 rfl) ?_
  refine lv_iconst (v := 0) hx hb dX8_eRead_6 (by decide) ?_
  refine mw_σ F hW 25 (by decide) fl_RX8_121 rfl (ty := .int) rfl rfl rfl rfl dX8_eRead_7 (fun H locs hW => ?_)
  refine lv_iconst (v := 1) hx hb dX8_eRead_10 (by decide) ?_
  refine lv_istore_n (lv' := [(1, .int 1), (0, .ref (ad 0))]) hx hb dX8_eRead_11 rfl hl (by decide) rfl (fun ls hl => ?_)
  refine lv_iconst (v := 1) hx hb dX8_eRead_12 (by decide) ?_
  refine lv_istore_n (lv' := [(2, .int 1), (1, .int 1), (0, .ref (ad 0))]) hx hb dX8_eRead_13 rfl hl (by decide) rfl (fun ls hl => ?_)
  have L14 : ∀ (k : Nat) (f : Nat) (w mn mv : Bool) (K : List Nat) (x0 : Rs) (σ' : Nat → Nat → Int32), (f < k) → (mR β z f w mn K (nxR β z x0) = some RES) → (ErH n σ z K x0 σ') → (w = true → mv = mn) → ∀ (H : Heap) (locs : List Loc) (ls : Array Slot), MW D cA ad ρ T σ' A s s.heap H locs → lv_has ls 4 [(1, .int (bI w)), (2, .int (bI mv)), (0, .ref (ad 0))] → W p l e rm_yX8_eRead s m ar below meth c H locs 0 0 Q (F0 m 14 ls []) := by
    intro k
    induction k with
    | zero => intro f w mn mv K x0 σ' h2 hRR hH hmv; exact absurd h2 (by omega)
    | succ k ih14 =>
      intro f w mn mv K x0 σ' h2 hRR hH hmv H locs ls hW hl
      refine lv_aload_n hx hb dX8_eRead_14 rfl (lv_at hl 2 rfl) ?_
      refine gw_callVv (As := []) (rest := []) F hl.1 hW (fun _ _ _ => trivial) gw_T_E (by decide) (rfl : ment ad cA _ _ _ 0 = _) rfl (kX8_next (β := β) (z := z) (a := x0.1) ((hH.2.2.1.2.1 6 (by omega) (by omega)).trans hz) hz1 hH.2.2.2.1 hH.2.2.2.2.2.2 (fun j hj => (hβ j hj).trans (congrFun (hH.2.2.1.2.2 4 (by decide) (by decide) (by decide)) j).symm) (fun i q hi hq => (congrFun (hH.2.2.1.2.2 13 (by decide) (by decide) (by decide)) _).trans (hwd i q hi hq))) pd_yX8_next ml_RX8_134 im_yX8_next se_yX8_next ini_RX8 cd_yX8_next ⟨rfl, rfl⟩ ⟨Nat.le_of_ble_eq_true rfl, Nat.le_of_ble_eq_true rfl⟩ rfl rfl (Nat.le_of_ble_eq_true rfl) ⟨Nat.zero_le _, Nat.zero_le _⟩ dX8_eRead_15 (fun σn H locs hp hW _ _ => ?_)
      obtain ⟨wv, hu, hvo⟩ := hp
      subst hu
      have hEr : ErS n σ (nxR β z x0).2.2.1 K (nxR β z x0) (nmS σ' (nI (nxR β z x0).1) (nI (nxR β z x0).2.2.1) (tkM (nxR β z x0).2.1) wv) := er_nx hH
      have hyz := hH.2.2.2.2.2.2
      have hok : okL β z (nxR β z x0) := okL_nx hyz
      have hnb : nbL (nxR β z x0) := nb_nx hyz
      have htk : tkOK (nxR β z x0).2.1 := nxK_ok _ _ _
      have hnm : (nxR β z x0).2.1 = 2 → (nxR β z x0).2.2.2.1 = (numG β z 161 (nxR β z x0).2.2.1 0).2 := nx_num
      have hvo : vOK (nxR β z x0).2.1 (numG β z 161 (nxR β z x0).2.2.1 0).2 wv := hvo
      have hW : MW D cA ad ρ T (nmS σ' (nI (nxR β z x0).1) (nI (nxR β z x0).2.2.1) (tkM (nxR β z x0).2.1) wv) A s s.heap H locs := hW
      clear hH
      generalize nxR β z x0 = x' at hEr hok hnb htk hnm hvo hW hRR
      have htp := okL_at hok
      have hadv : ¬ x'.2.1 = 0 → x'.2.2.1 + 1 ≤ x'.1 := fun q => (okL_adv hok q).2
      obtain ⟨f', rfl⟩ := mR_s hRR
      have hnn' := (hEr.2.2.1.2.1 9 (by omega) (by omega)).trans hnn
      have hB := hEr.2.2.2.2.2.2
      have hoL := opN_len K
      refine lv_iload_n hx hb dX8_eRead_18 rfl (lv_at hl 0 rfl) ?_
      refine lv_if_eq (tgt := 150) hx hb dX8_eRead_19 (by decide) (fun c_1 => ?_) (fun c_1 => ?_)
      ·
        have hw : w = false := bI_0 c_1; rw [hw] at hRR hl
        refine lv_aload_n hx hb dX8_eRead_150 rfl (lv_at hl 2 rfl) ?_
        refine mr_f F hW 20 (by decide) rfl fl_RX8_102 dX8_eRead_151 ?_
        refine lv_as (z := tkM x'.2.1) (rfl) ?_
        refine lv_bipush (v := 59) hx hb dX8_eRead_154 (by decide) ?_
        refine lv_icmp_ne (tgt := 177) hx hb dX8_eRead_156 (by decide) (fun c_2 => ?_) (fun c_2 => ?_)
        ·
          have h59 : ¬ x'.2.1 = 59 := fun q => c_2 ((tk_iff htk).2.2.2.2.2.1.mpr q)
          refine lv_aload_n hx hb dX8_eRead_177 rfl (lv_at hl 2 rfl) ?_
          refine mr_f F hW 20 (by decide) rfl fl_RX8_102 dX8_eRead_178 ?_
          refine lv_as (z := tkM x'.2.1) (rfl) ?_
          refine lv_bipush (v := 41) hx hb dX8_eRead_181 (by decide) ?_
          refine lv_icmp_ne (tgt := 229) hx hb dX8_eRead_183 (by decide) (fun c_3 => ?_) (fun c_3 => ?_)
          ·
            have h41 : ¬ x'.2.1 = 41 := fun q => c_3 ((tk_iff htk).2.2.2.2.2.2.1.mpr q)
            refine lv_aload_n hx hb dX8_eRead_229 rfl (lv_at hl 2 rfl) ?_
            refine gw_callVi (As := []) (rest := []) F hl.1 hW (fun _ _ _ => trivial) gw_T_E (by decide) (rfl : ment ad cA _ _ _ 0 = _) rfl (kX8_signOf (k0 := x'.2.1) htk rfl) pd_yX8_signOf ml_RX8_141 im_yX8_signOf se_yX8_signOf ini_RX8 cd_yX8_signOf ⟨rfl, rfl⟩ ⟨Nat.le_of_ble_eq_true rfl, Nat.le_of_ble_eq_true rfl⟩ rfl rfl (Nat.le_of_ble_eq_true rfl) ⟨Nat.zero_le _, Nat.zero_le _⟩ dX8_eRead_230 (fun r u H locs hp hW _ _ => ?_)
            subst hp
            by_cases hs : sgM x'.2.1 = 0
            ·
              refine lv_as (z := -1) (sgM_sg0 hs) ?_
              have hR := mv_0 hRR h59 h41 hs
              refine lv_istore_n (lv' := [(3, .int (-1)), (1, .int 0), (2, .int (bI mv)), (0, .ref (ad 0))]) hx hb dX8_eRead_233 rfl hl (by decide) rfl (fun ls hl => ?_)
              refine lv_iload_n hx hb dX8_eRead_234 rfl (lv_at hl 0 rfl) ?_
              refine lv_iconst (v := (-1)) hx hb dX8_eRead_235 (by decide) ?_
              refine lv_icmp_eq (tgt := 247) hx hb dX8_eRead_236 (by decide) (fun c_4 => ?_) (fun c_4 => ?_)
              ·
                refine lv_iconst (v := 0) hx hb dX8_eRead_247 (by decide) ?_
                exact hret 0 (nmS σ' (nI x'.1) (nI x'.2.2.1) (tkM x'.2.1) wv) _ _ _ _ _ hW rfl rfl (er_bad hEr rfl hR) dX8_eRead_248
              ·
                exact absurd c_4 (by decide)
            ·
              refine lv_as (z := nI (sgM x'.2.1)) (sgM_sgR hs) ?_
              have hsk := sgM_ok hs
              have had := hadv (fun q => hs (by rw [q]; rfl))
              refine lv_istore_n (lv' := [(3, .int (nI (sgM x'.2.1))), (1, .int 0), (2, .int (bI mv)), (0, .ref (ad 0))]) hx hb dX8_eRead_233 rfl hl (by decide) rfl (fun ls hl => ?_)
              refine lv_iload_n hx hb dX8_eRead_234 rfl (lv_at hl 0 rfl) ?_
              refine lv_iconst (v := (-1)) hx hb dX8_eRead_235 (by decide) ?_
              refine lv_icmp_eq (tgt := 247) hx hb dX8_eRead_236 (by decide) (fun c_5 => ?_) (fun c_5 => ?_)
              ·
                exact (sgM_m1 c_5).elim
              ·
                refine lv_aload_n hx hb dX8_eRead_239 rfl (lv_at hl 3 rfl) ?_
                refine lv_iload_n hx hb dX8_eRead_240 rfl (lv_at hl 0 rfl) ?_
                refine gw_callVi (As := [.int (nI (sgM x'.2.1))]) (rest := []) F hl.1 hW (fun _ _ _ => trivial) gw_T_E (by decide) (rfl : ment ad cA _ _ _ 0 = _) rfl (kX8_between (n := n) (sg := sgM x'.2.1) (K := K) (x := x') hnn' hn5 hsk.1 hsk.2.1 hsk.2.2.1 hEr.1 hEr.2.1 hEr.2.2.2.2.2.1 (by omega)) pd_yX8_between ml_RX8_144 im_yX8_between se_yX8_between ini_RX8 cd_yX8_between ⟨rfl, rfl⟩ ⟨Nat.le_of_ble_eq_true rfl, Nat.le_of_ble_eq_true rfl⟩ rfl rfl (Nat.le_of_ble_eq_true rfl) ⟨Nat.zero_le _, Nat.zero_le _⟩ dX8_eRead_241 (fun ro σo H locs hp hW _ _ => ?_)
                refine lv_if_ne (tgt := 249) hx hb dX8_eRead_244 (by decide) (fun c_6 => ?_) (fun c_6 => ?_)
                ·
                  obtain ⟨hc, hr, h1, hO2, hW2⟩ := hp.resolve_left (fun q => c_6 q.2.1); have hEr := er_btw hEr (by omega) hsk.2.2.2 h1 hO2 hW2; have hRR := (mv_op hRR h59 h41 hs).2 hc
                  refine lv_iconst (v := 1) hx hb dX8_eRead_249 (by decide) ?_
                  refine lv_istore_n (lv' := [(1, .int 1), (3, .int (nI (sgM x'.2.1))), (2, .int (bI mv)), (0, .ref (ad 0))]) hx hb dX8_eRead_250 rfl hl (by decide) rfl (fun ls hl => ?_)
                  refine lv_iload_n hx hb dX8_eRead_251 rfl (lv_at hl 1 rfl) ?_
                  refine lv_bipush (v := 12) hx hb dX8_eRead_252 (by decide) ?_
                  refine lv_icmp_gt (tgt := 261) hx hb dX8_eRead_254 (by decide) (fun c_7 => ?_) (fun c_7 => ?_)
                  ·
                    refine lv_iconst (v := 0) hx hb dX8_eRead_261 (by decide) ?_
                    refine lv_istore_n (lv' := [(2, .int 0), (1, .int 1), (3, .int (nI (sgM x'.2.1))), (0, .ref (ad 0))]) hx hb dX8_eRead_262 rfl hl (by decide) rfl (fun ls hl => ?_)
                    refine lv_goto (tgt := 14) hx hb dX8_eRead_263 (by decide) ?_
                    exact ih14 f' true (decide (sgM x'.2.1 ≤ 12)) false (sgM x'.2.1 :: (popU (if rkN (sgM x'.2.1) = 4 then 5 else rkN (sgM x'.2.1)) K x').1) ((popU (if rkN (sgM x'.2.1) = 4 then 5 else rkN (sgM x'.2.1)) K x').2) _ (by omega) (hRR) (er_hd hEr (by rw [(popU_at _ _).1]; omega) (by rw [(popU_at _ _).1]; omega)) (fun _ => (decide_eq_false (Nat.not_le.mpr (mi_lt (a := 12) c_7 (by decide) (by omega)))).symm) _ _ _ hW (lv_sub hl [1, 0, 3] rfl)
                  ·
                    refine lv_iconst (v := 1) hx hb dX8_eRead_257 (by decide) ?_
                    refine lv_goto (tgt := 262) hx hb dX8_eRead_258 (by decide) ?_
                    refine lv_istore_n (lv' := [(2, .int 1), (1, .int 1), (3, .int (nI (sgM x'.2.1))), (0, .ref (ad 0))]) hx hb dX8_eRead_262 rfl hl (by decide) rfl (fun ls hl => ?_)
                    refine lv_goto (tgt := 14) hx hb dX8_eRead_263 (by decide) ?_
                    exact ih14 f' true (decide (sgM x'.2.1 ≤ 12)) true (sgM x'.2.1 :: (popU (if rkN (sgM x'.2.1) = 4 then 5 else rkN (sgM x'.2.1)) K x').1) ((popU (if rkN (sgM x'.2.1) = 4 then 5 else rkN (sgM x'.2.1)) K x').2) _ (by omega) (hRR) (er_hd hEr (by rw [(popU_at _ _).1]; omega) (by rw [(popU_at _ _).1]; omega)) (fun _ => (decide_eq_true (mi_nlt (a := 12) c_7 (by decide) (by omega))).symm) _ _ _ hW (lv_sub hl [1, 0, 3] rfl)
                ·
                  obtain ⟨hc, hr, hW2⟩ := hp.resolve_right (fun q => absurd (q.2.1.symm.trans c_6) (by decide)); have hR := (mv_op hRR h59 h41 hs).1 hc
                  refine lv_iconst (v := 0) hx hb dX8_eRead_247 (by decide) ?_
                  exact hret 0 σo _ _ _ _ _ hW rfl rfl (er_bad2 hEr hW2 hR) dX8_eRead_248
          ·
            have h41 := (tk_iff htk).2.2.2.2.2.2.1.mp c_3; have had := hadv (by rw [h41]; decide)
            refine lv_aload_n hx hb dX8_eRead_186 rfl (lv_at hl 2 rfl) ?_
            refine lv_iconst (v := 1) hx hb dX8_eRead_187 (by decide) ?_
            refine lv_as (z := nI 1) (rfl) ?_
            refine gw_callVv (As := [.int (nI 1)]) (rest := []) F hl.1 hW (fun _ _ _ => trivial) gw_T_E (by decide) (rfl : ment ad cA _ _ _ 0 = _) rfl (kX8_unwinds (n := n) (r := 1) (K := K) (x := x') hnn' hn5 (by decide) (by decide) hEr.1 hEr.2.1 hEr.2.2.2.2.2.1 (Nat.le_trans hEr.2.2.2.2.2.2 (by omega))) pd_yX8_unwinds ml_RX8_131 im_yX8_unwinds se_yX8_unwinds ini_RX8 cd_yX8_unwinds ⟨rfl, rfl⟩ ⟨Nat.le_of_ble_eq_true rfl, Nat.le_of_ble_eq_true rfl⟩ rfl rfl (Nat.le_of_ble_eq_true rfl) ⟨Nat.zero_le _, Nat.zero_le _⟩ dX8_eRead_188 (fun σu_8 H locs hp hW _ _ => ?_)
            have hEr := er_unw hEr (by omega) hp
            have hnn' := (hEr.2.2.1.2.1 9 (by omega) (by omega)).trans hnn
            refine lv_aload_n hx hb dX8_eRead_191 rfl (lv_at hl 2 rfl) ?_
            refine mr_f F hW 24 (by decide) rfl fl_RX8_115 dX8_eRead_192 ?_
            refine lv_as (z := nI ((popU 1 K x').1.length)) (hEr.1.1) ?_
            refine lv_if_ne (tgt := 200) hx hb dX8_eRead_195 (by decide) (fun c_9 => ?_) (fun c_9 => ?_)
            ·
              obtain ⟨s0, K2, hP⟩ : ∃ s0 K2, (popU 1 K x').1 = s0 :: K2 := (by cases hq : (popU 1 K x').1 with | nil => exact absurd (by rw [hq]; rfl) c_9 | cons a K2 => exact ⟨a, K2, rfl⟩); have hRR := (mv_41 hRR h59 h41).2 s0 K2 hP; rw [hP] at hEr; obtain rfl : s0 = 0 := rk_0 (hEr.2.2.2.2.2.1 s0 (by simp)) (popU_hd K x' s0 K2 hP); have hB2 : K2.length + 1 + (popU 1 K x').2.2.2.2.2.length ≤ x'.2.2.1 := hEr.2.2.2.2.2.2
              refine lv_aload_n hx hb dX8_eRead_200 rfl (lv_at hl 2 rfl) ?_
              refine lv_dup hx hb dX8_eRead_201 rfl ?_
              refine mr_f F hW 24 (by decide) rfl fl_RX8_115 dX8_eRead_202 ?_
              refine lv_as (z := nI (K2.length + 1)) (hEr.1.1) ?_
              refine lv_iconst (v := 1) hx hb dX8_eRead_205 (by decide) ?_
              refine lv_isub hx hb dX8_eRead_206 ?_
              refine lv_as (z := nI K2.length) (nI_pred _) ?_
              refine mw_σ F hW 24 (by decide) fl_RX8_115 rfl (ty := .int) rfl rfl rfl rfl dX8_eRead_207 (fun H locs hW => ?_)
              refine lv_aload_n hx hb dX8_eRead_210 rfl (lv_at hl 2 rfl) ?_
              refine lv_dup hx hb dX8_eRead_211 rfl ?_
              refine mr_f F hW 25 (by decide) rfl fl_RX8_121 dX8_eRead_212 ?_
              refine lv_as (z := nI (opN (0 :: K2))) (by rw [upR_self, pk_un (by decide)]; exact hEr.1.2.1) ?_
              refine lv_iconst (v := 1) hx hb dX8_eRead_215 (by decide) ?_
              refine lv_isub hx hb dX8_eRead_216 ?_
              refine lv_as (z := nI (opN K2)) (by rw [opN_un (by omega), Nat.add_comm]; exact nI_pred _) ?_
              refine mw_σ F hW 25 (by decide) fl_RX8_121 rfl (ty := .int) rfl rfl rfl rfl dX8_eRead_217 (fun H locs hW => ?_)
              have hEr := er_pop0 hEr
              have hnn' := (hEr.2.2.1.2.1 9 (by omega) (by omega)).trans hnn
              refine lv_aload_n hx hb dX8_eRead_220 rfl (lv_at hl 2 rfl) ?_
              refine lv_bipush (v := 7) hx hb dX8_eRead_221 (by decide) ?_
              refine lv_as (z := nI 7) (rfl) ?_
              refine gw_callVv (As := [.int (nI 7)]) (rest := []) F hl.1 hW (fun _ _ _ => trivial) gw_T_E (by decide) (rfl : ment ad cA _ _ _ 0 = _) rfl (kX8_unwinds (n := n) (r := 7) (K := K2) (x := (popU 1 K x').2) hnn' hn5 (by decide) (by decide) hEr.1 hEr.2.1 hEr.2.2.2.2.2.1 (Nat.le_trans hEr.2.2.2.2.2.2 (by omega))) pd_yX8_unwinds ml_RX8_131 im_yX8_unwinds se_yX8_unwinds ini_RX8 cd_yX8_unwinds ⟨rfl, rfl⟩ ⟨Nat.le_of_ble_eq_true rfl, Nat.le_of_ble_eq_true rfl⟩ rfl rfl (Nat.le_of_ble_eq_true rfl) ⟨Nat.zero_le _, Nat.zero_le _⟩ dX8_eRead_223 (fun σu_10 H locs hp hW _ _ => ?_)
              have hEr := er_unw hEr (by omega) hp
              have hnn' := (hEr.2.2.1.2.1 9 (by omega) (by omega)).trans hnn
              refine lv_goto (tgt := 14) hx hb dX8_eRead_226 (by decide) ?_
              exact ih14 f' false false mv ((popU 7 K2 ((popU 1 K x').2)).1) ((popU 7 K2 ((popU 1 K x').2)).2) _ (by omega) (hRR) (er_hd hEr (by rw [(popU_at _ _).1, (popU_at _ _).1]; omega) (by rw [(popU_at _ _).1, (popU_at _ _).1]; omega)) (fun q => ft q) _ _ _ hW (lv_sub hl [0, 1, 2] rfl)
            ·
              have hR := (mv_41 hRR h59 h41).1 (List.eq_nil_of_length_eq_zero (nI_i (b := 0) (by have := hEr.2.2.2.2.2.2; omega) (by decide) c_9))
              refine lv_iconst (v := 0) hx hb dX8_eRead_198 (by decide) ?_
              exact hret 0 σu_8 _ _ _ _ _ hW rfl rfl (er_bad hEr (popU_fst 1 K x') hR) dX8_eRead_199
        ·
          have h59 := (tk_iff htk).2.2.2.2.2.1.mp c_2
          refine lv_aload_n hx hb dX8_eRead_159 rfl (lv_at hl 2 rfl) ?_
          refine lv_iconst (v := 1) hx hb dX8_eRead_160 (by decide) ?_
          refine lv_as (z := nI 1) (rfl) ?_
          refine gw_callVv (As := [.int (nI 1)]) (rest := []) F hl.1 hW (fun _ _ _ => trivial) gw_T_E (by decide) (rfl : ment ad cA _ _ _ 0 = _) rfl (kX8_unwinds (n := n) (r := 1) (K := K) (x := x') hnn' hn5 (by decide) (by decide) hEr.1 hEr.2.1 hEr.2.2.2.2.2.1 (Nat.le_trans hEr.2.2.2.2.2.2 (by omega))) pd_yX8_unwinds ml_RX8_131 im_yX8_unwinds se_yX8_unwinds ini_RX8 cd_yX8_unwinds ⟨rfl, rfl⟩ ⟨Nat.le_of_ble_eq_true rfl, Nat.le_of_ble_eq_true rfl⟩ rfl rfl (Nat.le_of_ble_eq_true rfl) ⟨Nat.zero_le _, Nat.zero_le _⟩ dX8_eRead_161 (fun σu_11 H locs hp hW _ _ => ?_)
          have hEr := er_unw hEr (by omega) hp
          have hnn' := (hEr.2.2.1.2.1 9 (by omega) (by omega)).trans hnn
          refine lv_aload_n hx hb dX8_eRead_164 rfl (lv_at hl 2 rfl) ?_
          refine mr_f F hW 24 (by decide) rfl fl_RX8_115 dX8_eRead_165 ?_
          refine lv_as (z := nI ((popU 1 K x').1.length)) (hEr.1.1) ?_
          refine lv_if_ne (tgt := 175) hx hb dX8_eRead_168 (by decide) (fun c_12 => ?_) (fun c_12 => ?_)
          ·
            have hR := (mv_59 hRR h59).2 (fun q => c_12 (by rw [q]; rfl))
            refine lv_iconst (v := 0) hx hb dX8_eRead_175 (by decide) ?_
            exact hret 0 σu_11 _ _ _ _ _ hW rfl rfl (er_bad hEr (popU_fst 1 K x') hR) dX8_eRead_176
          ·
            have hR := (mv_59 hRR h59).1 (List.eq_nil_of_length_eq_zero (nI_i (b := 0) (by have := hEr.2.2.2.2.2.2; omega) (by decide) c_12))
            refine lv_iconst (v := 1) hx hb dX8_eRead_171 (by decide) ?_
            refine lv_goto (tgt := 176) hx hb dX8_eRead_172 (by decide) ?_
            exact hret 1 σu_11 _ _ _ _ _ hW rfl rfl (er_good hEr hR) dX8_eRead_176
      ·
        have hw : w = true := bI_1 c_1; rw [hw, ← hmv hw] at hRR; rw [hw] at hl
        refine lv_aload_n hx hb dX8_eRead_22 rfl (lv_at hl 2 rfl) ?_
        refine mr_f F hW 20 (by decide) rfl fl_RX8_102 dX8_eRead_23 ?_
        refine lv_as (z := tkM x'.2.1) (rfl) ?_
        refine lv_iconst (v := 1) hx hb dX8_eRead_26 (by decide) ?_
        refine lv_icmp_eq (tgt := 38) hx hb dX8_eRead_27 (by decide) (fun c_13 => ?_) (fun c_13 => ?_)
        ·
          have hn2 : x'.2.1 = 2 := (tk_iff htk).1.mp c_13; have hNN : isNN x' := Or.inl hn2; have had := hadv (nn_0 hNN)
          refine lv_aload_n hx hb dX8_eRead_38 rfl (lv_at hl 2 rfl) ?_
          refine lv_aload_n hx hb dX8_eRead_39 rfl (lv_at hl 2 rfl) ?_
          refine mr_f F hW 20 (by decide) rfl fl_RX8_102 dX8_eRead_40 ?_
          refine lv_as (z := tkM x'.2.1) (rfl) ?_
          refine lv_iconst (v := 1) hx hb dX8_eRead_43 (by decide) ?_
          refine lv_icmp_ne (tgt := 57) hx hb dX8_eRead_44 (by decide) (fun c_14 => ?_) (fun c_14 => ?_)
          ·
            exact (c_14 ((tk_iff htk).1.mpr hn2)).elim
          ·
            refine lv_ldc (v := 100000) hx hb hown (hts _ kc_RX8_137) dX8_eRead_47 ?_
            refine lv_aload_n hx hb dX8_eRead_49 rfl (lv_at hl 2 rfl) ?_
            refine mr_f F hW 21 (by decide) rfl fl_RX8_105 dX8_eRead_50 ?_
            refine lv_as (z := wv) (rfl) ?_
            refine lv_iadd hx hb dX8_eRead_53 ?_
            refine lv_goto (tgt := 61) hx hb dX8_eRead_54 (by decide) ?_
            refine lv_as (z := encM (nnC x')) (en_num hn2 hvo (hnm hn2) hnb) ?_
            refine gw_callVv (As := [.int (encM (nnC x'))]) (rest := []) F hl.1 hW (fun _ _ _ => trivial) gw_T_E (by decide) (rfl : ment ad cA _ _ _ 0 = _) rfl (kX8_puts (n := n) (w := x'.2.2.2.2.length) hnn' hn5 hEr.2.1.1 (by omega)) pd_yX8_puts ml_RX8_124 im_yX8_puts se_yX8_puts ini_RX8 cd_yX8_puts ⟨rfl, rfl⟩ ⟨Nat.le_of_ble_eq_true rfl, Nat.le_of_ble_eq_true rfl⟩ rfl rfl (Nat.le_of_ble_eq_true rfl) ⟨Nat.zero_le _, Nat.zero_le _⟩ dX8_eRead_61 (fun σp H locs hp hW _ _ => ?_)
            subst hp
            have hEr := er_put hEr (by omega) (rfl : encM (nnC x') = _)
            have hnn' := (hEr.2.2.1.2.1 9 (by omega) (by omega)).trans hnn
            refine lv_aload_n hx hb dX8_eRead_64 rfl (lv_at hl 2 rfl) ?_
            refine lv_bipush (v := 7) hx hb dX8_eRead_65 (by decide) ?_
            refine lv_as (z := nI 7) (rfl) ?_
            refine gw_callVv (As := [.int (nI 7)]) (rest := []) F hl.1 hW (fun _ _ _ => trivial) gw_T_E (by decide) (rfl : ment ad cA _ _ _ 0 = _) rfl (kX8_unwinds (n := n) (r := 7) (K := K) (x := wrR (nnC x') x') hnn' hn5 (by decide) (by decide) hEr.1 hEr.2.1 hEr.2.2.2.2.2.1 (Nat.le_trans hEr.2.2.2.2.2.2 (by omega))) pd_yX8_unwinds ml_RX8_131 im_yX8_unwinds se_yX8_unwinds ini_RX8 cd_yX8_unwinds ⟨rfl, rfl⟩ ⟨Nat.le_of_ble_eq_true rfl, Nat.le_of_ble_eq_true rfl⟩ rfl rfl (Nat.le_of_ble_eq_true rfl) ⟨Nat.zero_le _, Nat.zero_le _⟩ dX8_eRead_67 (fun σu_15 H locs hp hW _ _ => ?_)
            have hEr := er_unw hEr (by omega) hp
            have hnn' := (hEr.2.2.1.2.1 9 (by omega) (by omega)).trans hnn
            refine lv_iconst (v := 0) hx hb dX8_eRead_70 (by decide) ?_
            refine lv_istore_n (lv' := [(1, .int 0), (2, .int (bI mv)), (0, .ref (ad 0))]) hx hb dX8_eRead_71 rfl hl (by decide) rfl (fun ls hl => ?_)
            have hRR := mv_nn hRR hNN
            refine lv_goto (tgt := 14) hx hb dX8_eRead_72 (by decide) ?_
            exact ih14 f' false false mv ((popU 7 K (wrR (nnC x') x')).1) ((popU 7 K (wrR (nnC x') x')).2) _ (by omega) (hRR) (er_hd hEr (by rw [(popU_at _ _).1]; show _ ≤ x'.1; omega) (by rw [(popU_at _ _).1]; show x'.1 ≤ z; omega)) (fun q => ft q) _ _ _ hW (lv_sub hl [0, 1, 2] rfl)
        ·
          have hn2 : ¬ x'.2.1 = 2 := fun q => c_13 ((tk_iff htk).1.mpr q)
          refine lv_aload_n hx hb dX8_eRead_30 rfl (lv_at hl 2 rfl) ?_
          refine mr_f F hW 20 (by decide) rfl fl_RX8_102 dX8_eRead_31 ?_
          refine lv_as (z := tkM x'.2.1) (rfl) ?_
          refine lv_iconst (v := 2) hx hb dX8_eRead_34 (by decide) ?_
          refine lv_icmp_ne (tgt := 75) hx hb dX8_eRead_35 (by decide) (fun c_16 => ?_) (fun c_16 => ?_)
          ·
            have hNN : ¬ isNN x' := fun q => q.elim hn2 (fun w => c_16 ((tk_iff htk).2.1.mpr w))
            refine lv_aload_n hx hb dX8_eRead_75 rfl (lv_at hl 2 rfl) ?_
            refine mr_f F hW 20 (by decide) rfl fl_RX8_102 dX8_eRead_76 ?_
            refine lv_as (z := tkM x'.2.1) (rfl) ?_
            refine lv_bipush (v := 6) hx hb dX8_eRead_79 (by decide) ?_
            refine lv_icmp_ne (tgt := 99) hx hb dX8_eRead_81 (by decide) (fun c_17 => ?_) (fun c_17 => ?_)
            ·
              have h9n : ¬ (x'.2.1 = -9 ∧ mv = true) := fun q => c_17 ((tk_iff htk).2.2.1.mpr q.1)
              refine lv_aload_n hx hb dX8_eRead_99 rfl (lv_at hl 2 rfl) ?_
              refine mr_f F hW 20 (by decide) rfl fl_RX8_102 dX8_eRead_100 ?_
              refine lv_as (z := tkM x'.2.1) (rfl) ?_
              refine lv_bipush (v := 45) hx hb dX8_eRead_103 (by decide) ?_
              refine lv_icmp_ne (tgt := 124) hx hb dX8_eRead_105 (by decide) (fun c_18 => ?_) (fun c_18 => ?_)
              ·
                have h45 : ¬ x'.2.1 = 45 := fun q => c_18 ((tk_iff htk).2.2.2.1.mpr q)
                refine lv_aload_n hx hb dX8_eRead_124 rfl (lv_at hl 2 rfl) ?_
                refine mr_f F hW 20 (by decide) rfl fl_RX8_102 dX8_eRead_125 ?_
                refine lv_as (z := tkM x'.2.1) (rfl) ?_
                refine lv_bipush (v := 40) hx hb dX8_eRead_128 (by decide) ?_
                refine lv_icmp_ne (tgt := 148) hx hb dX8_eRead_130 (by decide) (fun c_19 => ?_) (fun c_19 => ?_)
                ·
                  have h40 : ¬ x'.2.1 = 40 := fun q => c_19 ((tk_iff htk).2.2.2.2.1.mpr q); have hR := mv_els hRR hNN h9n h45 h40
                  refine lv_iconst (v := 0) hx hb dX8_eRead_148 (by decide) ?_
                  exact hret 0 (nmS σ' (nI x'.1) (nI x'.2.2.1) (tkM x'.2.1) wv) _ _ _ _ _ hW rfl rfl (er_bad hEr rfl hR) dX8_eRead_149
                ·
                  have h40 := (tk_iff htk).2.2.2.2.1.mp c_19; have had := hadv (by rw [h40]; decide)
                  refine lv_aload_n hx hb dX8_eRead_133 rfl (lv_at hl 2 rfl) ?_
                  refine lv_iconst (v := 0) hx hb dX8_eRead_134 (by decide) ?_
                  refine lv_as (z := nI 0) (rfl) ?_
                  refine gw_callVi (As := [.int (nI 0)]) (rest := []) F hl.1 hW (fun _ _ _ => trivial) gw_T_E (by decide) (rfl : ment ad cA _ _ _ 0 = _) rfl (kX8_opensOne (h := K.length) (o := opN K) (v := nI 0) hEr.1.1 (by omega) hEr.1.2.1 (by omega)) pd_yX8_opensOne ml_RX8_138 im_yX8_opensOne se_yX8_opensOne ini_RX8 cd_yX8_opensOne ⟨rfl, rfl⟩ ⟨Nat.le_of_ble_eq_true rfl, Nat.le_of_ble_eq_true rfl⟩ rfl rfl (Nat.le_of_ble_eq_true rfl) ⟨Nat.zero_le _, Nat.zero_le _⟩ dX8_eRead_135 (fun ro σo H locs hp hW _ _ => ?_)
                  obtain ⟨hr, hu⟩ := hp
                  refine lv_if_ne (tgt := 143) hx hb dX8_eRead_138 (by decide) (fun c_20 => ?_) (fun c_20 => ?_)
                  ·
                    have ho : ¬ opN K = 5 := fun q => c_20 (by rw [hr, if_pos q]); rw [if_neg ho] at hu; subst hu; have hEr := er_push (s := 0) hEr (by omega); have hRR := (mv_40 hRR h40).2 ho
                    refine lv_iconst (v := 1) hx hb dX8_eRead_143 (by decide) ?_
                    refine lv_istore_n (lv' := [(2, .int 1), (1, .int 1), (0, .ref (ad 0))]) hx hb dX8_eRead_144 rfl hl (by decide) rfl (fun ls hl => ?_)
                    refine lv_goto (tgt := 14) hx hb dX8_eRead_145 (by decide) ?_
                    exact ih14 f' true true true (0 :: K) x' _ (by omega) (hRR) (er_hd hEr (by omega) (by omega)) (fun _ => rfl) _ _ _ hW (lv_sub hl [1, 0, 2] rfl)
                  ·
                    have ho : opN K = 5 := Decidable.byContradiction (fun q => absurd c_20 (by rw [hr, if_neg q]; decide)); rw [if_pos ho] at hu; subst hu; have hR := (mv_40 hRR h40).1 ho
                    refine lv_iconst (v := 0) hx hb dX8_eRead_141 (by decide) ?_
                    exact hret 0 (nmS σ' (nI x'.1) (nI x'.2.2.1) (tkM x'.2.1) wv) _ _ _ _ _ hW rfl rfl (er_bad hEr rfl hR) dX8_eRead_142
              ·
                have h45 := (tk_iff htk).2.2.2.1.mp c_18; have had := hadv (by rw [h45]; decide)
                refine lv_aload_n hx hb dX8_eRead_108 rfl (lv_at hl 2 rfl) ?_
                refine lv_bipush (v := 19) hx hb dX8_eRead_109 (by decide) ?_
                refine lv_as (z := nI 19) (rfl) ?_
                refine gw_callVi (As := [.int (nI 19)]) (rest := []) F hl.1 hW (fun _ _ _ => trivial) gw_T_E (by decide) (rfl : ment ad cA _ _ _ 0 = _) rfl (kX8_opensOne (h := K.length) (o := opN K) (v := nI 19) hEr.1.1 (by omega) hEr.1.2.1 (by omega)) pd_yX8_opensOne ml_RX8_138 im_yX8_opensOne se_yX8_opensOne ini_RX8 cd_yX8_opensOne ⟨rfl, rfl⟩ ⟨Nat.le_of_ble_eq_true rfl, Nat.le_of_ble_eq_true rfl⟩ rfl rfl (Nat.le_of_ble_eq_true rfl) ⟨Nat.zero_le _, Nat.zero_le _⟩ dX8_eRead_111 (fun ro σo H locs hp hW _ _ => ?_)
                obtain ⟨hr, hu⟩ := hp
                refine lv_if_ne (tgt := 119) hx hb dX8_eRead_114 (by decide) (fun c_21 => ?_) (fun c_21 => ?_)
                ·
                  have ho : ¬ opN K = 5 := fun q => c_21 (by rw [hr, if_pos q]); rw [if_neg ho] at hu; subst hu; have hEr := er_push (s := 19) hEr (by omega); have hRR := (mv_45 hRR h45).2 ho
                  refine lv_iconst (v := 0) hx hb dX8_eRead_119 (by decide) ?_
                  refine lv_istore_n (lv' := [(2, .int 0), (1, .int 1), (0, .ref (ad 0))]) hx hb dX8_eRead_120 rfl hl (by decide) rfl (fun ls hl => ?_)
                  refine lv_goto (tgt := 14) hx hb dX8_eRead_121 (by decide) ?_
                  exact ih14 f' true false false (19 :: K) x' _ (by omega) (hRR) (er_hd hEr (by omega) (by omega)) (fun _ => rfl) _ _ _ hW (lv_sub hl [1, 0, 2] rfl)
                ·
                  have ho : opN K = 5 := Decidable.byContradiction (fun q => absurd c_21 (by rw [hr, if_neg q]; decide)); rw [if_pos ho] at hu; subst hu; have hR := (mv_45 hRR h45).1 ho
                  refine lv_iconst (v := 0) hx hb dX8_eRead_117 (by decide) ?_
                  exact hret 0 (nmS σ' (nI x'.1) (nI x'.2.2.1) (tkM x'.2.1) wv) _ _ _ _ _ hW rfl rfl (er_bad hEr rfl hR) dX8_eRead_118
            ·
              have h9 := (tk_iff htk).2.2.1.mp c_17; have had := hadv (by rw [h9]; decide)
              refine lv_iload_n hx hb dX8_eRead_84 rfl (lv_at hl 1 rfl) ?_
              refine lv_if_eq (tgt := 99) hx hb dX8_eRead_85 (by decide) (fun c_22 => ?_) (fun c_22 => ?_)
              ·
                have h9n : ¬ (x'.2.1 = -9 ∧ mv = true) := fun q => absurd (q.2.symm.trans (bI_0 c_22)) (by decide)
                refine lv_aload_n hx hb dX8_eRead_99 rfl (lv_at hl 2 rfl) ?_
                refine mr_f F hW 20 (by decide) rfl fl_RX8_102 dX8_eRead_100 ?_
                refine lv_as (z := tkM x'.2.1) (rfl) ?_
                refine lv_bipush (v := 45) hx hb dX8_eRead_103 (by decide) ?_
                refine lv_icmp_ne (tgt := 124) hx hb dX8_eRead_105 (by decide) (fun c_23 => ?_) (fun c_23 => ?_)
                ·
                  have h45 : ¬ x'.2.1 = 45 := fun q => c_23 ((tk_iff htk).2.2.2.1.mpr q)
                  refine lv_aload_n hx hb dX8_eRead_124 rfl (lv_at hl 2 rfl) ?_
                  refine mr_f F hW 20 (by decide) rfl fl_RX8_102 dX8_eRead_125 ?_
                  refine lv_as (z := tkM x'.2.1) (rfl) ?_
                  refine lv_bipush (v := 40) hx hb dX8_eRead_128 (by decide) ?_
                  refine lv_icmp_ne (tgt := 148) hx hb dX8_eRead_130 (by decide) (fun c_24 => ?_) (fun c_24 => ?_)
                  ·
                    have h40 : ¬ x'.2.1 = 40 := fun q => c_24 ((tk_iff htk).2.2.2.2.1.mpr q); have hR := mv_els hRR hNN h9n h45 h40
                    refine lv_iconst (v := 0) hx hb dX8_eRead_148 (by decide) ?_
                    exact hret 0 (nmS σ' (nI x'.1) (nI x'.2.2.1) (tkM x'.2.1) wv) _ _ _ _ _ hW rfl rfl (er_bad hEr rfl hR) dX8_eRead_149
                  ·
                    have h40 := (tk_iff htk).2.2.2.2.1.mp c_24; have had := hadv (by rw [h40]; decide)
                    refine lv_aload_n hx hb dX8_eRead_133 rfl (lv_at hl 2 rfl) ?_
                    refine lv_iconst (v := 0) hx hb dX8_eRead_134 (by decide) ?_
                    refine lv_as (z := nI 0) (rfl) ?_
                    refine gw_callVi (As := [.int (nI 0)]) (rest := []) F hl.1 hW (fun _ _ _ => trivial) gw_T_E (by decide) (rfl : ment ad cA _ _ _ 0 = _) rfl (kX8_opensOne (h := K.length) (o := opN K) (v := nI 0) hEr.1.1 (by omega) hEr.1.2.1 (by omega)) pd_yX8_opensOne ml_RX8_138 im_yX8_opensOne se_yX8_opensOne ini_RX8 cd_yX8_opensOne ⟨rfl, rfl⟩ ⟨Nat.le_of_ble_eq_true rfl, Nat.le_of_ble_eq_true rfl⟩ rfl rfl (Nat.le_of_ble_eq_true rfl) ⟨Nat.zero_le _, Nat.zero_le _⟩ dX8_eRead_135 (fun ro σo H locs hp hW _ _ => ?_)
                    obtain ⟨hr, hu⟩ := hp
                    refine lv_if_ne (tgt := 143) hx hb dX8_eRead_138 (by decide) (fun c_25 => ?_) (fun c_25 => ?_)
                    ·
                      have ho : ¬ opN K = 5 := fun q => c_25 (by rw [hr, if_pos q]); rw [if_neg ho] at hu; subst hu; have hEr := er_push (s := 0) hEr (by omega); have hRR := (mv_40 hRR h40).2 ho
                      refine lv_iconst (v := 1) hx hb dX8_eRead_143 (by decide) ?_
                      refine lv_istore_n (lv' := [(2, .int 1), (1, .int 1), (0, .ref (ad 0))]) hx hb dX8_eRead_144 rfl hl (by decide) rfl (fun ls hl => ?_)
                      refine lv_goto (tgt := 14) hx hb dX8_eRead_145 (by decide) ?_
                      exact ih14 f' true true true (0 :: K) x' _ (by omega) (hRR) (er_hd hEr (by omega) (by omega)) (fun _ => rfl) _ _ _ hW (lv_sub hl [1, 0, 2] rfl)
                    ·
                      have ho : opN K = 5 := Decidable.byContradiction (fun q => absurd c_25 (by rw [hr, if_neg q]; decide)); rw [if_pos ho] at hu; subst hu; have hR := (mv_40 hRR h40).1 ho
                      refine lv_iconst (v := 0) hx hb dX8_eRead_141 (by decide) ?_
                      exact hret 0 (nmS σ' (nI x'.1) (nI x'.2.2.1) (tkM x'.2.1) wv) _ _ _ _ _ hW rfl rfl (er_bad hEr rfl hR) dX8_eRead_142
                ·
                  have h45 := (tk_iff htk).2.2.2.1.mp c_23; have had := hadv (by rw [h45]; decide)
                  refine lv_aload_n hx hb dX8_eRead_108 rfl (lv_at hl 2 rfl) ?_
                  refine lv_bipush (v := 19) hx hb dX8_eRead_109 (by decide) ?_
                  refine lv_as (z := nI 19) (rfl) ?_
                  refine gw_callVi (As := [.int (nI 19)]) (rest := []) F hl.1 hW (fun _ _ _ => trivial) gw_T_E (by decide) (rfl : ment ad cA _ _ _ 0 = _) rfl (kX8_opensOne (h := K.length) (o := opN K) (v := nI 19) hEr.1.1 (by omega) hEr.1.2.1 (by omega)) pd_yX8_opensOne ml_RX8_138 im_yX8_opensOne se_yX8_opensOne ini_RX8 cd_yX8_opensOne ⟨rfl, rfl⟩ ⟨Nat.le_of_ble_eq_true rfl, Nat.le_of_ble_eq_true rfl⟩ rfl rfl (Nat.le_of_ble_eq_true rfl) ⟨Nat.zero_le _, Nat.zero_le _⟩ dX8_eRead_111 (fun ro σo H locs hp hW _ _ => ?_)
                  obtain ⟨hr, hu⟩ := hp
                  refine lv_if_ne (tgt := 119) hx hb dX8_eRead_114 (by decide) (fun c_26 => ?_) (fun c_26 => ?_)
                  ·
                    have ho : ¬ opN K = 5 := fun q => c_26 (by rw [hr, if_pos q]); rw [if_neg ho] at hu; subst hu; have hEr := er_push (s := 19) hEr (by omega); have hRR := (mv_45 hRR h45).2 ho
                    refine lv_iconst (v := 0) hx hb dX8_eRead_119 (by decide) ?_
                    refine lv_istore_n (lv' := [(2, .int 0), (1, .int 1), (0, .ref (ad 0))]) hx hb dX8_eRead_120 rfl hl (by decide) rfl (fun ls hl => ?_)
                    refine lv_goto (tgt := 14) hx hb dX8_eRead_121 (by decide) ?_
                    exact ih14 f' true false false (19 :: K) x' _ (by omega) (hRR) (er_hd hEr (by omega) (by omega)) (fun _ => rfl) _ _ _ hW (lv_sub hl [1, 0, 2] rfl)
                  ·
                    have ho : opN K = 5 := Decidable.byContradiction (fun q => absurd c_26 (by rw [hr, if_neg q]; decide)); rw [if_pos ho] at hu; subst hu; have hR := (mv_45 hRR h45).1 ho
                    refine lv_iconst (v := 0) hx hb dX8_eRead_117 (by decide) ?_
                    exact hret 0 (nmS σ' (nI x'.1) (nI x'.2.2.1) (tkM x'.2.1) wv) _ _ _ _ _ hW rfl rfl (er_bad hEr rfl hR) dX8_eRead_118
              ·
                have hmt : mv = true := bI_1 c_22
                refine lv_aload_n hx hb dX8_eRead_88 rfl (lv_at hl 2 rfl) ?_
                refine lv_bipush (v := 13) hx hb dX8_eRead_89 (by decide) ?_
                refine lv_as (z := nI 13) (rfl) ?_
                refine gw_callVi (As := [.int (nI 13)]) (rest := []) F hl.1 hW (fun _ _ _ => trivial) gw_T_E (by decide) (rfl : ment ad cA _ _ _ 0 = _) rfl (kX8_opensOne (h := K.length) (o := opN K) (v := nI 13) hEr.1.1 (by omega) hEr.1.2.1 (by omega)) pd_yX8_opensOne ml_RX8_138 im_yX8_opensOne se_yX8_opensOne ini_RX8 cd_yX8_opensOne ⟨rfl, rfl⟩ ⟨Nat.le_of_ble_eq_true rfl, Nat.le_of_ble_eq_true rfl⟩ rfl rfl (Nat.le_of_ble_eq_true rfl) ⟨Nat.zero_le _, Nat.zero_le _⟩ dX8_eRead_91 (fun ro σo H locs hp hW _ _ => ?_)
                obtain ⟨hr, hu⟩ := hp
                refine lv_if_ne (tgt := 14) hx hb dX8_eRead_94 (by decide) (fun c_27 => ?_) (fun c_27 => ?_)
                ·
                  have ho : ¬ opN K = 5 := fun q => c_27 (by rw [hr, if_pos q]); rw [if_neg ho] at hu; subst hu; have hEr := er_push (s := 13) hEr (by omega); have hRR := (mv_9 hRR h9 hmt).2 ho
                  exact ih14 f' true true mv (13 :: K) x' _ (by omega) (hRR) (er_hd hEr (by omega) (by omega)) (fun _ => hmt) _ _ _ hW (lv_sub hl [0, 1, 2] rfl)
                ·
                  have ho : opN K = 5 := Decidable.byContradiction (fun q => absurd c_27 (by rw [hr, if_neg q]; decide)); rw [if_pos ho] at hu; subst hu; have hR := (mv_9 hRR h9 hmt).1 ho
                  refine lv_iconst (v := 0) hx hb dX8_eRead_97 (by decide) ?_
                  exact hret 0 (nmS σ' (nI x'.1) (nI x'.2.2.1) (tkM x'.2.1) wv) _ _ _ _ _ hW rfl rfl (er_bad hEr rfl hR) dX8_eRead_98
          ·
            have hn6 := (tk_iff htk).2.1.mp c_16; have hNN : isNN x' := Or.inr hn6; have had := hadv (nn_0 hNN)
            refine lv_aload_n hx hb dX8_eRead_38 rfl (lv_at hl 2 rfl) ?_
            refine lv_aload_n hx hb dX8_eRead_39 rfl (lv_at hl 2 rfl) ?_
            refine mr_f F hW 20 (by decide) rfl fl_RX8_102 dX8_eRead_40 ?_
            refine lv_as (z := tkM x'.2.1) (rfl) ?_
            refine lv_iconst (v := 1) hx hb dX8_eRead_43 (by decide) ?_
            refine lv_icmp_ne (tgt := 57) hx hb dX8_eRead_44 (by decide) (fun c_28 => ?_) (fun c_28 => ?_)
            ·
              refine lv_aload_n hx hb dX8_eRead_57 rfl (lv_at hl 2 rfl) ?_
              refine mr_f F hW 21 (by decide) rfl fl_RX8_105 dX8_eRead_58 ?_
              refine lv_as (z := encM (nnC x')) (en_nam hn2 hn6 hvo) ?_
              refine gw_callVv (As := [.int (encM (nnC x'))]) (rest := []) F hl.1 hW (fun _ _ _ => trivial) gw_T_E (by decide) (rfl : ment ad cA _ _ _ 0 = _) rfl (kX8_puts (n := n) (w := x'.2.2.2.2.length) hnn' hn5 hEr.2.1.1 (by omega)) pd_yX8_puts ml_RX8_124 im_yX8_puts se_yX8_puts ini_RX8 cd_yX8_puts ⟨rfl, rfl⟩ ⟨Nat.le_of_ble_eq_true rfl, Nat.le_of_ble_eq_true rfl⟩ rfl rfl (Nat.le_of_ble_eq_true rfl) ⟨Nat.zero_le _, Nat.zero_le _⟩ dX8_eRead_61 (fun σp H locs hp hW _ _ => ?_)
              subst hp
              have hEr := er_put hEr (by omega) (rfl : encM (nnC x') = _)
              have hnn' := (hEr.2.2.1.2.1 9 (by omega) (by omega)).trans hnn
              refine lv_aload_n hx hb dX8_eRead_64 rfl (lv_at hl 2 rfl) ?_
              refine lv_bipush (v := 7) hx hb dX8_eRead_65 (by decide) ?_
              refine lv_as (z := nI 7) (rfl) ?_
              refine gw_callVv (As := [.int (nI 7)]) (rest := []) F hl.1 hW (fun _ _ _ => trivial) gw_T_E (by decide) (rfl : ment ad cA _ _ _ 0 = _) rfl (kX8_unwinds (n := n) (r := 7) (K := K) (x := wrR (nnC x') x') hnn' hn5 (by decide) (by decide) hEr.1 hEr.2.1 hEr.2.2.2.2.2.1 (Nat.le_trans hEr.2.2.2.2.2.2 (by omega))) pd_yX8_unwinds ml_RX8_131 im_yX8_unwinds se_yX8_unwinds ini_RX8 cd_yX8_unwinds ⟨rfl, rfl⟩ ⟨Nat.le_of_ble_eq_true rfl, Nat.le_of_ble_eq_true rfl⟩ rfl rfl (Nat.le_of_ble_eq_true rfl) ⟨Nat.zero_le _, Nat.zero_le _⟩ dX8_eRead_67 (fun σu_29 H locs hp hW _ _ => ?_)
              have hEr := er_unw hEr (by omega) hp
              have hnn' := (hEr.2.2.1.2.1 9 (by omega) (by omega)).trans hnn
              refine lv_iconst (v := 0) hx hb dX8_eRead_70 (by decide) ?_
              refine lv_istore_n (lv' := [(1, .int 0), (2, .int (bI mv)), (0, .ref (ad 0))]) hx hb dX8_eRead_71 rfl hl (by decide) rfl (fun ls hl => ?_)
              have hRR := mv_nn hRR hNN
              refine lv_goto (tgt := 14) hx hb dX8_eRead_72 (by decide) ?_
              exact ih14 f' false false mv ((popU 7 K (wrR (nnC x') x')).1) ((popU 7 K (wrR (nnC x') x')).2) _ (by omega) (hRR) (er_hd hEr (by rw [(popU_at _ _).1]; show _ ≤ x'.1; omega) (by rw [(popU_at _ _).1]; show x'.1 ≤ z; omega)) (fun q => ft q) _ _ _ hW (lv_sub hl [0, 1, 2] rfl)
            ·
              exact (hn2 ((tk_iff htk).1.mp c_28)).elim
  exact L14 (f0 + 1) f0 true true true ([]) y0 _ (Nat.lt_succ_self _) (hR0) (er_0 hO0 ha0 hyz0 hyl0) (fun _ => rfl) _ _ _ hW (lv_sub hl [1, 0, 2] rfl)
