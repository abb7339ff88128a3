/-! ===== the reference's lexer ===== -/
def nmS (σ : Nat → Nat → Int32) (a b t v : Int32) : Nat → Nat → Int32 := va_up σ 0 (upd (upd (upd (upd (σ 0) 18 a) 19 b) 20 t) 21 v)
theorem nm_eta (σ : Nat → Nat → Int32) : nmS σ (σ 0 18) (σ 0 19) (σ 0 20) (σ 0 21) = σ := by
  funext o j
  by_cases h : o = 0
  · subst h
    unfold nmS
    rw [va_up_self]
    by_cases h5 : j = 21
    · subst h5; rw [pk_us]
    rw [pk_un h5]
    by_cases h4 : j = 20
    · subst h4; rw [pk_us]
    rw [pk_un h4]
    by_cases h3 : j = 19
    · subst h3; rw [pk_us]
    rw [pk_un h3]
    by_cases h2 : j = 18
    · subst h2; rw [pk_us]
    rw [pk_un h2]
  · unfold nmS; rw [va_up_ne _ _ h]
theorem nm_up (σ : Nat → Nat → Int32) (r : Nat → Int32) (k : Nat) (v : Int32) : upR (va_up σ 0 r) 0 k v = va_up σ 0 (upd r k v) := by
  unfold upR; rw [va_up_self, bx_uu]
theorem nm_18 (σ : Nat → Nat → Int32) (a b t w v : Int32) : upR (nmS σ a b t w) 0 18 v = nmS σ v b t w := by
  unfold nmS
  rw [nm_up, up_com _ (by decide : (21 : Nat) ≠ 18), up_com _ (by decide : (20 : Nat) ≠ 18), up_com _ (by decide : (19 : Nat) ≠ 18), up_dup]
theorem nm_19 (σ : Nat → Nat → Int32) (a b t w v : Int32) : upR (nmS σ a b t w) 0 19 v = nmS σ a v t w := by
  unfold nmS
  rw [nm_up, up_com _ (by decide : (21 : Nat) ≠ 19), up_com _ (by decide : (20 : Nat) ≠ 19), up_dup]
theorem nm_20 (σ : Nat → Nat → Int32) (a b t w v : Int32) : upR (nmS σ a b t w) 0 20 v = nmS σ a b v w := by
  unfold nmS
  rw [nm_up, up_com _ (by decide : (21 : Nat) ≠ 20), up_dup]
theorem nm_21 (σ : Nat → Nat → Int32) (a b t w v : Int32) : upR (nmS σ a b t w) 0 21 v = nmS σ a b t v := by
  unfold nmS
  rw [nm_up, up_dup]
theorem nm_ne {σ : Nat → Nat → Int32} {a b t v : Int32} {o : Nat} (h : o ≠ 0) : nmS σ a b t v o = σ o := va_up_ne _ _ h
/-- the reference's number of a token; its value -/
def tkM (k : Int32) : Int32 := if k = 2 then 1 else if k = 1 then -1 else if k = -7 then 4 else if k = -8 then 5 else if k = -9 then 6 else if -6 ≤ k ∧ k ≤ -1 then 2 else if -12 ≤ k ∧ k ≤ -10 then 3 else k
def vOK (k nb w : Int32) : Prop := (k = 2 → w = nb) ∧ (∀ j, j < 6 → k = -(nI (j + 1)) → w = nI j) ∧ ∀ j, j < 3 → k = -(nI (j + 10)) → w = nI j
theorem vok_of {k nb w : Int32} (h : k = 0 ∨ k = 1 ∨ k = 40 ∨ k = 41 ∨ k = 42 ∨ k = 43 ∨ k = 45 ∨ k = 59 ∨ k = 60 ∨ k = 61) : vOK k nb w := by
  have k2 : ∀ k : Int32, (k = 0 ∨ k = 1 ∨ k = 40 ∨ k = 41 ∨ k = 42 ∨ k = 43 ∨ k = 45 ∨ k = 59 ∨ k = 60 ∨ k = 61) → ¬ k = 2 ∧ (∀ j, j < 6 → ¬ k = -(nI (j + 1))) ∧ ∀ j, j < 3 → ¬ k = -(nI (j + 10)) := by
    intro k h
    rcases h with rfl | rfl | rfl | rfl | rfl | rfl | rfl | rfl | rfl | rfl <;> decide +kernel
  obtain ⟨a, b, c⟩ := k2 k h
  exact ⟨fun q => absurd q a, fun j hj q => absurd q (b j hj), fun j hj q => absurd q (c j hj)⟩
theorem vok_num {nb w : Int32} (h : w = nb) : vOK 2 nb w := ⟨fun _ => h, fun j hj q => absurd q.symm (neg_lt j (by omega)).2, fun j hj q => absurd q.symm (neg_lt (j + 9) (by omega)).2⟩
theorem vok_word {j : Nat} (hj : j < 12) {nb : Int32} : vOK (-(nI (j + 1))) nb (if nI ((j + 3) % 12) < 3 then nI ((j + 3) % 12) else nI ((j + 3) % 12) - 3) := by
  have key : ∀ j, j < 12 → (∀ i, i < 6 → -(nI (j + 1)) = -(nI (i + 1)) → (if nI ((j + 3) % 12) < 3 then nI ((j + 3) % 12) else nI ((j + 3) % 12) - 3) = nI i) ∧ ∀ i, i < 3 → -(nI (j + 1)) = -(nI (i + 10)) → (if nI ((j + 3) % 12) < 3 then nI ((j + 3) % 12) else nI ((j + 3) % 12) - 3) = nI i := by decide +kernel
  exact ⟨fun q => absurd q (neg_lt j hj).2, (key j hj).1, (key j hj).2⟩
def wdW (i q : Nat) : Int32 := if q < lenW.getD ((i + 9) % 12) 0 then chW ((i + 9) % 12) q else 32
def MtW (β : Nat → Int32) (t a i : Nat) : Prop := a - t ≤ 8 ∧ ∀ q, q < 8 → wdW i q = (if t + q < a then β (t + q) else 32)
theorem ch_let : ∀ i, i < 12 → ∀ q, q < lenW.getD i 0 → ¬ letS (chW i q) = 0 := by decide +kernel
theorem let_32 {v : Int32} (h : ¬ letS v = 0) : ¬ v = 32 := fun q => by rw [q] at h; exact h (by decide)
theorem spF_all (β : Nat → Int32) (t i : Nat) : ∀ (f j : Nat), (¬ spF β t i f j = 0) ↔ ∀ q, q < f → β (t + (j + q)) = chW i (j + q)
  | 0, j => ⟨fun _ q h => absurd h (by omega), fun _ => by show ¬ (1 : Int32) = 0; decide⟩
  | f + 1, j => by
    by_cases h : β (t + j) = chW i j
    · have e : spF β t i (f + 1) j = spF β t i f (j + 1) := if_pos h
      rw [e, spF_all β t i f (j + 1)]
      refine ⟨fun g q hq => ?_, fun g q hq => ?_⟩
      · rcases Nat.eq_zero_or_pos q with z | z
        · subst z; exact h
        · have := g (q - 1) (by omega)
          rwa [show j + 1 + (q - 1) = j + q by omega] at this
      · have := g (q + 1) (by omega)
        rwa [show j + (q + 1) = j + 1 + q by omega] at this
    · have e : spF β t i (f + 1) j = 0 := if_neg h
      rw [e]
      exact ⟨fun g => absurd rfl g, fun g => absurd (g 0 (by omega)) h⟩
theorem spS_all {β : Nat → Int32} {t a i : Nat} (hi : i < 12) (ha : a - t < 2 ^ 31) : (¬ spS β t a i = 0) ↔ (a - t = lenW.getD i 0 ∧ ∀ q, q < lenW.getD i 0 → β (t + q) = chW i q) := by
  have hl := lenW_lt i hi
  unfold spS
  by_cases h : nI (a - t) = nI (lenW.getD i 0)
  · rw [if_pos h, spF_all]
    have e := nI_i ha (by omega) h
    exact ⟨fun g => ⟨e, fun q hq => by have := g q hq; rwa [Nat.zero_add] at this⟩, fun g q hq => by rw [Nat.zero_add]; exact g.2 q hq⟩
  · rw [if_neg h]
    exact ⟨fun g => absurd rfl g, fun g => absurd (by rw [g.1]) h⟩
theorem mt_sp {β : Nat → Int32} {t a i : Nat} (hi : i < 12) (hta : t ≤ a) (ha : a - t < 2 ^ 31) (hL : ∀ q, t ≤ q → q < a → ¬ letS (β q) = 0) : MtW β t a i ↔ ¬ spS β t a ((i + 9) % 12) = 0 := by
  have hj : (i + 9) % 12 < 12 := Nat.mod_lt _ (by decide)
  rw [spS_all hj ha]
  have hl := lenW_lt _ hj
  have hc := ch_let _ hj
  unfold MtW wdW
  generalize (i + 9) % 12 = j at hj hl hc
  refine ⟨fun ⟨h1, h2⟩ => ?_, fun ⟨h1, h2⟩ => ?_⟩
  · have e : a - t = lenW.getD j 0 := by
      rcases Nat.lt_trichotomy (a - t) (lenW.getD j 0) with g | g | g
      · have := h2 (a - t) (by omega)
        rw [if_pos g, if_neg (by omega)] at this
        exact absurd this (let_32 (hc _ g))
      · exact g
      · have := h2 (lenW.getD j 0) (by omega)
        rw [if_neg (by omega), if_pos (by omega)] at this
        exact absurd this.symm (let_32 (hL _ (by omega) (by omega)))
    refine ⟨e, fun q hq => ?_⟩
    have := h2 q (by omega)
    rw [if_pos hq, if_pos (by omega)] at this
    exact this.symm
  · refine ⟨by omega, fun q hq => ?_⟩
    by_cases g : q < lenW.getD j 0
    · rw [if_pos g, if_pos (by omega)]; exact (h2 q g).symm
    · rw [if_neg g, if_neg (by omega)]
theorem word_one : ∀ i, i < 12 → ∀ j, j < 12 → lenW.getD i 0 = lenW.getD j 0 → (∀ q, q < lenW.getD i 0 → chW i q = chW j q) → i = j := by decide +kernel
theorem word_uni {β : Nat → Int32} {t a i j : Nat} (hi : i < 12) (hj : j < 12) (ha : a - t < 2 ^ 31) (h1 : ¬ spS β t a i = 0) (h2 : ¬ spS β t a j = 0) : i = j := by
  obtain ⟨a1, a2⟩ := (spS_all hi ha).mp h1
  obtain ⟨b1, b2⟩ := (spS_all hj ha).mp h2
  exact word_one i hi j hj (by omega) (fun q hq => by rw [← a2 q hq]; exact b2 q (by omega))
theorem wordF_of {β : Nat → Int32} {t a j : Nat} (hj : j < 12) (ha : a - t < 2 ^ 31) (h : ¬ spS β t a j = 0) : ∀ f i, i + f = 12 → i ≤ j → wordF β t a f i = -(nI (j + 1))
  | 0, i, h1, h2 => absurd h2 (by omega)
  | f + 1, i, h1, h2 => by
    by_cases q : spS β t a i = 0
    · rw [wordF_n q]
      exact wordF_of hj ha h f (i + 1) (by omega) (by
        rcases Nat.lt_or_ge i j with g | g
        · omega
        · obtain rfl : i = j := by omega
          exact absurd q h)
    · rw [wordF_y q, word_uni (show i < 12 by omega) hj ha q h]
theorem wordF_no {β : Nat → Int32} {t a : Nat} (h : ∀ j, j < 12 → spS β t a j = 0) : ∀ f i, i + f = 12 → wordF β t a f i = 1
  | 0, i, _ => rfl
  | f + 1, i, hi => by rw [wordF_n (h i (by omega))]; exact wordF_no h f (i + 1) (by omega)
/-- what wordFrom answers -/
def WfP (β : Nat → Int32) (t a : Nat) (r : Int32) : Prop := (∃ j, j < 12 ∧ wordF β t a 12 0 = -(nI (j + 1)) ∧ r = nI ((j + 3) % 12)) ∨ (wordF β t a 12 0 = 1 ∧ r = 12)
theorem wf_yes {β : Nat → Int32} {t a i : Nat} (hi : i < 12) (hta : t ≤ a) (ha : a - t < 2 ^ 31) (hL : ∀ q, t ≤ q → q < a → ¬ letS (β q) = 0) (h : MtW β t a i) : WfP β t a (nI i) := by
  refine Or.inl ⟨(i + 9) % 12, Nat.mod_lt _ (by decide), wordF_of (Nat.mod_lt _ (by decide)) ha ((mt_sp hi hta ha hL).mp h) 12 0 rfl (Nat.zero_le _), ?_⟩
  congr 1
  omega
theorem wf_no {β : Nat → Int32} {t a : Nat} (hta : t ≤ a) (ha : a - t < 2 ^ 31) (hL : ∀ q, t ≤ q → q < a → ¬ letS (β q) = 0) (h : ∀ i, i < 12 → ¬ MtW β t a i) : WfP β t a 12 := by
  refine Or.inr ⟨wordF_no (fun j hj => ?_) 12 0 rfl, rfl⟩
  by_cases q : spS β t a j = 0
  · exact q
  · refine absurd ((mt_sp (i := (j + 3) % 12) (Nat.mod_lt _ (by decide)) hta ha hL).mpr ?_) (h _ (Nat.mod_lt _ (by decide)))
    rw [show ((j + 3) % 12 + 9) % 12 = j by omega]
    exact q
theorem letG_all (β : Nat → Int32) (z : Nat) : ∀ (f i q : Nat), i ≤ q → q < letG β z f i → ¬ letS (β q) = 0
  | 0, i, q, h1, h2 => absurd h2 (by show ¬ q < i; omega)
  | f + 1, i, q, h1, h2 => by
    unfold letG at h2
    by_cases a : i < z
    · rw [if_pos a] at h2
      by_cases b : letS (β i) = 0
      · rw [if_pos b] at h2; exact absurd h2 (by omega)
      · rw [if_neg b] at h2
        rcases Nat.lt_or_ge i q with g | g
        · exact letG_all β z f (i + 1) q g h2
        · obtain rfl : i = q := by omega
          exact b
    · rw [if_neg a] at h2; exact absurd h2 (by omega)
theorem tw_a : ∀ j, j < 12 → nI ((j + 3) % 12) < 3 → tkM (-(nI (j + 1))) = 3 := by decide +kernel
theorem tw_b : ∀ j, j < 12 → ¬ nI ((j + 3) % 12) < 3 → nI ((j + 3) % 12) < 9 → tkM (-(nI (j + 1))) = 2 := by decide +kernel
theorem tw_c : ∀ j, j < 12 → ¬ nI ((j + 3) % 12) < 3 → ¬ nI ((j + 3) % 12) < 9 → tkM (-(nI (j + 1))) = 4 + nI ((j + 3) % 12) - 9 := by decide +kernel
theorem tw_d : ∀ j, j < 12 → ¬ nI ((j + 3) % 12) = 12 := by decide +kernel
theorem vok_a {j : Nat} (hj : j < 12) {nb : Int32} (h : nI ((j + 3) % 12) < 3) : vOK (-(nI (j + 1))) nb (nI ((j + 3) % 12)) := by
  have := vok_word hj (nb := nb)
  rwa [if_pos h] at this
theorem vok_b {j : Nat} (hj : j < 12) {nb : Int32} (h : ¬ nI ((j + 3) % 12) < 3) : vOK (-(nI (j + 1))) nb (nI ((j + 3) % 12) - 3) := by
  have := vok_word hj (nb := nb)
  rwa [if_neg h] at this
theorem tk_0 : tkM 0 = 0 := by decide +kernel
theorem tk_40 : tkM 40 = 40 := by decide +kernel
theorem tk_41 : tkM 41 = 41 := by decide +kernel
theorem tk_42 : tkM 42 = 42 := by decide +kernel
theorem tk_43 : tkM 43 = 43 := by decide +kernel
theorem tk_45 : tkM 45 = 45 := by decide +kernel
theorem tk_59 : tkM 59 = 59 := by decide +kernel
theorem tk_60 : tkM 60 = 60 := by decide +kernel
theorem tk_61 : tkM 61 = 61 := by decide +kernel
theorem tk_1 : tkM 1 = -1 := by decide +kernel
theorem tk_2 : tkM 2 = 1 := by decide +kernel
theorem c8 (j : Nat) : (8 : Int32) * nI j = nI (8 * j) := by rw [show (8 : Int32) = nI 8 from rfl]; exact mul_nI 8 j
abbrev rm_yX8_wordFrom : Room := { frames := 0, cells := 0, slots := 0, locals := 0 }
set_option maxHeartbeats 800000 in
set_option maxRecDepth 100000 in
theorem kX8_wordFrom {l : Launch} {D : va_G} {cA : ClassId} {ad : Nat → Nat} {ρ T σ : Nat → Nat → Int32} {sz : Nat} {β : Nat → Int32} {z t a : Nat} (hz1 : z ≤ 160) (hta : t ≤ a) (haz : a ≤ z) (hL : ∀ q, t ≤ q → q < a → ¬ letS (β q) = 0) (hβ : ∀ j, j < z → β j = σ 4 j) (hwd : ∀ i q, i < 12 → q < 8 → σ 13 (8 * i + q) = wdW i q) : MMi l yX8_wordFrom cX8_wordFrom 6 FieldType.int rm_yX8_wordFrom [.ref (ad 0), .int (nI t), .int (nI a)] D cA ad ρ T σ sz (fun (r : Int32) (u : Unit) => WfP β t a r) (fun u : Unit => ment ad cA ρ T σ) := by
  refine gw_stI (Ff := fun u : Unit => ment ad cA ρ T σ) (own := RX8) (by decide +kernel) rfl (Nat.le_of_ble_eq_true rfl) ?_
  intro p e s m ar below meth c A Q F hE hsz hW hret ls hl
  obtain ⟨hx, hb, hml, hown, hts⟩ := id F
  have hl : lv_has ls 6 [(0, .ref (ad 0)), (1, .int (nI t)), (2, .int (nI a))] := hl
  refine lv_iconst (v := 0) hx hb dX8_wordFrom_0 (by decide) ?_
  refine lv_istore_n (lv' := [(3, .int 0), (0, .ref (ad 0)), (1, .int (nI t)), (2, .int (nI a))]) hx hb dX8_wordFrom_1 rfl hl (by decide) rfl (fun ls hl => ?_)
  have L2 : ∀ (k : Nat) (i : Nat), (i ≤ 12) → (13 ≤ i + k) → (∀ i2, i2 < i → ¬ MtW β t a i2) → ∀ (H : Heap) (locs : List Loc) (ls : Array Slot), MW D cA ad ρ T σ A s s.heap H locs → lv_has ls 6 [(3, .int (nI i)), (0, .ref (ad 0)), (1, .int (nI t)), (2, .int (nI a))] → W p l e rm_yX8_wordFrom s m ar below meth c H locs 0 0 Q (F0 m 2 ls []) := by
    intro k
    induction k with
    | zero => intro i h1 h2 hno; exact absurd h2 (by omega)
    | succ k ih2 =>
      intro i h1 h2 hno H locs ls hW hl
      refine lv_iload_n hx hb dX8_wordFrom_2 rfl (lv_at hl 0 rfl) ?_
      refine lv_bipush (v := 12) hx hb dX8_wordFrom_3 (by decide) ?_
      refine lv_icmp_ge (tgt := 101) hx hb dX8_wordFrom_5 (by decide) (fun c_1 => ?_) (fun c_1 => ?_)
      ·
        have hi12 : i = 12 := by have := mi_le (a := 12) (b := i) c_1 (by decide) (by omega); omega
        refine lv_bipush (v := 12) hx hb dX8_wordFrom_101 (by decide) ?_
        exact hret 12 () _ _ _ _ _ hW rfl rfl (wf_no hta (by omega) hL (fun i2 h => hno i2 (by omega))) dX8_wordFrom_103
      ·
        have hi12 : i < 12 := mi_nle (a := 12) (b := i) c_1 (by decide) (by omega)
        refine lv_iload_n hx hb dX8_wordFrom_8 rfl (lv_at hl 3 rfl) ?_
        refine lv_iload_n hx hb dX8_wordFrom_9 rfl (lv_at hl 2 rfl) ?_
        refine lv_isub hx hb dX8_wordFrom_10 ?_
        refine lv_as (z := nI (a - t)) (sub_nI hta) ?_
        refine lv_bipush (v := 8) hx hb dX8_wordFrom_11 (by decide) ?_
        refine lv_icmp_gt (tgt := 20) hx hb dX8_wordFrom_13 (by decide) (fun c_2 => ?_) (fun c_2 => ?_)
        ·
          have hgt8 : 8 < a - t := mi_lt (a := 8) c_2 (by decide) (by omega)
          refine lv_iconst (v := 0) hx hb dX8_wordFrom_20 (by decide) ?_
          refine lv_istore (lv' := [(4, .int 0), (3, .int (nI i)), (0, .ref (ad 0)), (1, .int (nI t)), (2, .int (nI a))]) hx hb dX8_wordFrom_21 hl (by decide) rfl (fun ls hl => ?_)
          refine lv_iconst (v := 0) hx hb dX8_wordFrom_23 (by decide) ?_
          refine lv_istore (lv' := [(5, .int 0), (4, .int 0), (3, .int (nI i)), (0, .ref (ad 0)), (1, .int (nI t)), (2, .int (nI a))]) hx hb dX8_wordFrom_24 hl (by decide) rfl (fun ls hl => ?_)
          have L26 : ∀ (k : Nat) (jc : Nat) (y : Int32), (jc ≤ 8) → (9 ≤ jc + k) → ((y = 1 ∧ a - t ≤ 8 ∧ ∀ q, q < jc → wdW i q = (if t + q < a then β (t + q) else 32)) ∨ (y = 0 ∧ ¬ MtW β t a i)) → ∀ (H : Heap) (locs : List Loc) (ls : Array Slot), MW D cA ad ρ T σ A s s.heap H locs → lv_has ls 6 [(5, .int (nI jc)), (4, .int y), (0, .ref (ad 0)), (1, .int (nI t)), (2, .int (nI a)), (3, .int (nI i))] → W p l e rm_yX8_wordFrom s m ar below meth c H locs 0 0 Q (F0 m 26 ls []) := by
            intro k
            induction k with
            | zero => intro jc y g1 g2 hy; exact absurd g2 (by omega)
            | succ k ih26 =>
              intro jc y g1 g2 hy H locs ls hW hl
              refine lv_iload hx hb dX8_wordFrom_26 (lv_at hl 0 rfl) ?_
              refine lv_bipush (v := 8) hx hb dX8_wordFrom_28 (by decide) ?_
              refine lv_icmp_ge (tgt := 88) hx hb dX8_wordFrom_30 (by decide) (fun c_3 => ?_) (fun c_3 => ?_)
              ·
                have hj8e : jc = 8 := (by have := mi_le (a := 8) (b := jc) c_3 (by decide) (by omega); omega)
                refine lv_iload hx hb dX8_wordFrom_88 (lv_at hl 1 rfl) ?_
                refine lv_if_eq (tgt := 95) hx hb dX8_wordFrom_90 (by decide) (fun c_4 => ?_) (fun c_4 => ?_)
                ·
                  have hnm : ¬ MtW β t a i := hy.elim (fun q => absurd (q.1.symm.trans c_4) (by decide)) (fun q => q.2)
                  refine lv_iinc (v := nI (i + 1)) (lv' := [(3, .int (nI (i + 1))), (5, .int (nI jc)), (4, .int y), (0, .ref (ad 0)), (1, .int (nI t)), (2, .int (nI a))]) hx hb dX8_wordFrom_95 hl (k := 5) rfl (nI_1 i) (by decide) rfl (fun ls hl => ?_)
                  refine lv_goto (tgt := 2) hx hb dX8_wordFrom_98 (by decide) ?_
                  exact ih2 (i + 1) (by omega) (by omega) (fun i2 h => by rcases Nat.lt_or_ge i2 i with g | g; exact hno i2 g; (obtain rfl : i2 = i := (by omega); exact hnm)) _ _ _ hW (lv_sub hl [0, 3, 4, 5] rfl)
                ·
                  have hyes : MtW β t a i := hy.elim (fun q => ⟨q.2.1, fun w hw => q.2.2 w (by omega)⟩) (fun q => absurd q.1 c_4)
                  refine lv_iload_n hx hb dX8_wordFrom_93 rfl (lv_at hl 5 rfl) ?_
                  exact hret (nI i) () _ _ _ _ _ hW rfl rfl (wf_yes (by omega) hta (by omega) hL hyes) dX8_wordFrom_94
              ·
                have hj8 : jc < 8 := mi_nle (a := 8) (b := jc) c_3 (by decide) (by omega)
                refine lv_iload hx hb dX8_wordFrom_33 (lv_at hl 1 rfl) ?_
                refine lv_if_eq (tgt := 88) hx hb dX8_wordFrom_35 (by decide) (fun c_5 => ?_) (fun c_5 => ?_)
                ·
                  have hnm : ¬ MtW β t a i := hy.elim (fun q => absurd (q.1.symm.trans c_5) (by decide)) (fun q => q.2)
                  refine lv_iload hx hb dX8_wordFrom_88 (lv_at hl 1 rfl) ?_
                  refine lv_if_eq (tgt := 95) hx hb dX8_wordFrom_90 (by decide) (fun c_6 => ?_) (fun c_6 => ?_)
                  ·
                    refine lv_iinc (v := nI (i + 1)) (lv' := [(3, .int (nI (i + 1))), (5, .int (nI jc)), (4, .int y), (0, .ref (ad 0)), (1, .int (nI t)), (2, .int (nI a))]) hx hb dX8_wordFrom_95 hl (k := 5) rfl (nI_1 i) (by decide) rfl (fun ls hl => ?_)
                    refine lv_goto (tgt := 2) hx hb dX8_wordFrom_98 (by decide) ?_
                    exact ih2 (i + 1) (by omega) (by omega) (fun i2 h => by rcases Nat.lt_or_ge i2 i with g | g; exact hno i2 g; (obtain rfl : i2 = i := (by omega); exact hnm)) _ _ _ hW (lv_sub hl [0, 3, 4, 5] rfl)
                  ·
                    exact absurd c_5 c_6
                ·
                  have hy1 := hy.resolve_right (fun q => c_5 q.1)
                  refine lv_aload_n hx hb dX8_wordFrom_38 rfl (lv_at hl 2 rfl) ?_
                  refine mr_f F hW 22 (by decide) rfl fl_RX8_46 dX8_wordFrom_39 ?_
                  refine lv_bipush (v := 8) hx hb dX8_wordFrom_42 (by decide) ?_
                  refine lv_iload_n hx hb dX8_wordFrom_44 rfl (lv_at hl 5 rfl) ?_
                  refine lv_imul hx hb dX8_wordFrom_45 ?_
                  refine lv_as (z := nI (8 * i)) (c8 _) ?_
                  refine lv_iload hx hb dX8_wordFrom_46 (lv_at hl 0 rfl) ?_
                  refine lv_iadd hx hb dX8_wordFrom_48 ?_
                  refine lv_as (z := nI (8 * i + jc)) (nI_add _ _) ?_
                  refine mr_words F hW (vp_in_nI (by omega) (by decide)) dX8_wordFrom_49 ?_
                  refine lv_as (z := σ 13 (8 * i + jc)) (by rw [nI_clamp (show (8 * i + jc) < 2 ^ 31 by omega)]) ?_
                  refine lv_as (z := wdW i jc) (hwd i jc (by omega) (by omega)) ?_
                  refine lv_iload_n hx hb dX8_wordFrom_50 rfl (lv_at hl 3 rfl) ?_
                  refine lv_iload hx hb dX8_wordFrom_51 (lv_at hl 0 rfl) ?_
                  refine lv_iadd hx hb dX8_wordFrom_53 ?_
                  refine lv_as (z := nI (t + jc)) (nI_add _ _) ?_
                  refine lv_iload_n hx hb dX8_wordFrom_54 rfl (lv_at hl 4 rfl) ?_
                  refine lv_icmp_ge (tgt := 70) hx hb dX8_wordFrom_55 (by decide) (fun c_7 => ?_) (fun c_7 => ?_)
                  ·
                    have hge2 : a ≤ t + jc := mi_le c_7 (by omega) (by omega)
                    refine lv_bipush (v := 32) hx hb dX8_wordFrom_70 (by decide) ?_
                    refine lv_icmp_ne (tgt := 79) hx hb dX8_wordFrom_72 (by decide) (fun c_8 => ?_) (fun c_8 => ?_)
                    ·
                      refine lv_iconst (v := 0) hx hb dX8_wordFrom_79 (by decide) ?_
                      refine lv_istore (lv' := [(4, .int 0), (5, .int (nI jc)), (0, .ref (ad 0)), (1, .int (nI t)), (2, .int (nI a)), (3, .int (nI i))]) hx hb dX8_wordFrom_80 hl (by decide) rfl (fun ls hl => ?_)
                      refine lv_iinc (v := nI (jc + 1)) (lv' := [(5, .int (nI (jc + 1))), (4, .int 0), (0, .ref (ad 0)), (1, .int (nI t)), (2, .int (nI a)), (3, .int (nI i))]) hx hb dX8_wordFrom_82 hl (k := 1) rfl (nI_1 jc) (by decide) rfl (fun ls hl => ?_)
                      refine lv_goto (tgt := 26) hx hb dX8_wordFrom_85 (by decide) ?_
                      exact ih26 (jc + 1) _ (by omega) (by omega) (Or.inr ⟨rfl, fun hM => c_8 ((hM.2 jc hj8).trans (if_neg (by omega)))⟩) _ _ _ hW (lv_sub hl [0, 1, 2, 3, 4, 5] rfl)
                    ·
                      refine lv_iconst (v := 1) hx hb dX8_wordFrom_75 (by decide) ?_
                      refine lv_goto (tgt := 80) hx hb dX8_wordFrom_76 (by decide) ?_
                      refine lv_istore (lv' := [(4, .int 1), (5, .int (nI jc)), (0, .ref (ad 0)), (1, .int (nI t)), (2, .int (nI a)), (3, .int (nI i))]) hx hb dX8_wordFrom_80 hl (by decide) rfl (fun ls hl => ?_)
                      refine lv_iinc (v := nI (jc + 1)) (lv' := [(5, .int (nI (jc + 1))), (4, .int 1), (0, .ref (ad 0)), (1, .int (nI t)), (2, .int (nI a)), (3, .int (nI i))]) hx hb dX8_wordFrom_82 hl (k := 1) rfl (nI_1 jc) (by decide) rfl (fun ls hl => ?_)
                      refine lv_goto (tgt := 26) hx hb dX8_wordFrom_85 (by decide) ?_
                      exact ih26 (jc + 1) _ (by omega) (by omega) (Or.inl ⟨rfl, hy1.2.1, fun q hq => by rcases Nat.lt_or_ge q jc with g | g; exact hy1.2.2 q g; (obtain rfl : q = jc := (by omega); exact (c_8).trans (if_neg (by omega)).symm)⟩) _ _ _ hW (lv_sub hl [0, 1, 2, 3, 4, 5] rfl)
                  ·
                    have hlt2 : t + jc < a := mi_nle c_7 (by omega) (by omega)
                    refine lv_aload_n hx hb dX8_wordFrom_58 rfl (lv_at hl 2 rfl) ?_
                    refine mr_f F hW 5 (by decide) rfl fl_RX8_19 dX8_wordFrom_59 ?_
                    refine lv_iload_n hx hb dX8_wordFrom_62 rfl (lv_at hl 3 rfl) ?_
                    refine lv_iload hx hb dX8_wordFrom_63 (lv_at hl 0 rfl) ?_
                    refine lv_iadd hx hb dX8_wordFrom_65 ?_
                    refine lv_as (z := nI (t + jc)) (nI_add _ _) ?_
                    refine mr_tape F hW (vp_in_nI (by omega) (by decide)) dX8_wordFrom_66 ?_
                    refine lv_as (z := σ 4 (t + jc)) (by rw [nI_clamp (show (t + jc) < 2 ^ 31 by omega)]) ?_
                    refine lv_as (z := β (t + jc)) ((hβ _ (by omega)).symm) ?_
                    refine lv_goto (tgt := 72) hx hb dX8_wordFrom_67 (by decide) ?_
                    refine lv_icmp_ne (tgt := 79) hx hb dX8_wordFrom_72 (by decide) (fun c_9 => ?_) (fun c_9 => ?_)
                    ·
                      refine lv_iconst (v := 0) hx hb dX8_wordFrom_79 (by decide) ?_
                      refine lv_istore (lv' := [(4, .int 0), (5, .int (nI jc)), (0, .ref (ad 0)), (1, .int (nI t)), (2, .int (nI a)), (3, .int (nI i))]) hx hb dX8_wordFrom_80 hl (by decide) rfl (fun ls hl => ?_)
                      refine lv_iinc (v := nI (jc + 1)) (lv' := [(5, .int (nI (jc + 1))), (4, .int 0), (0, .ref (ad 0)), (1, .int (nI t)), (2, .int (nI a)), (3, .int (nI i))]) hx hb dX8_wordFrom_82 hl (k := 1) rfl (nI_1 jc) (by decide) rfl (fun ls hl => ?_)
                      refine lv_goto (tgt := 26) hx hb dX8_wordFrom_85 (by decide) ?_
                      exact ih26 (jc + 1) _ (by omega) (by omega) (Or.inr ⟨rfl, fun hM => c_9 ((hM.2 jc hj8).trans (if_pos hlt2))⟩) _ _ _ hW (lv_sub hl [0, 1, 2, 3, 4, 5] rfl)
                    ·
                      refine lv_iconst (v := 1) hx hb dX8_wordFrom_75 (by decide) ?_
                      refine lv_goto (tgt := 80) hx hb dX8_wordFrom_76 (by decide) ?_
                      refine lv_istore (lv' := [(4, .int 1), (5, .int (nI jc)), (0, .ref (ad 0)), (1, .int (nI t)), (2, .int (nI a)), (3, .int (nI i))]) hx hb dX8_wordFrom_80 hl (by decide) rfl (fun ls hl => ?_)
                      refine lv_iinc (v := nI (jc + 1)) (lv' := [(5, .int (nI (jc + 1))), (4, .int 1), (0, .ref (ad 0)), (1, .int (nI t)), (2, .int (nI a)), (3, .int (nI i))]) hx hb dX8_wordFrom_82 hl (k := 1) rfl (nI_1 jc) (by decide) rfl (fun ls hl => ?_)
                      refine lv_goto (tgt := 26) hx hb dX8_wordFrom_85 (by decide) ?_
                      exact ih26 (jc + 1) _ (by omega) (by omega) (Or.inl ⟨rfl, hy1.2.1, fun q hq => by rcases Nat.lt_or_ge q jc with g | g; exact hy1.2.2 q g; (obtain rfl : q = jc := (by omega); exact (c_9).trans (if_pos hlt2).symm)⟩) _ _ _ hW (lv_sub hl [0, 1, 2, 3, 4, 5] rfl)
          exact L26 9 0 _ (by omega) (by omega) (Or.inr ⟨rfl, fun hM => absurd hM.1 (by omega)⟩) _ _ _ hW (lv_sub hl [0, 1, 3, 4, 5, 2] rfl)
        ·
          have hle8 : a - t ≤ 8 := mi_nlt (a := 8) c_2 (by decide) (by omega)
          refine lv_iconst (v := 1) hx hb dX8_wordFrom_16 (by decide) ?_
          refine lv_goto (tgt := 21) hx hb dX8_wordFrom_17 (by decide) ?_
          refine lv_istore (lv' := [(4, .int 1), (3, .int (nI i)), (0, .ref (ad 0)), (1, .int (nI t)), (2, .int (nI a))]) hx hb dX8_wordFrom_21 hl (by decide) rfl (fun ls hl => ?_)
          refine lv_iconst (v := 0) hx hb dX8_wordFrom_23 (by decide) ?_
          refine lv_istore (lv' := [(5, .int 0), (4, .int 1), (3, .int (nI i)), (0, .ref (ad 0)), (1, .int (nI t)), (2, .int (nI a))]) hx hb dX8_wordFrom_24 hl (by decide) rfl (fun ls hl => ?_)
          have L26 : ∀ (k : Nat) (jc : Nat) (y : Int32), (jc ≤ 8) → (9 ≤ jc + k) → ((y = 1 ∧ a - t ≤ 8 ∧ ∀ q, q < jc → wdW i q = (if t + q < a then β (t + q) else 32)) ∨ (y = 0 ∧ ¬ MtW β t a i)) → ∀ (H : Heap) (locs : List Loc) (ls : Array Slot), MW D cA ad ρ T σ A s s.heap H locs → lv_has ls 6 [(5, .int (nI jc)), (4, .int y), (0, .ref (ad 0)), (1, .int (nI t)), (2, .int (nI a)), (3, .int (nI i))] → W p l e rm_yX8_wordFrom s m ar below meth c H locs 0 0 Q (F0 m 26 ls []) := by
            intro k
            induction k with
            | zero => intro jc y g1 g2 hy; exact absurd g2 (by omega)
            | succ k ih26 =>
              intro jc y g1 g2 hy H locs ls hW hl
              refine lv_iload hx hb dX8_wordFrom_26 (lv_at hl 0 rfl) ?_
              refine lv_bipush (v := 8) hx hb dX8_wordFrom_28 (by decide) ?_
              refine lv_icmp_ge (tgt := 88) hx hb dX8_wordFrom_30 (by decide) (fun c_10 => ?_) (fun c_10 => ?_)
              ·
                have hj8e : jc = 8 := (by have := mi_le (a := 8) (b := jc) c_10 (by decide) (by omega); omega)
                refine lv_iload hx hb dX8_wordFrom_88 (lv_at hl 1 rfl) ?_
                refine lv_if_eq (tgt := 95) hx hb dX8_wordFrom_90 (by decide) (fun c_11 => ?_) (fun c_11 => ?_)
                ·
                  have hnm : ¬ MtW β t a i := hy.elim (fun q => absurd (q.1.symm.trans c_11) (by decide)) (fun q => q.2)
                  refine lv_iinc (v := nI (i + 1)) (lv' := [(3, .int (nI (i + 1))), (5, .int (nI jc)), (4, .int y), (0, .ref (ad 0)), (1, .int (nI t)), (2, .int (nI a))]) hx hb dX8_wordFrom_95 hl (k := 5) rfl (nI_1 i) (by decide) rfl (fun ls hl => ?_)
                  refine lv_goto (tgt := 2) hx hb dX8_wordFrom_98 (by decide) ?_
                  exact ih2 (i + 1) (by omega) (by omega) (fun i2 h => by rcases Nat.lt_or_ge i2 i with g | g; exact hno i2 g; (obtain rfl : i2 = i := (by omega); exact hnm)) _ _ _ hW (lv_sub hl [0, 3, 4, 5] rfl)
                ·
                  have hyes : MtW β t a i := hy.elim (fun q => ⟨q.2.1, fun w hw => q.2.2 w (by omega)⟩) (fun q => absurd q.1 c_11)
                  refine lv_iload_n hx hb dX8_wordFrom_93 rfl (lv_at hl 5 rfl) ?_
                  exact hret (nI i) () _ _ _ _ _ hW rfl rfl (wf_yes (by omega) hta (by omega) hL hyes) dX8_wordFrom_94
              ·
                have hj8 : jc < 8 := mi_nle (a := 8) (b := jc) c_10 (by decide) (by omega)
                refine lv_iload hx hb dX8_wordFrom_33 (lv_at hl 1 rfl) ?_
                refine lv_if_eq (tgt := 88) hx hb dX8_wordFrom_35 (by decide) (fun c_12 => ?_) (fun c_12 => ?_)
                ·
                  have hnm : ¬ MtW β t a i := hy.elim (fun q => absurd (q.1.symm.trans c_12) (by decide)) (fun q => q.2)
                  refine lv_iload hx hb dX8_wordFrom_88 (lv_at hl 1 rfl) ?_
                  refine lv_if_eq (tgt := 95) hx hb dX8_wordFrom_90 (by decide) (fun c_13 => ?_) (fun c_13 => ?_)
                  ·
                    refine lv_iinc (v := nI (i + 1)) (lv' := [(3, .int (nI (i + 1))), (5, .int (nI jc)), (4, .int y), (0, .ref (ad 0)), (1, .int (nI t)), (2, .int (nI a))]) hx hb dX8_wordFrom_95 hl (k := 5) rfl (nI_1 i) (by decide) rfl (fun ls hl => ?_)
                    refine lv_goto (tgt := 2) hx hb dX8_wordFrom_98 (by decide) ?_
                    exact ih2 (i + 1) (by omega) (by omega) (fun i2 h => by rcases Nat.lt_or_ge i2 i with g | g; exact hno i2 g; (obtain rfl : i2 = i := (by omega); exact hnm)) _ _ _ hW (lv_sub hl [0, 3, 4, 5] rfl)
                  ·
                    exact absurd c_12 c_13
                ·
                  have hy1 := hy.resolve_right (fun q => c_12 q.1)
                  refine lv_aload_n hx hb dX8_wordFrom_38 rfl (lv_at hl 2 rfl) ?_
                  refine mr_f F hW 22 (by decide) rfl fl_RX8_46 dX8_wordFrom_39 ?_
                  refine lv_bipush (v := 8) hx hb dX8_wordFrom_42 (by decide) ?_
                  refine lv_iload_n hx hb dX8_wordFrom_44 rfl (lv_at hl 5 rfl) ?_
                  refine lv_imul hx hb dX8_wordFrom_45 ?_
                  refine lv_as (z := nI (8 * i)) (c8 _) ?_
                  refine lv_iload hx hb dX8_wordFrom_46 (lv_at hl 0 rfl) ?_
                  refine lv_iadd hx hb dX8_wordFrom_48 ?_
                  refine lv_as (z := nI (8 * i + jc)) (nI_add _ _) ?_
                  refine mr_words F hW (vp_in_nI (by omega) (by decide)) dX8_wordFrom_49 ?_
                  refine lv_as (z := σ 13 (8 * i + jc)) (by rw [nI_clamp (show (8 * i + jc) < 2 ^ 31 by omega)]) ?_
                  refine lv_as (z := wdW i jc) (hwd i jc (by omega) (by omega)) ?_
                  refine lv_iload_n hx hb dX8_wordFrom_50 rfl (lv_at hl 3 rfl) ?_
                  refine lv_iload hx hb dX8_wordFrom_51 (lv_at hl 0 rfl) ?_
                  refine lv_iadd hx hb dX8_wordFrom_53 ?_
                  refine lv_as (z := nI (t + jc)) (nI_add _ _) ?_
                  refine lv_iload_n hx hb dX8_wordFrom_54 rfl (lv_at hl 4 rfl) ?_
                  refine lv_icmp_ge (tgt := 70) hx hb dX8_wordFrom_55 (by decide) (fun c_14 => ?_) (fun c_14 => ?_)
                  ·
                    have hge2 : a ≤ t + jc := mi_le c_14 (by omega) (by omega)
                    refine lv_bipush (v := 32) hx hb dX8_wordFrom_70 (by decide) ?_
                    refine lv_icmp_ne (tgt := 79) hx hb dX8_wordFrom_72 (by decide) (fun c_15 => ?_) (fun c_15 => ?_)
                    ·
                      refine lv_iconst (v := 0) hx hb dX8_wordFrom_79 (by decide) ?_
                      refine lv_istore (lv' := [(4, .int 0), (5, .int (nI jc)), (0, .ref (ad 0)), (1, .int (nI t)), (2, .int (nI a)), (3, .int (nI i))]) hx hb dX8_wordFrom_80 hl (by decide) rfl (fun ls hl => ?_)
                      refine lv_iinc (v := nI (jc + 1)) (lv' := [(5, .int (nI (jc + 1))), (4, .int 0), (0, .ref (ad 0)), (1, .int (nI t)), (2, .int (nI a)), (3, .int (nI i))]) hx hb dX8_wordFrom_82 hl (k := 1) rfl (nI_1 jc) (by decide) rfl (fun ls hl => ?_)
                      refine lv_goto (tgt := 26) hx hb dX8_wordFrom_85 (by decide) ?_
                      exact ih26 (jc + 1) _ (by omega) (by omega) (Or.inr ⟨rfl, fun hM => c_15 ((hM.2 jc hj8).trans (if_neg (by omega)))⟩) _ _ _ hW (lv_sub hl [0, 1, 2, 3, 4, 5] rfl)
                    ·
                      refine lv_iconst (v := 1) hx hb dX8_wordFrom_75 (by decide) ?_
                      refine lv_goto (tgt := 80) hx hb dX8_wordFrom_76 (by decide) ?_
                      refine lv_istore (lv' := [(4, .int 1), (5, .int (nI jc)), (0, .ref (ad 0)), (1, .int (nI t)), (2, .int (nI a)), (3, .int (nI i))]) hx hb dX8_wordFrom_80 hl (by decide) rfl (fun ls hl => ?_)
                      refine lv_iinc (v := nI (jc + 1)) (lv' := [(5, .int (nI (jc + 1))), (4, .int 1), (0, .ref (ad 0)), (1, .int (nI t)), (2, .int (nI a)), (3, .int (nI i))]) hx hb dX8_wordFrom_82 hl (k := 1) rfl (nI_1 jc) (by decide) rfl (fun ls hl => ?_)
                      refine lv_goto (tgt := 26) hx hb dX8_wordFrom_85 (by decide) ?_
                      exact ih26 (jc + 1) _ (by omega) (by omega) (Or.inl ⟨rfl, hy1.2.1, fun q hq => by rcases Nat.lt_or_ge q jc with g | g; exact hy1.2.2 q g; (obtain rfl : q = jc := (by omega); exact (c_15).trans (if_neg (by omega)).symm)⟩) _ _ _ hW (lv_sub hl [0, 1, 2, 3, 4, 5] rfl)
                  ·
                    have hlt2 : t + jc < a := mi_nle c_14 (by omega) (by omega)
                    refine lv_aload_n hx hb dX8_wordFrom_58 rfl (lv_at hl 2 rfl) ?_
                    refine mr_f F hW 5 (by decide) rfl fl_RX8_19 dX8_wordFrom_59 ?_
                    refine lv_iload_n hx hb dX8_wordFrom_62 rfl (lv_at hl 3 rfl) ?_
                    refine lv_iload hx hb dX8_wordFrom_63 (lv_at hl 0 rfl) ?_
                    refine lv_iadd hx hb dX8_wordFrom_65 ?_
                    refine lv_as (z := nI (t + jc)) (nI_add _ _) ?_
                    refine mr_tape F hW (vp_in_nI (by omega) (by decide)) dX8_wordFrom_66 ?_
                    refine lv_as (z := σ 4 (t + jc)) (by rw [nI_clamp (show (t + jc) < 2 ^ 31 by omega)]) ?_
                    refine lv_as (z := β (t + jc)) ((hβ _ (by omega)).symm) ?_
                    refine lv_goto (tgt := 72) hx hb dX8_wordFrom_67 (by decide) ?_
                    refine lv_icmp_ne (tgt := 79) hx hb dX8_wordFrom_72 (by decide) (fun c_16 => ?_) (fun c_16 => ?_)
                    ·
                      refine lv_iconst (v := 0) hx hb dX8_wordFrom_79 (by decide) ?_
                      refine lv_istore (lv' := [(4, .int 0), (5, .int (nI jc)), (0, .ref (ad 0)), (1, .int (nI t)), (2, .int (nI a)), (3, .int (nI i))]) hx hb dX8_wordFrom_80 hl (by decide) rfl (fun ls hl => ?_)
                      refine lv_iinc (v := nI (jc + 1)) (lv' := [(5, .int (nI (jc + 1))), (4, .int 0), (0, .ref (ad 0)), (1, .int (nI t)), (2, .int (nI a)), (3, .int (nI i))]) hx hb dX8_wordFrom_82 hl (k := 1) rfl (nI_1 jc) (by decide) rfl (fun ls hl => ?_)
                      refine lv_goto (tgt := 26) hx hb dX8_wordFrom_85 (by decide) ?_
                      exact ih26 (jc + 1) _ (by omega) (by omega) (Or.inr ⟨rfl, fun hM => c_16 ((hM.2 jc hj8).trans (if_pos hlt2))⟩) _ _ _ hW (lv_sub hl [0, 1, 2, 3, 4, 5] rfl)
                    ·
                      refine lv_iconst (v := 1) hx hb dX8_wordFrom_75 (by decide) ?_
                      refine lv_goto (tgt := 80) hx hb dX8_wordFrom_76 (by decide) ?_
                      refine lv_istore (lv' := [(4, .int 1), (5, .int (nI jc)), (0, .ref (ad 0)), (1, .int (nI t)), (2, .int (nI a)), (3, .int (nI i))]) hx hb dX8_wordFrom_80 hl (by decide) rfl (fun ls hl => ?_)
                      refine lv_iinc (v := nI (jc + 1)) (lv' := [(5, .int (nI (jc + 1))), (4, .int 1), (0, .ref (ad 0)), (1, .int (nI t)), (2, .int (nI a)), (3, .int (nI i))]) hx hb dX8_wordFrom_82 hl (k := 1) rfl (nI_1 jc) (by decide) rfl (fun ls hl => ?_)
                      refine lv_goto (tgt := 26) hx hb dX8_wordFrom_85 (by decide) ?_
                      exact ih26 (jc + 1) _ (by omega) (by omega) (Or.inl ⟨rfl, hy1.2.1, fun q hq => by rcases Nat.lt_or_ge q jc with g | g; exact hy1.2.2 q g; (obtain rfl : q = jc := (by omega); exact (c_16).trans (if_pos hlt2).symm)⟩) _ _ _ hW (lv_sub hl [0, 1, 2, 3, 4, 5] rfl)
          exact L26 9 0 _ (by omega) (by omega) (Or.inl ⟨rfl, hle8, fun q hq => absurd hq (by omega)⟩) _ _ _ hW (lv_sub hl [0, 1, 3, 4, 5, 2] rfl)
  exact L2 13 0 (by omega) (by omega) (fun i2 h => absurd h (by omega)) _ _ _ hW (lv_sub hl [0, 1, 2, 3] rfl)
abbrev rm_yX8_next : Room := { frames := 1, cells := 0, slots := 0, locals := 25 }
set_option maxHeartbeats 800000 in
set_option maxRecDepth 100000 in
theorem kX8_next {l : Launch} {D : va_G} {cA : ClassId} {ad : Nat → Nat} {ρ T σ : Nat → Nat → Int32} {sz : Nat} {β : Nat → Int32} {z a : Nat} (hz : σ 0 6 = nI z) (hz1 : z ≤ 160) (ha : σ 0 18 = nI a) (haz : a ≤ z) (hβ : ∀ j, j < z → β j = σ 4 j) (hwd : ∀ i q, i < 12 → q < 8 → σ 13 (8 * i + q) = wdW i q) : MMv l yX8_next cX8_next 3 rm_yX8_next [.ref (ad 0)] D cA ad ρ T σ sz (fun (u : Nat → Nat → Int32) => ∃ w, u = nmS σ (nI (nxA β z (skpG β z 161 a))) (nI (skpG β z 161 a)) (tkM (nxK β z (skpG β z 161 a))) w ∧ vOK (nxK β z (skpG β z 161 a)) (numG β z 161 (skpG β z 161 a) 0).2 w) (fun u : Nat → Nat → Int32 => ment ad cA ρ T u) := by
  refine gw_stV (Ff := fun u : Nat → Nat → Int32 => ment ad cA ρ T u) (own := RX8) (by decide +kernel) rfl (Nat.le_of_ble_eq_true rfl) ?_
  intro p e s m ar below meth c A Q F hE hsz hW hret ls hl
  obtain ⟨hx, hb, hml, hown, hts⟩ := id F
  have hl : lv_has ls 3 [(0, .ref (ad 0))] := hl
  have hW : MW D cA ad ρ T (nmS σ (nI a) (σ 0 19) (σ 0 20) (σ 0 21)) A s s.heap s.heap [] := by rw [← ha, nm_eta]; exact hW
  generalize hR0 : skpG β z 161 a = RES
  have L0 : ∀ (k : Nat) (i f : Nat), (a ≤ i) → (i ≤ z) → (z + 1 ≤ i + k) → (z + 1 ≤ i + f) → (skpG β z f i = RES) → ∀ (H : Heap) (locs : List Loc) (ls : Array Slot), MW D cA ad ρ T (nmS σ (nI i) (σ 0 19) (σ 0 20) (σ 0 21)) A s s.heap H locs → lv_has ls 3 [(0, .ref (ad 0))] → W p l e rm_yX8_next s m ar below meth c H locs 0 0 Q (F0 m 0 ls []) := by
    intro k
    induction k with
    | zero => intro i f h0 h1 h2 h3 hRR; exact absurd h2 (by omega)
    | succ k ih0 =>
      intro i f h0 h1 h2 h3 hRR H locs ls hW hl
      refine lv_aload_n hx hb dX8_next_0 rfl (lv_at hl 0 rfl) ?_
      refine mr_f F hW 18 (by decide) rfl fl_RX8_96 dX8_next_1 ?_
      refine lv_as (z := nI i) rfl ?_
      refine lv_aload_n hx hb dX8_next_4 rfl (lv_at hl 0 rfl) ?_
      refine mr_f F hW 6 (by decide) rfl fl_RX8_61 dX8_next_5 ?_
      refine lv_as (z := nI z) hz ?_
      refine lv_icmp_ge (tgt := 52) hx hb dX8_next_8 (by decide) (fun c_1 => ?_) (fun c_1 => ?_)
      ·
        obtain ⟨f', rfl⟩ : ∃ x, f = x + 1 := ⟨f - 1, by omega⟩; have hge : ¬ i < z := (by have := mi_le c_1 (by omega) (by omega); omega); have hRE : RES = i := (by rw [← hRR]; exact if_neg hge)
        refine lv_aload_n hx hb dX8_next_52 rfl (lv_at hl 0 rfl) ?_
        refine lv_aload_n hx hb dX8_next_53 rfl (lv_at hl 0 rfl) ?_
        refine mr_f F hW 18 (by decide) rfl fl_RX8_96 dX8_next_54 ?_
        refine lv_as (z := nI i) rfl ?_
        refine mw_σ F hW 19 (by decide) fl_RX8_99 rfl (ty := .int) rfl rfl rfl rfl dX8_next_57 (fun H locs hW => ?_)
        have hW : MW D cA ad ρ T (nmS σ (nI i) (nI i) (σ 0 20) (σ 0 21)) A s s.heap H locs := by rw [nm_19] at hW; exact hW
        refine lv_aload_n hx hb dX8_next_60 rfl (lv_at hl 0 rfl) ?_
        refine lv_iconst (v := 0) hx hb dX8_next_61 (by decide) ?_
        refine mw_σ F hW 20 (by decide) fl_RX8_102 rfl (ty := .int) rfl rfl rfl rfl dX8_next_62 (fun H locs hW => ?_)
        have hW : MW D cA ad ρ T (nmS σ (nI i) (nI i) 0 (σ 0 21)) A s s.heap H locs := by rw [nm_20] at hW; exact hW
        refine lv_aload_n hx hb dX8_next_65 rfl (lv_at hl 0 rfl) ?_
        refine lv_iconst (v := 0) hx hb dX8_next_66 (by decide) ?_
        refine mw_σ F hW 21 (by decide) fl_RX8_105 rfl (ty := .int) rfl rfl rfl rfl dX8_next_67 (fun H locs hW => ?_)
        have hW : MW D cA ad ρ T (nmS σ (nI i) (nI i) 0 0) A s s.heap H locs := by rw [nm_21] at hW; exact hW
        refine lv_aload_n hx hb dX8_next_70 rfl (lv_at hl 0 rfl) ?_
        refine mr_f F hW 18 (by decide) rfl fl_RX8_96 dX8_next_71 ?_
        refine lv_as (z := nI i) rfl ?_
        refine lv_aload_n hx hb dX8_next_74 rfl (lv_at hl 0 rfl) ?_
        refine mr_f F hW 6 (by decide) rfl fl_RX8_61 dX8_next_75 ?_
        refine lv_as (z := nI z) hz ?_
        refine lv_icmp_ne (tgt := 82) hx hb dX8_next_78 (by decide) (fun c_2 => ?_) (fun c_2 => ?_)
        ·
          exact absurd (show nI i = nI z by rw [show i = z by omega]) c_2
        ·
          exact hret (nmS σ (nI i) (nI i) 0 0) _ _ _ _ _ hW rfl (by rw [hR0, hRE]; refine ⟨0, ?_, ?_⟩; (unfold nxA nxK; rw [if_neg hge, if_neg hge, tk_0]); (unfold nxK; rw [if_neg hge]; exact vok_of (Or.inl rfl))) dX8_next_81
      ·
        obtain ⟨f', rfl⟩ : ∃ x, f = x + 1 := ⟨f - 1, by omega⟩; have hlt : i < z := mi_nle c_1 (by omega) (by omega)
        refine lv_aload_n hx hb dX8_next_11 rfl (lv_at hl 0 rfl) ?_
        refine mr_f F hW 5 (by decide) rfl fl_RX8_19 dX8_next_12 ?_
        refine lv_aload_n hx hb dX8_next_15 rfl (lv_at hl 0 rfl) ?_
        refine mr_f F hW 18 (by decide) rfl fl_RX8_96 dX8_next_16 ?_
        refine lv_as (z := nI i) rfl ?_
        refine mr_tape F hW (vp_in_nI (by omega) (by decide)) dX8_next_19 ?_
        refine lv_as (z := (nmS σ (nI i) (σ 0 19) (σ 0 20) (σ 0 21)) 4 i) (by rw [nI_clamp (show i < 2 ^ 31 by omega)]) ?_
        refine lv_as (z := β i) ((hβ _ (by omega)).symm) ?_
        refine lv_bipush (v := 32) hx hb dX8_next_20 (by decide) ?_
        refine lv_icmp_eq (tgt := 39) hx hb dX8_next_22 (by decide) (fun c_3 => ?_) (fun c_3 => ?_)
        ·
          refine lv_aload_n hx hb dX8_next_39 rfl (lv_at hl 0 rfl) ?_
          refine lv_dup hx hb dX8_next_40 rfl ?_
          refine mr_f F hW 18 (by decide) rfl fl_RX8_96 dX8_next_41 ?_
          refine lv_as (z := nI i) rfl ?_
          refine lv_iconst (v := 1) hx hb dX8_next_44 (by decide) ?_
          refine lv_iadd hx hb dX8_next_45 ?_
          refine lv_as (z := nI (i + 1)) (nI_1 _) ?_
          refine mw_σ F hW 18 (by decide) fl_RX8_96 rfl (ty := .int) rfl rfl rfl rfl dX8_next_46 (fun H locs hW => ?_)
          have hW : MW D cA ad ρ T (nmS σ (nI (i + 1)) (σ 0 19) (σ 0 20) (σ 0 21)) A s s.heap H locs := by rw [nm_18] at hW; exact hW
          refine lv_goto (tgt := 0) hx hb dX8_next_49 (by decide) ?_
          exact ih0 (i + 1) f' (by omega) (by omega) (by omega) (by omega) (by rw [← hRR]; exact ((if_pos hlt).trans (if_pos (Or.inl c_3))).symm) _ _ _ hW (lv_sub hl [0] rfl)
        ·
          refine lv_aload_n hx hb dX8_next_25 rfl (lv_at hl 0 rfl) ?_
          refine mr_f F hW 5 (by decide) rfl fl_RX8_19 dX8_next_26 ?_
          refine lv_aload_n hx hb dX8_next_29 rfl (lv_at hl 0 rfl) ?_
          refine mr_f F hW 18 (by decide) rfl fl_RX8_96 dX8_next_30 ?_
          refine lv_as (z := nI i) rfl ?_
          refine mr_tape F hW (vp_in_nI (by omega) (by decide)) dX8_next_33 ?_
          refine lv_as (z := (nmS σ (nI i) (σ 0 19) (σ 0 20) (σ 0 21)) 4 i) (by rw [nI_clamp (show i < 2 ^ 31 by omega)]) ?_
          refine lv_as (z := β i) ((hβ _ (by omega)).symm) ?_
          refine lv_bipush (v := 10) hx hb dX8_next_34 (by decide) ?_
          refine lv_icmp_ne (tgt := 52) hx hb dX8_next_36 (by decide) (fun c_4 => ?_) (fun c_4 => ?_)
          ·
            have hRE : RES = i := by rw [← hRR]; exact (if_pos hlt).trans (if_neg (fun z => z.elim c_3 c_4))
            refine lv_aload_n hx hb dX8_next_52 rfl (lv_at hl 0 rfl) ?_
            refine lv_aload_n hx hb dX8_next_53 rfl (lv_at hl 0 rfl) ?_
            refine mr_f F hW 18 (by decide) rfl fl_RX8_96 dX8_next_54 ?_
            refine lv_as (z := nI i) rfl ?_
            refine mw_σ F hW 19 (by decide) fl_RX8_99 rfl (ty := .int) rfl rfl rfl rfl dX8_next_57 (fun H locs hW => ?_)
            have hW : MW D cA ad ρ T (nmS σ (nI i) (nI i) (σ 0 20) (σ 0 21)) A s s.heap H locs := by rw [nm_19] at hW; exact hW
            refine lv_aload_n hx hb dX8_next_60 rfl (lv_at hl 0 rfl) ?_
            refine lv_iconst (v := 0) hx hb dX8_next_61 (by decide) ?_
            refine mw_σ F hW 20 (by decide) fl_RX8_102 rfl (ty := .int) rfl rfl rfl rfl dX8_next_62 (fun H locs hW => ?_)
            have hW : MW D cA ad ρ T (nmS σ (nI i) (nI i) 0 (σ 0 21)) A s s.heap H locs := by rw [nm_20] at hW; exact hW
            refine lv_aload_n hx hb dX8_next_65 rfl (lv_at hl 0 rfl) ?_
            refine lv_iconst (v := 0) hx hb dX8_next_66 (by decide) ?_
            refine mw_σ F hW 21 (by decide) fl_RX8_105 rfl (ty := .int) rfl rfl rfl rfl dX8_next_67 (fun H locs hW => ?_)
            have hW : MW D cA ad ρ T (nmS σ (nI i) (nI i) 0 0) A s s.heap H locs := by rw [nm_21] at hW; exact hW
            refine lv_aload_n hx hb dX8_next_70 rfl (lv_at hl 0 rfl) ?_
            refine mr_f F hW 18 (by decide) rfl fl_RX8_96 dX8_next_71 ?_
            refine lv_as (z := nI i) rfl ?_
            refine lv_aload_n hx hb dX8_next_74 rfl (lv_at hl 0 rfl) ?_
            refine mr_f F hW 6 (by decide) rfl fl_RX8_61 dX8_next_75 ?_
            refine lv_as (z := nI z) hz ?_
            refine lv_icmp_ne (tgt := 82) hx hb dX8_next_78 (by decide) (fun c_5 => ?_) (fun c_5 => ?_)
            ·
              refine lv_aload_n hx hb dX8_next_82 rfl (lv_at hl 0 rfl) ?_
              refine mr_f F hW 5 (by decide) rfl fl_RX8_19 dX8_next_83 ?_
              refine lv_aload_n hx hb dX8_next_86 rfl (lv_at hl 0 rfl) ?_
              refine mr_f F hW 18 (by decide) rfl fl_RX8_96 dX8_next_87 ?_
              refine lv_as (z := nI i) rfl ?_
              refine mr_tape F hW (vp_in_nI (by omega) (by decide)) dX8_next_90 ?_
              refine lv_as (z := (nmS σ (nI i) (nI i) 0 0) 4 i) (by rw [nI_clamp (show i < 2 ^ 31 by omega)]) ?_
              refine lv_as (z := β i) ((hβ _ (by omega)).symm) ?_
              refine lv_istore_n (lv' := [(1, .int (β i)), (0, .ref (ad 0))]) hx hb dX8_next_91 rfl hl (by decide) rfl (fun ls hl => ?_)
              refine lv_iload_n hx hb dX8_next_92 rfl (lv_at hl 0 rfl) ?_
              refine lv_bipush (v := 97) hx hb dX8_next_93 (by decide) ?_
              refine lv_bipush (v := 122) hx hb dX8_next_95 (by decide) ?_
              refine gw_callP (As := [.int (β i), .int 97, .int 122]) (rest := []) F hl.1 (kX8_in) pd_yX8_in ml_RX8_72 st_yX8_in ini_RX8 cd_yX8_in ⟨rfl, rfl⟩ ⟨Nat.le_of_ble_eq_true rfl, Nat.le_of_ble_eq_true rfl⟩ rfl rfl (Nat.le_of_ble_eq_true rfl) ⟨Nat.zero_le _, Nat.zero_le _⟩ dX8_next_97 ?_
              refine lv_as (z := inP (β i) 97 122) rfl ?_
              refine lv_as (z := letS (β i)) (rfl) ?_
              refine lv_if_eq (tgt := 217) hx hb dX8_next_100 (by decide) (fun c_6 => ?_) (fun c_6 => ?_)
              ·
                refine lv_iload_n hx hb dX8_next_217 rfl (lv_at hl 0 rfl) ?_
                refine lv_bipush (v := 48) hx hb dX8_next_218 (by decide) ?_
                refine lv_bipush (v := 57) hx hb dX8_next_220 (by decide) ?_
                refine gw_callP (As := [.int (β i), .int 48, .int 57]) (rest := []) F hl.1 (kX8_in) pd_yX8_in ml_RX8_72 st_yX8_in ini_RX8 cd_yX8_in ⟨rfl, rfl⟩ ⟨Nat.le_of_ble_eq_true rfl, Nat.le_of_ble_eq_true rfl⟩ rfl rfl (Nat.le_of_ble_eq_true rfl) ⟨Nat.zero_le _, Nat.zero_le _⟩ dX8_next_222 ?_
                refine lv_as (z := inP (β i) 48 57) rfl ?_
                refine lv_as (z := digS (β i)) (rfl) ?_
                refine lv_if_eq (tgt := 326) hx hb dX8_next_225 (by decide) (fun c_7 => ?_) (fun c_7 => ?_)
                ·
                  refine lv_iload_n hx hb dX8_next_326 rfl (lv_at hl 0 rfl) ?_
                  refine lv_bipush (v := 40) hx hb dX8_next_327 (by decide) ?_
                  refine lv_icmp_eq (tgt := 374) hx hb dX8_next_329 (by decide) (fun c_8 => ?_) (fun c_8 => ?_)
                  ·
                    refine lv_iconst (v := 1) hx hb dX8_next_374 (by decide) ?_
                    refine lv_goto (tgt := 379) hx hb dX8_next_375 (by decide) ?_
                    refine lv_istore_n (lv' := [(2, .int 1), (1, .int (β i)), (0, .ref (ad 0))]) hx hb dX8_next_379 rfl hl (by decide) rfl (fun ls hl => ?_)
                    refine lv_aload_n hx hb dX8_next_380 rfl (lv_at hl 2 rfl) ?_
                    refine lv_iload_n hx hb dX8_next_381 rfl (lv_at hl 0 rfl) ?_
                    refine lv_if_eq (tgt := 389) hx hb dX8_next_382 (by decide) (fun c_9 => ?_) (fun c_9 => ?_)
                    ·
                      exact absurd c_9 (by decide)
                    ·
                      refine lv_iload_n hx hb dX8_next_385 rfl (lv_at hl 1 rfl) ?_
                      refine lv_goto (tgt := 390) hx hb dX8_next_386 (by decide) ?_
                      refine mw_σ F hW 20 (by decide) fl_RX8_102 rfl (ty := .int) rfl rfl rfl rfl dX8_next_390 (fun H locs hW => ?_)
                      have hW : MW D cA ad ρ T (nmS σ (nI i) (nI i) (β i) 0) A s s.heap H locs := by rw [nm_20] at hW; exact hW
                      refine lv_aload_n hx hb dX8_next_393 rfl (lv_at hl 2 rfl) ?_
                      refine lv_dup hx hb dX8_next_394 rfl ?_
                      refine mr_f F hW 18 (by decide) rfl fl_RX8_96 dX8_next_395 ?_
                      refine lv_as (z := nI i) rfl ?_
                      refine lv_iconst (v := 1) hx hb dX8_next_398 (by decide) ?_
                      refine lv_iadd hx hb dX8_next_399 ?_
                      refine lv_as (z := nI (i + 1)) (nI_1 _) ?_
                      refine mw_σ F hW 18 (by decide) fl_RX8_96 rfl (ty := .int) rfl rfl rfl rfl dX8_next_400 (fun H locs hW => ?_)
                      have hW : MW D cA ad ρ T (nmS σ (nI (i + 1)) (nI i) (β i) 0) A s s.heap H locs := by rw [nm_18] at hW; exact hW
                      exact hret (nmS σ (nI (i + 1)) (nI i) (β i) 0) _ _ _ _ _ hW rfl (by have hA : nxA β z i = i + 1 := (if_pos hlt).trans ((if_pos c_6).trans (if_pos c_7)); have hK : nxK β z i = 40 := ((if_pos hlt).trans ((if_pos c_6).trans (if_pos c_7))).trans (by rw [c_8]; decide); rw [hR0, hRE, hA, hK, tk_40, c_8]; exact ⟨0, rfl, vok_of (Or.inr (Or.inr (Or.inl rfl)))⟩) dX8_next_403
                  ·
                    refine lv_iload_n hx hb dX8_next_332 rfl (lv_at hl 0 rfl) ?_
                    refine lv_bipush (v := 41) hx hb dX8_next_333 (by decide) ?_
                    refine lv_icmp_eq (tgt := 374) hx hb dX8_next_335 (by decide) (fun c_10 => ?_) (fun c_10 => ?_)
                    ·
                      refine lv_iconst (v := 1) hx hb dX8_next_374 (by decide) ?_
                      refine lv_goto (tgt := 379) hx hb dX8_next_375 (by decide) ?_
                      refine lv_istore_n (lv' := [(2, .int 1), (1, .int (β i)), (0, .ref (ad 0))]) hx hb dX8_next_379 rfl hl (by decide) rfl (fun ls hl => ?_)
                      refine lv_aload_n hx hb dX8_next_380 rfl (lv_at hl 2 rfl) ?_
                      refine lv_iload_n hx hb dX8_next_381 rfl (lv_at hl 0 rfl) ?_
                      refine lv_if_eq (tgt := 389) hx hb dX8_next_382 (by decide) (fun c_11 => ?_) (fun c_11 => ?_)
                      ·
                        exact absurd c_11 (by decide)
                      ·
                        refine lv_iload_n hx hb dX8_next_385 rfl (lv_at hl 1 rfl) ?_
                        refine lv_goto (tgt := 390) hx hb dX8_next_386 (by decide) ?_
                        refine mw_σ F hW 20 (by decide) fl_RX8_102 rfl (ty := .int) rfl rfl rfl rfl dX8_next_390 (fun H locs hW => ?_)
                        have hW : MW D cA ad ρ T (nmS σ (nI i) (nI i) (β i) 0) A s s.heap H locs := by rw [nm_20] at hW; exact hW
                        refine lv_aload_n hx hb dX8_next_393 rfl (lv_at hl 2 rfl) ?_
                        refine lv_dup hx hb dX8_next_394 rfl ?_
                        refine mr_f F hW 18 (by decide) rfl fl_RX8_96 dX8_next_395 ?_
                        refine lv_as (z := nI i) rfl ?_
                        refine lv_iconst (v := 1) hx hb dX8_next_398 (by decide) ?_
                        refine lv_iadd hx hb dX8_next_399 ?_
                        refine lv_as (z := nI (i + 1)) (nI_1 _) ?_
                        refine mw_σ F hW 18 (by decide) fl_RX8_96 rfl (ty := .int) rfl rfl rfl rfl dX8_next_400 (fun H locs hW => ?_)
                        have hW : MW D cA ad ρ T (nmS σ (nI (i + 1)) (nI i) (β i) 0) A s s.heap H locs := by rw [nm_18] at hW; exact hW
                        exact hret (nmS σ (nI (i + 1)) (nI i) (β i) 0) _ _ _ _ _ hW rfl (by have hA : nxA β z i = i + 1 := (if_pos hlt).trans ((if_pos c_6).trans (if_pos c_7)); have hK : nxK β z i = 41 := ((if_pos hlt).trans ((if_pos c_6).trans (if_pos c_7))).trans (by rw [c_10]; decide); rw [hR0, hRE, hA, hK, tk_41, c_10]; exact ⟨0, rfl, vok_of (Or.inr (Or.inr (Or.inr (Or.inl rfl))))⟩) dX8_next_403
                    ·
                      refine lv_iload_n hx hb dX8_next_338 rfl (lv_at hl 0 rfl) ?_
                      refine lv_bipush (v := 59) hx hb dX8_next_339 (by decide) ?_
                      refine lv_icmp_eq (tgt := 374) hx hb dX8_next_341 (by decide) (fun c_12 => ?_) (fun c_12 => ?_)
                      ·
                        refine lv_iconst (v := 1) hx hb dX8_next_374 (by decide) ?_
                        refine lv_goto (tgt := 379) hx hb dX8_next_375 (by decide) ?_
                        refine lv_istore_n (lv' := [(2, .int 1), (1, .int (β i)), (0, .ref (ad 0))]) hx hb dX8_next_379 rfl hl (by decide) rfl (fun ls hl => ?_)
                        refine lv_aload_n hx hb dX8_next_380 rfl (lv_at hl 2 rfl) ?_
                        refine lv_iload_n hx hb dX8_next_381 rfl (lv_at hl 0 rfl) ?_
                        refine lv_if_eq (tgt := 389) hx hb dX8_next_382 (by decide) (fun c_13 => ?_) (fun c_13 => ?_)
                        ·
                          exact absurd c_13 (by decide)
                        ·
                          refine lv_iload_n hx hb dX8_next_385 rfl (lv_at hl 1 rfl) ?_
                          refine lv_goto (tgt := 390) hx hb dX8_next_386 (by decide) ?_
                          refine mw_σ F hW 20 (by decide) fl_RX8_102 rfl (ty := .int) rfl rfl rfl rfl dX8_next_390 (fun H locs hW => ?_)
                          have hW : MW D cA ad ρ T (nmS σ (nI i) (nI i) (β i) 0) A s s.heap H locs := by rw [nm_20] at hW; exact hW
                          refine lv_aload_n hx hb dX8_next_393 rfl (lv_at hl 2 rfl) ?_
                          refine lv_dup hx hb dX8_next_394 rfl ?_
                          refine mr_f F hW 18 (by decide) rfl fl_RX8_96 dX8_next_395 ?_
                          refine lv_as (z := nI i) rfl ?_
                          refine lv_iconst (v := 1) hx hb dX8_next_398 (by decide) ?_
                          refine lv_iadd hx hb dX8_next_399 ?_
                          refine lv_as (z := nI (i + 1)) (nI_1 _) ?_
                          refine mw_σ F hW 18 (by decide) fl_RX8_96 rfl (ty := .int) rfl rfl rfl rfl dX8_next_400 (fun H locs hW => ?_)
                          have hW : MW D cA ad ρ T (nmS σ (nI (i + 1)) (nI i) (β i) 0) A s s.heap H locs := by rw [nm_18] at hW; exact hW
                          exact hret (nmS σ (nI (i + 1)) (nI i) (β i) 0) _ _ _ _ _ hW rfl (by have hA : nxA β z i = i + 1 := (if_pos hlt).trans ((if_pos c_6).trans (if_pos c_7)); have hK : nxK β z i = 59 := ((if_pos hlt).trans ((if_pos c_6).trans (if_pos c_7))).trans (by rw [c_12]; decide); rw [hR0, hRE, hA, hK, tk_59, c_12]; exact ⟨0, rfl, vok_of (Or.inr (Or.inr (Or.inr (Or.inr (Or.inr (Or.inr (Or.inr (Or.inl rfl))))))))⟩) dX8_next_403
                      ·
                        refine lv_iload_n hx hb dX8_next_344 rfl (lv_at hl 0 rfl) ?_
                        refine lv_bipush (v := 43) hx hb dX8_next_345 (by decide) ?_
                        refine lv_icmp_eq (tgt := 374) hx hb dX8_next_347 (by decide) (fun c_14 => ?_) (fun c_14 => ?_)
                        ·
                          refine lv_iconst (v := 1) hx hb dX8_next_374 (by decide) ?_
                          refine lv_goto (tgt := 379) hx hb dX8_next_375 (by decide) ?_
                          refine lv_istore_n (lv' := [(2, .int 1), (1, .int (β i)), (0, .ref (ad 0))]) hx hb dX8_next_379 rfl hl (by decide) rfl (fun ls hl => ?_)
                          refine lv_aload_n hx hb dX8_next_380 rfl (lv_at hl 2 rfl) ?_
                          refine lv_iload_n hx hb dX8_next_381 rfl (lv_at hl 0 rfl) ?_
                          refine lv_if_eq (tgt := 389) hx hb dX8_next_382 (by decide) (fun c_15 => ?_) (fun c_15 => ?_)
                          ·
                            exact absurd c_15 (by decide)
                          ·
                            refine lv_iload_n hx hb dX8_next_385 rfl (lv_at hl 1 rfl) ?_
                            refine lv_goto (tgt := 390) hx hb dX8_next_386 (by decide) ?_
                            refine mw_σ F hW 20 (by decide) fl_RX8_102 rfl (ty := .int) rfl rfl rfl rfl dX8_next_390 (fun H locs hW => ?_)
                            have hW : MW D cA ad ρ T (nmS σ (nI i) (nI i) (β i) 0) A s s.heap H locs := by rw [nm_20] at hW; exact hW
                            refine lv_aload_n hx hb dX8_next_393 rfl (lv_at hl 2 rfl) ?_
                            refine lv_dup hx hb dX8_next_394 rfl ?_
                            refine mr_f F hW 18 (by decide) rfl fl_RX8_96 dX8_next_395 ?_
                            refine lv_as (z := nI i) rfl ?_
                            refine lv_iconst (v := 1) hx hb dX8_next_398 (by decide) ?_
                            refine lv_iadd hx hb dX8_next_399 ?_
                            refine lv_as (z := nI (i + 1)) (nI_1 _) ?_
                            refine mw_σ F hW 18 (by decide) fl_RX8_96 rfl (ty := .int) rfl rfl rfl rfl dX8_next_400 (fun H locs hW => ?_)
                            have hW : MW D cA ad ρ T (nmS σ (nI (i + 1)) (nI i) (β i) 0) A s s.heap H locs := by rw [nm_18] at hW; exact hW
                            exact hret (nmS σ (nI (i + 1)) (nI i) (β i) 0) _ _ _ _ _ hW rfl (by have hA : nxA β z i = i + 1 := (if_pos hlt).trans ((if_pos c_6).trans (if_pos c_7)); have hK : nxK β z i = 43 := ((if_pos hlt).trans ((if_pos c_6).trans (if_pos c_7))).trans (by rw [c_14]; decide); rw [hR0, hRE, hA, hK, tk_43, c_14]; exact ⟨0, rfl, vok_of (Or.inr (Or.inr (Or.inr (Or.inr (Or.inr (Or.inl rfl))))))⟩) dX8_next_403
                        ·
                          refine lv_iload_n hx hb dX8_next_350 rfl (lv_at hl 0 rfl) ?_
                          refine lv_bipush (v := 45) hx hb dX8_next_351 (by decide) ?_
                          refine lv_icmp_eq (tgt := 374) hx hb dX8_next_353 (by decide) (fun c_16 => ?_) (fun c_16 => ?_)
                          ·
                            refine lv_iconst (v := 1) hx hb dX8_next_374 (by decide) ?_
                            refine lv_goto (tgt := 379) hx hb dX8_next_375 (by decide) ?_
                            refine lv_istore_n (lv' := [(2, .int 1), (1, .int (β i)), (0, .ref (ad 0))]) hx hb dX8_next_379 rfl hl (by decide) rfl (fun ls hl => ?_)
                            refine lv_aload_n hx hb dX8_next_380 rfl (lv_at hl 2 rfl) ?_
                            refine lv_iload_n hx hb dX8_next_381 rfl (lv_at hl 0 rfl) ?_
                            refine lv_if_eq (tgt := 389) hx hb dX8_next_382 (by decide) (fun c_17 => ?_) (fun c_17 => ?_)
                            ·
                              exact absurd c_17 (by decide)
                            ·
                              refine lv_iload_n hx hb dX8_next_385 rfl (lv_at hl 1 rfl) ?_
                              refine lv_goto (tgt := 390) hx hb dX8_next_386 (by decide) ?_
                              refine mw_σ F hW 20 (by decide) fl_RX8_102 rfl (ty := .int) rfl rfl rfl rfl dX8_next_390 (fun H locs hW => ?_)
                              have hW : MW D cA ad ρ T (nmS σ (nI i) (nI i) (β i) 0) A s s.heap H locs := by rw [nm_20] at hW; exact hW
                              refine lv_aload_n hx hb dX8_next_393 rfl (lv_at hl 2 rfl) ?_
                              refine lv_dup hx hb dX8_next_394 rfl ?_
                              refine mr_f F hW 18 (by decide) rfl fl_RX8_96 dX8_next_395 ?_
                              refine lv_as (z := nI i) rfl ?_
                              refine lv_iconst (v := 1) hx hb dX8_next_398 (by decide) ?_
                              refine lv_iadd hx hb dX8_next_399 ?_
                              refine lv_as (z := nI (i + 1)) (nI_1 _) ?_
                              refine mw_σ F hW 18 (by decide) fl_RX8_96 rfl (ty := .int) rfl rfl rfl rfl dX8_next_400 (fun H locs hW => ?_)
                              have hW : MW D cA ad ρ T (nmS σ (nI (i + 1)) (nI i) (β i) 0) A s s.heap H locs := by rw [nm_18] at hW; exact hW
                              exact hret (nmS σ (nI (i + 1)) (nI i) (β i) 0) _ _ _ _ _ hW rfl (by have hA : nxA β z i = i + 1 := (if_pos hlt).trans ((if_pos c_6).trans (if_pos c_7)); have hK : nxK β z i = 45 := ((if_pos hlt).trans ((if_pos c_6).trans (if_pos c_7))).trans (by rw [c_16]; decide); rw [hR0, hRE, hA, hK, tk_45, c_16]; exact ⟨0, rfl, vok_of (Or.inr (Or.inr (Or.inr (Or.inr (Or.inr (Or.inr (Or.inl rfl)))))))⟩) dX8_next_403
                          ·
                            refine lv_iload_n hx hb dX8_next_356 rfl (lv_at hl 0 rfl) ?_
                            refine lv_bipush (v := 42) hx hb dX8_next_357 (by decide) ?_
                            refine lv_icmp_eq (tgt := 374) hx hb dX8_next_359 (by decide) (fun c_18 => ?_) (fun c_18 => ?_)
                            ·
                              refine lv_iconst (v := 1) hx hb dX8_next_374 (by decide) ?_
                              refine lv_goto (tgt := 379) hx hb dX8_next_375 (by decide) ?_
                              refine lv_istore_n (lv' := [(2, .int 1), (1, .int (β i)), (0, .ref (ad 0))]) hx hb dX8_next_379 rfl hl (by decide) rfl (fun ls hl => ?_)
                              refine lv_aload_n hx hb dX8_next_380 rfl (lv_at hl 2 rfl) ?_
                              refine lv_iload_n hx hb dX8_next_381 rfl (lv_at hl 0 rfl) ?_
                              refine lv_if_eq (tgt := 389) hx hb dX8_next_382 (by decide) (fun c_19 => ?_) (fun c_19 => ?_)
                              ·
                                exact absurd c_19 (by decide)
                              ·
                                refine lv_iload_n hx hb dX8_next_385 rfl (lv_at hl 1 rfl) ?_
                                refine lv_goto (tgt := 390) hx hb dX8_next_386 (by decide) ?_
                                refine mw_σ F hW 20 (by decide) fl_RX8_102 rfl (ty := .int) rfl rfl rfl rfl dX8_next_390 (fun H locs hW => ?_)
                                have hW : MW D cA ad ρ T (nmS σ (nI i) (nI i) (β i) 0) A s s.heap H locs := by rw [nm_20] at hW; exact hW
                                refine lv_aload_n hx hb dX8_next_393 rfl (lv_at hl 2 rfl) ?_
                                refine lv_dup hx hb dX8_next_394 rfl ?_
                                refine mr_f F hW 18 (by decide) rfl fl_RX8_96 dX8_next_395 ?_
                                refine lv_as (z := nI i) rfl ?_
                                refine lv_iconst (v := 1) hx hb dX8_next_398 (by decide) ?_
                                refine lv_iadd hx hb dX8_next_399 ?_
                                refine lv_as (z := nI (i + 1)) (nI_1 _) ?_
                                refine mw_σ F hW 18 (by decide) fl_RX8_96 rfl (ty := .int) rfl rfl rfl rfl dX8_next_400 (fun H locs hW => ?_)
                                have hW : MW D cA ad ρ T (nmS σ (nI (i + 1)) (nI i) (β i) 0) A s s.heap H locs := by rw [nm_18] at hW; exact hW
                                exact hret (nmS σ (nI (i + 1)) (nI i) (β i) 0) _ _ _ _ _ hW rfl (by have hA : nxA β z i = i + 1 := (if_pos hlt).trans ((if_pos c_6).trans (if_pos c_7)); have hK : nxK β z i = 42 := ((if_pos hlt).trans ((if_pos c_6).trans (if_pos c_7))).trans (by rw [c_18]; decide); rw [hR0, hRE, hA, hK, tk_42, c_18]; exact ⟨0, rfl, vok_of (Or.inr (Or.inr (Or.inr (Or.inr (Or.inl rfl)))))⟩) dX8_next_403
                            ·
                              refine lv_iload_n hx hb dX8_next_362 rfl (lv_at hl 0 rfl) ?_
                              refine lv_bipush (v := 60) hx hb dX8_next_363 (by decide) ?_
                              refine lv_icmp_eq (tgt := 374) hx hb dX8_next_365 (by decide) (fun c_20 => ?_) (fun c_20 => ?_)
                              ·
                                refine lv_iconst (v := 1) hx hb dX8_next_374 (by decide) ?_
                                refine lv_goto (tgt := 379) hx hb dX8_next_375 (by decide) ?_
                                refine lv_istore_n (lv' := [(2, .int 1), (1, .int (β i)), (0, .ref (ad 0))]) hx hb dX8_next_379 rfl hl (by decide) rfl (fun ls hl => ?_)
                                refine lv_aload_n hx hb dX8_next_380 rfl (lv_at hl 2 rfl) ?_
                                refine lv_iload_n hx hb dX8_next_381 rfl (lv_at hl 0 rfl) ?_
                                refine lv_if_eq (tgt := 389) hx hb dX8_next_382 (by decide) (fun c_21 => ?_) (fun c_21 => ?_)
                                ·
                                  exact absurd c_21 (by decide)
                                ·
                                  refine lv_iload_n hx hb dX8_next_385 rfl (lv_at hl 1 rfl) ?_
                                  refine lv_goto (tgt := 390) hx hb dX8_next_386 (by decide) ?_
                                  refine mw_σ F hW 20 (by decide) fl_RX8_102 rfl (ty := .int) rfl rfl rfl rfl dX8_next_390 (fun H locs hW => ?_)
                                  have hW : MW D cA ad ρ T (nmS σ (nI i) (nI i) (β i) 0) A s s.heap H locs := by rw [nm_20] at hW; exact hW
                                  refine lv_aload_n hx hb dX8_next_393 rfl (lv_at hl 2 rfl) ?_
                                  refine lv_dup hx hb dX8_next_394 rfl ?_
                                  refine mr_f F hW 18 (by decide) rfl fl_RX8_96 dX8_next_395 ?_
                                  refine lv_as (z := nI i) rfl ?_
                                  refine lv_iconst (v := 1) hx hb dX8_next_398 (by decide) ?_
                                  refine lv_iadd hx hb dX8_next_399 ?_
                                  refine lv_as (z := nI (i + 1)) (nI_1 _) ?_
                                  refine mw_σ F hW 18 (by decide) fl_RX8_96 rfl (ty := .int) rfl rfl rfl rfl dX8_next_400 (fun H locs hW => ?_)
                                  have hW : MW D cA ad ρ T (nmS σ (nI (i + 1)) (nI i) (β i) 0) A s s.heap H locs := by rw [nm_18] at hW; exact hW
                                  exact hret (nmS σ (nI (i + 1)) (nI i) (β i) 0) _ _ _ _ _ hW rfl (by have hA : nxA β z i = i + 1 := (if_pos hlt).trans ((if_pos c_6).trans (if_pos c_7)); have hK : nxK β z i = 60 := ((if_pos hlt).trans ((if_pos c_6).trans (if_pos c_7))).trans (by rw [c_20]; decide); rw [hR0, hRE, hA, hK, tk_60, c_20]; exact ⟨0, rfl, vok_of (Or.inr (Or.inr (Or.inr (Or.inr (Or.inr (Or.inr (Or.inr (Or.inr (Or.inl rfl)))))))))⟩) dX8_next_403
                              ·
                                refine lv_iload_n hx hb dX8_next_368 rfl (lv_at hl 0 rfl) ?_
                                refine lv_bipush (v := 61) hx hb dX8_next_369 (by decide) ?_
                                refine lv_icmp_ne (tgt := 378) hx hb dX8_next_371 (by decide) (fun c_22 => ?_) (fun c_22 => ?_)
                                ·
                                  refine lv_iconst (v := 0) hx hb dX8_next_378 (by decide) ?_
                                  refine lv_istore_n (lv' := [(2, .int 0), (1, .int (β i)), (0, .ref (ad 0))]) hx hb dX8_next_379 rfl hl (by decide) rfl (fun ls hl => ?_)
                                  refine lv_aload_n hx hb dX8_next_380 rfl (lv_at hl 2 rfl) ?_
                                  refine lv_iload_n hx hb dX8_next_381 rfl (lv_at hl 0 rfl) ?_
                                  refine lv_if_eq (tgt := 389) hx hb dX8_next_382 (by decide) (fun c_23 => ?_) (fun c_23 => ?_)
                                  ·
                                    refine lv_iconst (v := (-1)) hx hb dX8_next_389 (by decide) ?_
                                    refine mw_σ F hW 20 (by decide) fl_RX8_102 rfl (ty := .int) rfl rfl rfl rfl dX8_next_390 (fun H locs hW => ?_)
                                    have hW : MW D cA ad ρ T (nmS σ (nI i) (nI i) (-1) 0) A s s.heap H locs := by rw [nm_20] at hW; exact hW
                                    refine lv_aload_n hx hb dX8_next_393 rfl (lv_at hl 2 rfl) ?_
                                    refine lv_dup hx hb dX8_next_394 rfl ?_
                                    refine mr_f F hW 18 (by decide) rfl fl_RX8_96 dX8_next_395 ?_
                                    refine lv_as (z := nI i) rfl ?_
                                    refine lv_iconst (v := 1) hx hb dX8_next_398 (by decide) ?_
                                    refine lv_iadd hx hb dX8_next_399 ?_
                                    refine lv_as (z := nI (i + 1)) (nI_1 _) ?_
                                    refine mw_σ F hW 18 (by decide) fl_RX8_96 rfl (ty := .int) rfl rfl rfl rfl dX8_next_400 (fun H locs hW => ?_)
                                    have hW : MW D cA ad ρ T (nmS σ (nI (i + 1)) (nI i) (-1) 0) A s s.heap H locs := by rw [nm_18] at hW; exact hW
                                    exact hret (nmS σ (nI (i + 1)) (nI i) (-1) 0) _ _ _ _ _ hW rfl (by have hA : nxA β z i = i + 1 := (if_pos hlt).trans ((if_pos c_6).trans (if_pos c_7)); have hK : nxK β z i = 1 := ((if_pos hlt).trans ((if_pos c_6).trans (if_pos c_7))).trans (by unfold sigS; rw [if_neg (by simp only [c_8, c_10, c_12, c_14, c_16, c_18, c_20, c_22, or_self, not_false_eq_true])]); rw [hR0, hRE, hA, hK, tk_1]; exact ⟨0, rfl, vok_of (Or.inr (Or.inl rfl))⟩) dX8_next_403
                                  ·
                                    exact absurd c_23 (by decide)
                                ·
                                  refine lv_iconst (v := 1) hx hb dX8_next_374 (by decide) ?_
                                  refine lv_goto (tgt := 379) hx hb dX8_next_375 (by decide) ?_
                                  refine lv_istore_n (lv' := [(2, .int 1), (1, .int (β i)), (0, .ref (ad 0))]) hx hb dX8_next_379 rfl hl (by decide) rfl (fun ls hl => ?_)
                                  refine lv_aload_n hx hb dX8_next_380 rfl (lv_at hl 2 rfl) ?_
                                  refine lv_iload_n hx hb dX8_next_381 rfl (lv_at hl 0 rfl) ?_
                                  refine lv_if_eq (tgt := 389) hx hb dX8_next_382 (by decide) (fun c_24 => ?_) (fun c_24 => ?_)
                                  ·
                                    exact absurd c_24 (by decide)
                                  ·
                                    refine lv_iload_n hx hb dX8_next_385 rfl (lv_at hl 1 rfl) ?_
                                    refine lv_goto (tgt := 390) hx hb dX8_next_386 (by decide) ?_
                                    refine mw_σ F hW 20 (by decide) fl_RX8_102 rfl (ty := .int) rfl rfl rfl rfl dX8_next_390 (fun H locs hW => ?_)
                                    have hW : MW D cA ad ρ T (nmS σ (nI i) (nI i) (β i) 0) A s s.heap H locs := by rw [nm_20] at hW; exact hW
                                    refine lv_aload_n hx hb dX8_next_393 rfl (lv_at hl 2 rfl) ?_
                                    refine lv_dup hx hb dX8_next_394 rfl ?_
                                    refine mr_f F hW 18 (by decide) rfl fl_RX8_96 dX8_next_395 ?_
                                    refine lv_as (z := nI i) rfl ?_
                                    refine lv_iconst (v := 1) hx hb dX8_next_398 (by decide) ?_
                                    refine lv_iadd hx hb dX8_next_399 ?_
                                    refine lv_as (z := nI (i + 1)) (nI_1 _) ?_
                                    refine mw_σ F hW 18 (by decide) fl_RX8_96 rfl (ty := .int) rfl rfl rfl rfl dX8_next_400 (fun H locs hW => ?_)
                                    have hW : MW D cA ad ρ T (nmS σ (nI (i + 1)) (nI i) (β i) 0) A s s.heap H locs := by rw [nm_18] at hW; exact hW
                                    exact hret (nmS σ (nI (i + 1)) (nI i) (β i) 0) _ _ _ _ _ hW rfl (by have hA : nxA β z i = i + 1 := (if_pos hlt).trans ((if_pos c_6).trans (if_pos c_7)); have hK : nxK β z i = 61 := ((if_pos hlt).trans ((if_pos c_6).trans (if_pos c_7))).trans (by rw [c_22]; decide); rw [hR0, hRE, hA, hK, tk_61, c_22]; exact ⟨0, rfl, vok_of (Or.inr (Or.inr (Or.inr (Or.inr (Or.inr (Or.inr (Or.inr (Or.inr (Or.inr (rfl))))))))))⟩) dX8_next_403
                ·
                  refine lv_iconst (v := 0) hx hb dX8_next_228 (by decide) ?_
                  refine lv_istore_n (lv' := [(2, .int 0), (1, .int (β i)), (0, .ref (ad 0))]) hx hb dX8_next_229 rfl hl (by decide) rfl (fun ls hl => ?_)
                  generalize hR2 : numG β z 161 i 0 = RES2
                  have L230 : ∀ (k : Nat) (qq f2 : Nat) (vv xx : Int32), (i + qq ≤ z) → (z + 1 ≤ i + qq + k) → (z + 1 ≤ i + qq + f2) → (numG β z f2 (i + qq) xx = RES2) → (qq ≤ 4 → vv = xx) → ∀ (H : Heap) (locs : List Loc) (ls : Array Slot), MW D cA ad ρ T (nmS σ (nI (i + qq)) (nI i) 0 vv) A s s.heap H locs → lv_has ls 3 [(0, .ref (ad 0)), (2, .int (nI qq))] → W p l e rm_yX8_next s m ar below meth c H locs 0 0 Q (F0 m 230 ls []) := by
                    intro k
                    induction k with
                    | zero => intro qq f2 vv xx g1 h2 g3 hRR2 hcv; exact absurd h2 (by omega)
                    | succ k ih230 =>
                      intro qq f2 vv xx g1 h2 g3 hRR2 hcv H locs ls hW hl
                      refine lv_aload_n hx hb dX8_next_230 rfl (lv_at hl 0 rfl) ?_
                      refine mr_f F hW 18 (by decide) rfl fl_RX8_96 dX8_next_231 ?_
                      refine lv_as (z := nI (i + qq)) rfl ?_
                      refine lv_aload_n hx hb dX8_next_234 rfl (lv_at hl 0 rfl) ?_
                      refine mr_f F hW 6 (by decide) rfl fl_RX8_61 dX8_next_235 ?_
                      refine lv_as (z := nI z) hz ?_
                      refine lv_icmp_ge (tgt := 309) hx hb dX8_next_238 (by decide) (fun c_25 => ?_) (fun c_25 => ?_)
                      ·
                        obtain ⟨f2', rfl⟩ : ∃ x, f2 = x + 1 := ⟨f2 - 1, by omega⟩; have hge2 : ¬ i + qq < z := (by have := mi_le c_25 (by omega) (by omega); omega); have hRE2 : RES2 = (i + qq, xx) := (by rw [← hRR2]; exact if_neg hge2)
                        refine lv_aload_n hx hb dX8_next_309 rfl (lv_at hl 0 rfl) ?_
                        refine lv_iload_n hx hb dX8_next_310 rfl (lv_at hl 1 rfl) ?_
                        refine lv_iconst (v := 4) hx hb dX8_next_311 (by decide) ?_
                        refine lv_icmp_le (tgt := 319) hx hb dX8_next_312 (by decide) (fun c_26 => ?_) (fun c_26 => ?_)
                        ·
                          have hq5 : ¬ 4 < nI qq := Int32.not_lt.mpr c_26; have hq5n : qq ≤ 4 := mi_le (b := 4) c_26 (by omega) (by decide)
                          refine lv_iconst (v := 1) hx hb dX8_next_319 (by decide) ?_
                          refine mw_σ F hW 20 (by decide) fl_RX8_102 rfl (ty := .int) rfl rfl rfl rfl dX8_next_320 (fun H locs hW => ?_)
                          have hW : MW D cA ad ρ T (nmS σ (nI (i + qq)) (nI i) 1 vv) A s s.heap H locs := by rw [nm_20] at hW; exact hW
                          refine lv_goto (tgt := 403) hx hb dX8_next_323 (by decide) ?_
                          exact hret (nmS σ (nI (i + qq)) (nI i) 1 vv) _ _ _ _ _ hW rfl (by have hA : nxA β z i = i + qq := (if_pos hlt).trans ((if_pos c_6).trans ((if_neg c_7).trans (by rw [hR2, hRE2]))); have hK : nxK β z i = 2 := (if_pos hlt).trans ((if_pos c_6).trans ((if_neg c_7).trans (if_neg (by rw [hR2, hRE2]; show _ ; rw [show (i + qq, xx).1 - i = qq from Nat.add_sub_cancel_left _ _]; exact hq5)))); rw [hR0, hRE, hA, hK, tk_2]; exact ⟨vv, rfl, vok_num (by rw [hR2, hRE2]; exact hcv hq5n)⟩) dX8_next_403
                        ·
                          have hq5 : 4 < nI qq := Int32.not_le.mp c_26
                          refine lv_iconst (v := (-1)) hx hb dX8_next_315 (by decide) ?_
                          refine lv_goto (tgt := 320) hx hb dX8_next_316 (by decide) ?_
                          refine mw_σ F hW 20 (by decide) fl_RX8_102 rfl (ty := .int) rfl rfl rfl rfl dX8_next_320 (fun H locs hW => ?_)
                          have hW : MW D cA ad ρ T (nmS σ (nI (i + qq)) (nI i) (-1) vv) A s s.heap H locs := by rw [nm_20] at hW; exact hW
                          refine lv_goto (tgt := 403) hx hb dX8_next_323 (by decide) ?_
                          exact hret (nmS σ (nI (i + qq)) (nI i) (-1) vv) _ _ _ _ _ hW rfl (by have hA : nxA β z i = i + qq := (if_pos hlt).trans ((if_pos c_6).trans ((if_neg c_7).trans (by rw [hR2, hRE2]))); have hK : nxK β z i = 1 := (if_pos hlt).trans ((if_pos c_6).trans ((if_neg c_7).trans (if_pos (by rw [hR2, hRE2]; show _ ; rw [show (i + qq, xx).1 - i = qq from Nat.add_sub_cancel_left _ _]; exact hq5)))); rw [hR0, hRE, hA, hK, tk_1]; exact ⟨vv, rfl, vok_of (Or.inr (Or.inl rfl))⟩) dX8_next_403
                      ·
                        obtain ⟨f2', rfl⟩ : ∃ x, f2 = x + 1 := ⟨f2 - 1, by omega⟩; have hlt2 : i + qq < z := mi_nle c_25 (by omega) (by omega)
                        refine lv_aload_n hx hb dX8_next_241 rfl (lv_at hl 0 rfl) ?_
                        refine mr_f F hW 5 (by decide) rfl fl_RX8_19 dX8_next_242 ?_
                        refine lv_aload_n hx hb dX8_next_245 rfl (lv_at hl 0 rfl) ?_
                        refine mr_f F hW 18 (by decide) rfl fl_RX8_96 dX8_next_246 ?_
                        refine lv_as (z := nI (i + qq)) rfl ?_
                        refine mr_tape F hW (vp_in_nI (by omega) (by decide)) dX8_next_249 ?_
                        refine lv_as (z := (nmS σ (nI (i + qq)) (nI i) 0 vv) 4 (i + qq)) (by rw [nI_clamp (show i + qq < 2 ^ 31 by omega)]) ?_
                        refine lv_as (z := β (i + qq)) ((hβ _ (by omega)).symm) ?_
                        refine lv_bipush (v := 48) hx hb dX8_next_250 (by decide) ?_
                        refine lv_bipush (v := 57) hx hb dX8_next_252 (by decide) ?_
                        refine gw_callP (As := [.int (β (i + qq)), .int 48, .int 57]) (rest := []) F hl.1 (kX8_in) pd_yX8_in ml_RX8_72 st_yX8_in ini_RX8 cd_yX8_in ⟨rfl, rfl⟩ ⟨Nat.le_of_ble_eq_true rfl, Nat.le_of_ble_eq_true rfl⟩ rfl rfl (Nat.le_of_ble_eq_true rfl) ⟨Nat.zero_le _, Nat.zero_le _⟩ dX8_next_254 ?_
                        refine lv_as (z := inP (β (i + qq)) 48 57) rfl ?_
                        refine lv_as (z := digS (β (i + qq))) (rfl) ?_
                        refine lv_if_eq (tgt := 309) hx hb dX8_next_257 (by decide) (fun c_27 => ?_) (fun c_27 => ?_)
                        ·
                          have hRE2 : RES2 = (i + qq, xx) := by rw [← hRR2]; exact (if_pos hlt2).trans (if_pos c_27)
                          refine lv_aload_n hx hb dX8_next_309 rfl (lv_at hl 0 rfl) ?_
                          refine lv_iload_n hx hb dX8_next_310 rfl (lv_at hl 1 rfl) ?_
                          refine lv_iconst (v := 4) hx hb dX8_next_311 (by decide) ?_
                          refine lv_icmp_le (tgt := 319) hx hb dX8_next_312 (by decide) (fun c_28 => ?_) (fun c_28 => ?_)
                          ·
                            have hq5 : ¬ 4 < nI qq := Int32.not_lt.mpr c_28; have hq5n : qq ≤ 4 := mi_le (b := 4) c_28 (by omega) (by decide)
                            refine lv_iconst (v := 1) hx hb dX8_next_319 (by decide) ?_
                            refine mw_σ F hW 20 (by decide) fl_RX8_102 rfl (ty := .int) rfl rfl rfl rfl dX8_next_320 (fun H locs hW => ?_)
                            have hW : MW D cA ad ρ T (nmS σ (nI (i + qq)) (nI i) 1 vv) A s s.heap H locs := by rw [nm_20] at hW; exact hW
                            refine lv_goto (tgt := 403) hx hb dX8_next_323 (by decide) ?_
                            exact hret (nmS σ (nI (i + qq)) (nI i) 1 vv) _ _ _ _ _ hW rfl (by have hA : nxA β z i = i + qq := (if_pos hlt).trans ((if_pos c_6).trans ((if_neg c_7).trans (by rw [hR2, hRE2]))); have hK : nxK β z i = 2 := (if_pos hlt).trans ((if_pos c_6).trans ((if_neg c_7).trans (if_neg (by rw [hR2, hRE2]; show _ ; rw [show (i + qq, xx).1 - i = qq from Nat.add_sub_cancel_left _ _]; exact hq5)))); rw [hR0, hRE, hA, hK, tk_2]; exact ⟨vv, rfl, vok_num (by rw [hR2, hRE2]; exact hcv hq5n)⟩) dX8_next_403
                          ·
                            have hq5 : 4 < nI qq := Int32.not_le.mp c_28
                            refine lv_iconst (v := (-1)) hx hb dX8_next_315 (by decide) ?_
                            refine lv_goto (tgt := 320) hx hb dX8_next_316 (by decide) ?_
                            refine mw_σ F hW 20 (by decide) fl_RX8_102 rfl (ty := .int) rfl rfl rfl rfl dX8_next_320 (fun H locs hW => ?_)
                            have hW : MW D cA ad ρ T (nmS σ (nI (i + qq)) (nI i) (-1) vv) A s s.heap H locs := by rw [nm_20] at hW; exact hW
                            refine lv_goto (tgt := 403) hx hb dX8_next_323 (by decide) ?_
                            exact hret (nmS σ (nI (i + qq)) (nI i) (-1) vv) _ _ _ _ _ hW rfl (by have hA : nxA β z i = i + qq := (if_pos hlt).trans ((if_pos c_6).trans ((if_neg c_7).trans (by rw [hR2, hRE2]))); have hK : nxK β z i = 1 := (if_pos hlt).trans ((if_pos c_6).trans ((if_neg c_7).trans (if_pos (by rw [hR2, hRE2]; show _ ; rw [show (i + qq, xx).1 - i = qq from Nat.add_sub_cancel_left _ _]; exact hq5)))); rw [hR0, hRE, hA, hK, tk_1]; exact ⟨vv, rfl, vok_of (Or.inr (Or.inl rfl))⟩) dX8_next_403
                        ·
                          refine lv_aload_n hx hb dX8_next_260 rfl (lv_at hl 0 rfl) ?_
                          refine lv_iload_n hx hb dX8_next_261 rfl (lv_at hl 1 rfl) ?_
                          refine lv_iconst (v := 4) hx hb dX8_next_262 (by decide) ?_
                          refine lv_icmp_ge (tgt := 289) hx hb dX8_next_263 (by decide) (fun c_29 => ?_) (fun c_29 => ?_)
                          ·
                            have hq4 : 4 ≤ qq := mi_le (a := 4) c_29 (by decide) (by omega)
                            refine lv_iconst (v := 0) hx hb dX8_next_289 (by decide) ?_
                            refine mw_σ F hW 21 (by decide) fl_RX8_105 rfl (ty := .int) rfl rfl rfl rfl dX8_next_290 (fun H locs hW => ?_)
                            have hW : MW D cA ad ρ T (nmS σ (nI (i + qq)) (nI i) 0 0) A s s.heap H locs := by rw [nm_21] at hW; exact hW
                            refine lv_iinc (v := nI (qq + 1)) (lv' := [(2, .int (nI (qq + 1))), (0, .ref (ad 0))]) hx hb dX8_next_293 hl (k := 1) rfl (nI_1 qq) (by decide) rfl (fun ls hl => ?_)
                            refine lv_aload_n hx hb dX8_next_296 rfl (lv_at hl 1 rfl) ?_
                            refine lv_dup hx hb dX8_next_297 rfl ?_
                            refine mr_f F hW 18 (by decide) rfl fl_RX8_96 dX8_next_298 ?_
                            refine lv_as (z := nI (i + qq)) rfl ?_
                            refine lv_iconst (v := 1) hx hb dX8_next_301 (by decide) ?_
                            refine lv_iadd hx hb dX8_next_302 ?_
                            refine lv_as (z := nI (i + qq + 1)) (nI_1 _) ?_
                            refine mw_σ F hW 18 (by decide) fl_RX8_96 rfl (ty := .int) rfl rfl rfl rfl dX8_next_303 (fun H locs hW => ?_)
                            have hW : MW D cA ad ρ T (nmS σ (nI (i + qq + 1)) (nI i) 0 0) A s s.heap H locs := by rw [nm_18] at hW; exact hW
                            refine lv_goto (tgt := 230) hx hb dX8_next_306 (by decide) ?_
                            exact ih230 (qq + 1) f2' _ _ (by omega) (by omega) (by omega) (by rw [← hRR2]; exact ((if_pos hlt2).trans (if_neg c_27)).symm) (fun w => absurd w (by omega)) _ _ _ hW (lv_sub hl [1, 0] rfl)
                          ·
                            have hq4 : qq < 4 := mi_nle (a := 4) c_29 (by decide) (by omega)
                            refine lv_bipush (v := 10) hx hb dX8_next_266 (by decide) ?_
                            refine lv_aload_n hx hb dX8_next_268 rfl (lv_at hl 0 rfl) ?_
                            refine mr_f F hW 21 (by decide) rfl fl_RX8_105 dX8_next_269 ?_
                            refine lv_as (z := vv) rfl ?_
                            refine lv_imul hx hb dX8_next_272 ?_
                            refine lv_aload_n hx hb dX8_next_273 rfl (lv_at hl 0 rfl) ?_
                            refine mr_f F hW 5 (by decide) rfl fl_RX8_19 dX8_next_274 ?_
                            refine lv_aload_n hx hb dX8_next_277 rfl (lv_at hl 0 rfl) ?_
                            refine mr_f F hW 18 (by decide) rfl fl_RX8_96 dX8_next_278 ?_
                            refine lv_as (z := nI (i + qq)) rfl ?_
                            refine mr_tape F hW (vp_in_nI (by omega) (by decide)) dX8_next_281 ?_
                            refine lv_as (z := (nmS σ (nI (i + qq)) (nI i) 0 vv) 4 (i + qq)) (by rw [nI_clamp (show i + qq < 2 ^ 31 by omega)]) ?_
                            refine lv_as (z := β (i + qq)) ((hβ _ (by omega)).symm) ?_
                            refine lv_iadd hx hb dX8_next_282 ?_
                            refine lv_bipush (v := 48) hx hb dX8_next_283 (by decide) ?_
                            refine lv_isub hx hb dX8_next_285 ?_
                            refine lv_goto (tgt := 290) hx hb dX8_next_286 (by decide) ?_
                            refine mw_σ F hW 21 (by decide) fl_RX8_105 rfl (ty := .int) rfl rfl rfl rfl dX8_next_290 (fun H locs hW => ?_)
                            have hW : MW D cA ad ρ T (nmS σ (nI (i + qq)) (nI i) 0 (((10 * vv) + (β (i + qq))) - 48)) A s s.heap H locs := by rw [nm_21] at hW; exact hW
                            refine lv_iinc (v := nI (qq + 1)) (lv' := [(2, .int (nI (qq + 1))), (0, .ref (ad 0))]) hx hb dX8_next_293 hl (k := 1) rfl (nI_1 qq) (by decide) rfl (fun ls hl => ?_)
                            refine lv_aload_n hx hb dX8_next_296 rfl (lv_at hl 1 rfl) ?_
                            refine lv_dup hx hb dX8_next_297 rfl ?_
                            refine mr_f F hW 18 (by decide) rfl fl_RX8_96 dX8_next_298 ?_
                            refine lv_as (z := nI (i + qq)) rfl ?_
                            refine lv_iconst (v := 1) hx hb dX8_next_301 (by decide) ?_
                            refine lv_iadd hx hb dX8_next_302 ?_
                            refine lv_as (z := nI (i + qq + 1)) (nI_1 _) ?_
                            refine mw_σ F hW 18 (by decide) fl_RX8_96 rfl (ty := .int) rfl rfl rfl rfl dX8_next_303 (fun H locs hW => ?_)
                            have hW : MW D cA ad ρ T (nmS σ (nI (i + qq + 1)) (nI i) 0 (((10 * vv) + (β (i + qq))) - 48)) A s s.heap H locs := by rw [nm_18] at hW; exact hW
                            refine lv_goto (tgt := 230) hx hb dX8_next_306 (by decide) ?_
                            exact ih230 (qq + 1) f2' _ _ (by omega) (by omega) (by omega) (by rw [← hRR2]; exact ((if_pos hlt2).trans (if_neg c_27)).symm) (fun w => by rw [hcv (by omega), Int32.mul_comm]) _ _ _ hW (lv_sub hl [1, 0] rfl)
                  exact L230 (z + 1) 0 161 0 0 (h1) (by omega) (by omega) (hR2) (fun _ => rfl) _ _ _ hW (lv_sub hl [2, 0] rfl)
              ·
                generalize hR2 : letG β z 161 i = RES2
                have L103 : ∀ (k : Nat) (i2 f2 : Nat), (i ≤ i2) → (i2 ≤ z) → (z + 1 ≤ i2 + k) → (z + 1 ≤ i2 + f2) → (letG β z f2 i2 = RES2) → ∀ (H : Heap) (locs : List Loc) (ls : Array Slot), MW D cA ad ρ T (nmS σ (nI i2) (nI i) 0 0) A s s.heap H locs → lv_has ls 3 [(0, .ref (ad 0))] → W p l e rm_yX8_next s m ar below meth c H locs 0 0 Q (F0 m 103 ls []) := by
                  intro k
                  induction k with
                  | zero => intro i2 f2 g0 g1 h2 g3 hRR2; exact absurd h2 (by omega)
                  | succ k ih103 =>
                    intro i2 f2 g0 g1 h2 g3 hRR2 H locs ls hW hl
                    refine lv_aload_n hx hb dX8_next_103 rfl (lv_at hl 0 rfl) ?_
                    refine mr_f F hW 18 (by decide) rfl fl_RX8_96 dX8_next_104 ?_
                    refine lv_as (z := nI i2) rfl ?_
                    refine lv_aload_n hx hb dX8_next_107 rfl (lv_at hl 0 rfl) ?_
                    refine mr_f F hW 6 (by decide) rfl fl_RX8_61 dX8_next_108 ?_
                    refine lv_as (z := nI z) hz ?_
                    refine lv_icmp_ge (tgt := 146) hx hb dX8_next_111 (by decide) (fun c_30 => ?_) (fun c_30 => ?_)
                    ·
                      obtain ⟨f2', rfl⟩ : ∃ x, f2 = x + 1 := ⟨f2 - 1, by omega⟩; have hge2 : ¬ i2 < z := (by have := mi_le c_30 (by omega) (by omega); omega); have hRE2 : RES2 = i2 := (by rw [← hRR2]; exact if_neg hge2)
                      refine lv_aload_n hx hb dX8_next_146 rfl (lv_at hl 0 rfl) ?_
                      refine lv_aload_n hx hb dX8_next_147 rfl (lv_at hl 0 rfl) ?_
                      refine mr_f F hW 19 (by decide) rfl fl_RX8_99 dX8_next_148 ?_
                      refine lv_as (z := nI i) rfl ?_
                      refine lv_aload_n hx hb dX8_next_151 rfl (lv_at hl 0 rfl) ?_
                      refine mr_f F hW 18 (by decide) rfl fl_RX8_96 dX8_next_152 ?_
                      refine lv_as (z := nI i2) rfl ?_
                      have hLa : letG β z 161 i = i2 := hR2.trans hRE2
                      refine gw_callVi (As := [.int (nI i), .int (nI i2)]) (rest := []) F hl.1 hW (fun _ _ _ => trivial) gw_T_E (by decide) (rfl : ment ad cA _ _ _ 0 = _) rfl (kX8_wordFrom (β := β) (z := z) (t := i) (a := i2) hz1 g0 g1 (fun q h h3 => letG_all β z 161 i q h (by rw [hLa]; exact h3)) hβ hwd) pd_yX8_wordFrom ml_RX8_108 im_yX8_wordFrom se_yX8_wordFrom ini_RX8 cd_yX8_wordFrom ⟨rfl, rfl⟩ ⟨Nat.le_of_ble_eq_true rfl, Nat.le_of_ble_eq_true rfl⟩ rfl rfl (Nat.le_of_ble_eq_true rfl) ⟨Nat.zero_le _, Nat.zero_le _⟩ dX8_next_155 (fun r u H locs hp hW _ _ => ?_)
                      rcases hp with ⟨j, hj, hwo, rfl⟩ | ⟨hwo, rfl⟩
                      ·
                        refine lv_istore_n (lv' := [(2, .int (nI ((j + 3) % 12))), (0, .ref (ad 0))]) hx hb dX8_next_158 rfl hl (by decide) rfl (fun ls hl => ?_)
                        refine lv_aload_n hx hb dX8_next_159 rfl (lv_at hl 1 rfl) ?_
                        refine lv_iload_n hx hb dX8_next_160 rfl (lv_at hl 0 rfl) ?_
                        refine lv_iconst (v := 3) hx hb dX8_next_161 (by decide) ?_
                        refine lv_icmp_ge (tgt := 169) hx hb dX8_next_162 (by decide) (fun c_31 => ?_) (fun c_31 => ?_)
                        ·
                          refine lv_iload_n hx hb dX8_next_169 rfl (lv_at hl 0 rfl) ?_
                          refine lv_bipush (v := 9) hx hb dX8_next_170 (by decide) ?_
                          refine lv_icmp_ge (tgt := 179) hx hb dX8_next_172 (by decide) (fun c_32 => ?_) (fun c_32 => ?_)
                          ·
                            refine lv_iload_n hx hb dX8_next_179 rfl (lv_at hl 0 rfl) ?_
                            refine lv_bipush (v := 12) hx hb dX8_next_180 (by decide) ?_
                            refine lv_icmp_ne (tgt := 189) hx hb dX8_next_182 (by decide) (fun c_33 => ?_) (fun c_33 => ?_)
                            ·
                              refine lv_iconst (v := 4) hx hb dX8_next_189 (by decide) ?_
                              refine lv_iload_n hx hb dX8_next_190 rfl (lv_at hl 0 rfl) ?_
                              refine lv_iadd hx hb dX8_next_191 ?_
                              refine lv_bipush (v := 9) hx hb dX8_next_192 (by decide) ?_
                              refine lv_isub hx hb dX8_next_194 ?_
                              refine mw_σ F hW 20 (by decide) fl_RX8_102 rfl (ty := .int) rfl rfl rfl rfl dX8_next_195 (fun H locs hW => ?_)
                              have hW : MW D cA ad ρ T (nmS σ (nI i2) (nI i) ((4 + (nI ((j + 3) % 12))) - 9) 0) A s s.heap H locs := by rw [nm_20] at hW; exact hW
                              refine lv_aload_n hx hb dX8_next_198 rfl (lv_at hl 1 rfl) ?_
                              refine lv_iload_n hx hb dX8_next_199 rfl (lv_at hl 0 rfl) ?_
                              refine lv_iconst (v := 3) hx hb dX8_next_200 (by decide) ?_
                              refine lv_icmp_ge (tgt := 208) hx hb dX8_next_201 (by decide) (fun c_34 => ?_) (fun c_34 => ?_)
                              ·
                                refine lv_iload_n hx hb dX8_next_208 rfl (lv_at hl 0 rfl) ?_
                                refine lv_iconst (v := 3) hx hb dX8_next_209 (by decide) ?_
                                refine lv_isub hx hb dX8_next_210 ?_
                                refine mw_σ F hW 21 (by decide) fl_RX8_105 rfl (ty := .int) rfl rfl rfl rfl dX8_next_211 (fun H locs hW => ?_)
                                have hW : MW D cA ad ρ T (nmS σ (nI i2) (nI i) ((4 + (nI ((j + 3) % 12))) - 9) ((nI ((j + 3) % 12)) - 3)) A s s.heap H locs := by rw [nm_21] at hW; exact hW
                                refine lv_goto (tgt := 403) hx hb dX8_next_214 (by decide) ?_
                                exact hret (nmS σ (nI i2) (nI i) ((4 + (nI ((j + 3) % 12))) - 9) ((nI ((j + 3) % 12)) - 3)) _ _ _ _ _ hW rfl (by have hA : nxA β z i = i2 := (if_pos hlt).trans ((if_neg c_6).trans hLa); have hK : nxK β z i = -(nI (j + 1)) := (if_pos hlt).trans ((if_neg c_6).trans (by rw [hLa]; exact hwo)); rw [hR0, hRE, hA, hK, tw_c j hj (Int32.not_lt.mpr c_31) (Int32.not_lt.mpr c_32)]; exact ⟨(nI ((j + 3) % 12)) - 3, rfl, vok_b hj (Int32.not_lt.mpr c_31)⟩) dX8_next_403
                              ·
                                first | exact absurd c_31 c_34 | exact absurd c_34 c_31
                            ·
                              exact absurd c_33 (tw_d j hj)
                          ·
                            refine lv_iconst (v := 2) hx hb dX8_next_175 (by decide) ?_
                            refine lv_goto (tgt := 195) hx hb dX8_next_176 (by decide) ?_
                            refine mw_σ F hW 20 (by decide) fl_RX8_102 rfl (ty := .int) rfl rfl rfl rfl dX8_next_195 (fun H locs hW => ?_)
                            have hW : MW D cA ad ρ T (nmS σ (nI i2) (nI i) 2 0) A s s.heap H locs := by rw [nm_20] at hW; exact hW
                            refine lv_aload_n hx hb dX8_next_198 rfl (lv_at hl 1 rfl) ?_
                            refine lv_iload_n hx hb dX8_next_199 rfl (lv_at hl 0 rfl) ?_
                            refine lv_iconst (v := 3) hx hb dX8_next_200 (by decide) ?_
                            refine lv_icmp_ge (tgt := 208) hx hb dX8_next_201 (by decide) (fun c_35 => ?_) (fun c_35 => ?_)
                            ·
                              refine lv_iload_n hx hb dX8_next_208 rfl (lv_at hl 0 rfl) ?_
                              refine lv_iconst (v := 3) hx hb dX8_next_209 (by decide) ?_
                              refine lv_isub hx hb dX8_next_210 ?_
                              refine mw_σ F hW 21 (by decide) fl_RX8_105 rfl (ty := .int) rfl rfl rfl rfl dX8_next_211 (fun H locs hW => ?_)
                              have hW : MW D cA ad ρ T (nmS σ (nI i2) (nI i) 2 ((nI ((j + 3) % 12)) - 3)) A s s.heap H locs := by rw [nm_21] at hW; exact hW
                              refine lv_goto (tgt := 403) hx hb dX8_next_214 (by decide) ?_
                              exact hret (nmS σ (nI i2) (nI i) 2 ((nI ((j + 3) % 12)) - 3)) _ _ _ _ _ hW rfl (by have hA : nxA β z i = i2 := (if_pos hlt).trans ((if_neg c_6).trans hLa); have hK : nxK β z i = -(nI (j + 1)) := (if_pos hlt).trans ((if_neg c_6).trans (by rw [hLa]; exact hwo)); rw [hR0, hRE, hA, hK, tw_b j hj (Int32.not_lt.mpr c_31) (Int32.not_le.mp c_32)]; exact ⟨(nI ((j + 3) % 12)) - 3, rfl, vok_b hj (Int32.not_lt.mpr c_31)⟩) dX8_next_403
                            ·
                              first | exact absurd c_31 c_35 | exact absurd c_35 c_31
                        ·
                          refine lv_iconst (v := 3) hx hb dX8_next_165 (by decide) ?_
                          refine lv_goto (tgt := 195) hx hb dX8_next_166 (by decide) ?_
                          refine mw_σ F hW 20 (by decide) fl_RX8_102 rfl (ty := .int) rfl rfl rfl rfl dX8_next_195 (fun H locs hW => ?_)
                          have hW : MW D cA ad ρ T (nmS σ (nI i2) (nI i) 3 0) A s s.heap H locs := by rw [nm_20] at hW; exact hW
                          refine lv_aload_n hx hb dX8_next_198 rfl (lv_at hl 1 rfl) ?_
                          refine lv_iload_n hx hb dX8_next_199 rfl (lv_at hl 0 rfl) ?_
                          refine lv_iconst (v := 3) hx hb dX8_next_200 (by decide) ?_
                          refine lv_icmp_ge (tgt := 208) hx hb dX8_next_201 (by decide) (fun c_36 => ?_) (fun c_36 => ?_)
                          ·
                            first | exact absurd c_31 c_36 | exact absurd c_36 c_31
                          ·
                            refine lv_iload_n hx hb dX8_next_204 rfl (lv_at hl 0 rfl) ?_
                            refine lv_goto (tgt := 211) hx hb dX8_next_205 (by decide) ?_
                            refine mw_σ F hW 21 (by decide) fl_RX8_105 rfl (ty := .int) rfl rfl rfl rfl dX8_next_211 (fun H locs hW => ?_)
                            have hW : MW D cA ad ρ T (nmS σ (nI i2) (nI i) 3 (nI ((j + 3) % 12))) A s s.heap H locs := by rw [nm_21] at hW; exact hW
                            refine lv_goto (tgt := 403) hx hb dX8_next_214 (by decide) ?_
                            exact hret (nmS σ (nI i2) (nI i) 3 (nI ((j + 3) % 12))) _ _ _ _ _ hW rfl (by have hA : nxA β z i = i2 := (if_pos hlt).trans ((if_neg c_6).trans hLa); have hK : nxK β z i = -(nI (j + 1)) := (if_pos hlt).trans ((if_neg c_6).trans (by rw [hLa]; exact hwo)); rw [hR0, hRE, hA, hK, tw_a j hj (Int32.not_le.mp c_31)]; exact ⟨nI ((j + 3) % 12), rfl, vok_a hj (Int32.not_le.mp c_31)⟩) dX8_next_403
                      ·
                        refine lv_istore_n (lv' := [(2, .int 12), (0, .ref (ad 0))]) hx hb dX8_next_158 rfl hl (by decide) rfl (fun ls hl => ?_)
                        refine lv_aload_n hx hb dX8_next_159 rfl (lv_at hl 1 rfl) ?_
                        refine lv_iload_n hx hb dX8_next_160 rfl (lv_at hl 0 rfl) ?_
                        refine lv_iconst (v := 3) hx hb dX8_next_161 (by decide) ?_
                        refine lv_icmp_ge (tgt := 169) hx hb dX8_next_162 (by decide) (fun c_37 => ?_) (fun c_37 => ?_)
                        ·
                          refine lv_iload_n hx hb dX8_next_169 rfl (lv_at hl 0 rfl) ?_
                          refine lv_bipush (v := 9) hx hb dX8_next_170 (by decide) ?_
                          refine lv_icmp_ge (tgt := 179) hx hb dX8_next_172 (by decide) (fun c_38 => ?_) (fun c_38 => ?_)
                          ·
                            refine lv_iload_n hx hb dX8_next_179 rfl (lv_at hl 0 rfl) ?_
                            refine lv_bipush (v := 12) hx hb dX8_next_180 (by decide) ?_
                            refine lv_icmp_ne (tgt := 189) hx hb dX8_next_182 (by decide) (fun c_39 => ?_) (fun c_39 => ?_)
                            ·
                              exact absurd c_39 (by decide)
                            ·
                              refine lv_iconst (v := (-1)) hx hb dX8_next_185 (by decide) ?_
                              refine lv_goto (tgt := 195) hx hb dX8_next_186 (by decide) ?_
                              refine mw_σ F hW 20 (by decide) fl_RX8_102 rfl (ty := .int) rfl rfl rfl rfl dX8_next_195 (fun H locs hW => ?_)
                              have hW : MW D cA ad ρ T (nmS σ (nI i2) (nI i) (-1) 0) A s s.heap H locs := by rw [nm_20] at hW; exact hW
                              refine lv_aload_n hx hb dX8_next_198 rfl (lv_at hl 1 rfl) ?_
                              refine lv_iload_n hx hb dX8_next_199 rfl (lv_at hl 0 rfl) ?_
                              refine lv_iconst (v := 3) hx hb dX8_next_200 (by decide) ?_
                              refine lv_icmp_ge (tgt := 208) hx hb dX8_next_201 (by decide) (fun c_40 => ?_) (fun c_40 => ?_)
                              ·
                                refine lv_iload_n hx hb dX8_next_208 rfl (lv_at hl 0 rfl) ?_
                                refine lv_iconst (v := 3) hx hb dX8_next_209 (by decide) ?_
                                refine lv_isub hx hb dX8_next_210 ?_
                                refine mw_σ F hW 21 (by decide) fl_RX8_105 rfl (ty := .int) rfl rfl rfl rfl dX8_next_211 (fun H locs hW => ?_)
                                have hW : MW D cA ad ρ T (nmS σ (nI i2) (nI i) (-1) (12 - 3)) A s s.heap H locs := by rw [nm_21] at hW; exact hW
                                refine lv_goto (tgt := 403) hx hb dX8_next_214 (by decide) ?_
                                exact hret (nmS σ (nI i2) (nI i) (-1) (12 - 3)) _ _ _ _ _ hW rfl (by have hA : nxA β z i = i2 := (if_pos hlt).trans ((if_neg c_6).trans hLa); have hK : nxK β z i = 1 := (if_pos hlt).trans ((if_neg c_6).trans (by rw [hLa]; exact hwo)); rw [hR0, hRE, hA, hK, tk_1]; exact ⟨12 - 3, rfl, vok_of (Or.inr (Or.inl rfl))⟩) dX8_next_403
                              ·
                                exact absurd c_40 (by decide)
                          ·
                            exact absurd c_38 (by decide)
                        ·
                          exact absurd c_37 (by decide)
                    ·
                      obtain ⟨f2', rfl⟩ : ∃ x, f2 = x + 1 := ⟨f2 - 1, by omega⟩; have hlt2 : i2 < z := mi_nle c_30 (by omega) (by omega)
                      refine lv_aload_n hx hb dX8_next_114 rfl (lv_at hl 0 rfl) ?_
                      refine mr_f F hW 5 (by decide) rfl fl_RX8_19 dX8_next_115 ?_
                      refine lv_aload_n hx hb dX8_next_118 rfl (lv_at hl 0 rfl) ?_
                      refine mr_f F hW 18 (by decide) rfl fl_RX8_96 dX8_next_119 ?_
                      refine lv_as (z := nI i2) rfl ?_
                      refine mr_tape F hW (vp_in_nI (by omega) (by decide)) dX8_next_122 ?_
                      refine lv_as (z := (nmS σ (nI i2) (nI i) 0 0) 4 i2) (by rw [nI_clamp (show i2 < 2 ^ 31 by omega)]) ?_
                      refine lv_as (z := β i2) ((hβ _ (by omega)).symm) ?_
                      refine lv_bipush (v := 97) hx hb dX8_next_123 (by decide) ?_
                      refine lv_bipush (v := 122) hx hb dX8_next_125 (by decide) ?_
                      refine gw_callP (As := [.int (β i2), .int 97, .int 122]) (rest := []) F hl.1 (kX8_in) pd_yX8_in ml_RX8_72 st_yX8_in ini_RX8 cd_yX8_in ⟨rfl, rfl⟩ ⟨Nat.le_of_ble_eq_true rfl, Nat.le_of_ble_eq_true rfl⟩ rfl rfl (Nat.le_of_ble_eq_true rfl) ⟨Nat.zero_le _, Nat.zero_le _⟩ dX8_next_127 ?_
                      refine lv_as (z := inP (β i2) 97 122) rfl ?_
                      refine lv_as (z := letS (β i2)) (rfl) ?_
                      refine lv_if_eq (tgt := 146) hx hb dX8_next_130 (by decide) (fun c_41 => ?_) (fun c_41 => ?_)
                      ·
                        have hRE2 : RES2 = i2 := by rw [← hRR2]; exact (if_pos hlt2).trans (if_pos c_41)
                        refine lv_aload_n hx hb dX8_next_146 rfl (lv_at hl 0 rfl) ?_
                        refine lv_aload_n hx hb dX8_next_147 rfl (lv_at hl 0 rfl) ?_
                        refine mr_f F hW 19 (by decide) rfl fl_RX8_99 dX8_next_148 ?_
                        refine lv_as (z := nI i) rfl ?_
                        refine lv_aload_n hx hb dX8_next_151 rfl (lv_at hl 0 rfl) ?_
                        refine mr_f F hW 18 (by decide) rfl fl_RX8_96 dX8_next_152 ?_
                        refine lv_as (z := nI i2) rfl ?_
                        have hLa : letG β z 161 i = i2 := hR2.trans hRE2
                        refine gw_callVi (As := [.int (nI i), .int (nI i2)]) (rest := []) F hl.1 hW (fun _ _ _ => trivial) gw_T_E (by decide) (rfl : ment ad cA _ _ _ 0 = _) rfl (kX8_wordFrom (β := β) (z := z) (t := i) (a := i2) hz1 g0 g1 (fun q h h3 => letG_all β z 161 i q h (by rw [hLa]; exact h3)) hβ hwd) pd_yX8_wordFrom ml_RX8_108 im_yX8_wordFrom se_yX8_wordFrom ini_RX8 cd_yX8_wordFrom ⟨rfl, rfl⟩ ⟨Nat.le_of_ble_eq_true rfl, Nat.le_of_ble_eq_true rfl⟩ rfl rfl (Nat.le_of_ble_eq_true rfl) ⟨Nat.zero_le _, Nat.zero_le _⟩ dX8_next_155 (fun r u H locs hp hW _ _ => ?_)
                        rcases hp with ⟨j, hj, hwo, rfl⟩ | ⟨hwo, rfl⟩
                        ·
                          refine lv_istore_n (lv' := [(2, .int (nI ((j + 3) % 12))), (0, .ref (ad 0))]) hx hb dX8_next_158 rfl hl (by decide) rfl (fun ls hl => ?_)
                          refine lv_aload_n hx hb dX8_next_159 rfl (lv_at hl 1 rfl) ?_
                          refine lv_iload_n hx hb dX8_next_160 rfl (lv_at hl 0 rfl) ?_
                          refine lv_iconst (v := 3) hx hb dX8_next_161 (by decide) ?_
                          refine lv_icmp_ge (tgt := 169) hx hb dX8_next_162 (by decide) (fun c_42 => ?_) (fun c_42 => ?_)
                          ·
                            refine lv_iload_n hx hb dX8_next_169 rfl (lv_at hl 0 rfl) ?_
                            refine lv_bipush (v := 9) hx hb dX8_next_170 (by decide) ?_
                            refine lv_icmp_ge (tgt := 179) hx hb dX8_next_172 (by decide) (fun c_43 => ?_) (fun c_43 => ?_)
                            ·
                              refine lv_iload_n hx hb dX8_next_179 rfl (lv_at hl 0 rfl) ?_
                              refine lv_bipush (v := 12) hx hb dX8_next_180 (by decide) ?_
                              refine lv_icmp_ne (tgt := 189) hx hb dX8_next_182 (by decide) (fun c_44 => ?_) (fun c_44 => ?_)
                              ·
                                refine lv_iconst (v := 4) hx hb dX8_next_189 (by decide) ?_
                                refine lv_iload_n hx hb dX8_next_190 rfl (lv_at hl 0 rfl) ?_
                                refine lv_iadd hx hb dX8_next_191 ?_
                                refine lv_bipush (v := 9) hx hb dX8_next_192 (by decide) ?_
                                refine lv_isub hx hb dX8_next_194 ?_
                                refine mw_σ F hW 20 (by decide) fl_RX8_102 rfl (ty := .int) rfl rfl rfl rfl dX8_next_195 (fun H locs hW => ?_)
                                have hW : MW D cA ad ρ T (nmS σ (nI i2) (nI i) ((4 + (nI ((j + 3) % 12))) - 9) 0) A s s.heap H locs := by rw [nm_20] at hW; exact hW
                                refine lv_aload_n hx hb dX8_next_198 rfl (lv_at hl 1 rfl) ?_
                                refine lv_iload_n hx hb dX8_next_199 rfl (lv_at hl 0 rfl) ?_
                                refine lv_iconst (v := 3) hx hb dX8_next_200 (by decide) ?_
                                refine lv_icmp_ge (tgt := 208) hx hb dX8_next_201 (by decide) (fun c_45 => ?_) (fun c_45 => ?_)
                                ·
                                  refine lv_iload_n hx hb dX8_next_208 rfl (lv_at hl 0 rfl) ?_
                                  refine lv_iconst (v := 3) hx hb dX8_next_209 (by decide) ?_
                                  refine lv_isub hx hb dX8_next_210 ?_
                                  refine mw_σ F hW 21 (by decide) fl_RX8_105 rfl (ty := .int) rfl rfl rfl rfl dX8_next_211 (fun H locs hW => ?_)
                                  have hW : MW D cA ad ρ T (nmS σ (nI i2) (nI i) ((4 + (nI ((j + 3) % 12))) - 9) ((nI ((j + 3) % 12)) - 3)) A s s.heap H locs := by rw [nm_21] at hW; exact hW
                                  refine lv_goto (tgt := 403) hx hb dX8_next_214 (by decide) ?_
                                  exact hret (nmS σ (nI i2) (nI i) ((4 + (nI ((j + 3) % 12))) - 9) ((nI ((j + 3) % 12)) - 3)) _ _ _ _ _ hW rfl (by have hA : nxA β z i = i2 := (if_pos hlt).trans ((if_neg c_6).trans hLa); have hK : nxK β z i = -(nI (j + 1)) := (if_pos hlt).trans ((if_neg c_6).trans (by rw [hLa]; exact hwo)); rw [hR0, hRE, hA, hK, tw_c j hj (Int32.not_lt.mpr c_42) (Int32.not_lt.mpr c_43)]; exact ⟨(nI ((j + 3) % 12)) - 3, rfl, vok_b hj (Int32.not_lt.mpr c_42)⟩) dX8_next_403
                                ·
                                  first | exact absurd c_42 c_45 | exact absurd c_45 c_42
                              ·
                                exact absurd c_44 (tw_d j hj)
                            ·
                              refine lv_iconst (v := 2) hx hb dX8_next_175 (by decide) ?_
                              refine lv_goto (tgt := 195) hx hb dX8_next_176 (by decide) ?_
                              refine mw_σ F hW 20 (by decide) fl_RX8_102 rfl (ty := .int) rfl rfl rfl rfl dX8_next_195 (fun H locs hW => ?_)
                              have hW : MW D cA ad ρ T (nmS σ (nI i2) (nI i) 2 0) A s s.heap H locs := by rw [nm_20] at hW; exact hW
                              refine lv_aload_n hx hb dX8_next_198 rfl (lv_at hl 1 rfl) ?_
                              refine lv_iload_n hx hb dX8_next_199 rfl (lv_at hl 0 rfl) ?_
                              refine lv_iconst (v := 3) hx hb dX8_next_200 (by decide) ?_
                              refine lv_icmp_ge (tgt := 208) hx hb dX8_next_201 (by decide) (fun c_46 => ?_) (fun c_46 => ?_)
                              ·
                                refine lv_iload_n hx hb dX8_next_208 rfl (lv_at hl 0 rfl) ?_
                                refine lv_iconst (v := 3) hx hb dX8_next_209 (by decide) ?_
                                refine lv_isub hx hb dX8_next_210 ?_
                                refine mw_σ F hW 21 (by decide) fl_RX8_105 rfl (ty := .int) rfl rfl rfl rfl dX8_next_211 (fun H locs hW => ?_)
                                have hW : MW D cA ad ρ T (nmS σ (nI i2) (nI i) 2 ((nI ((j + 3) % 12)) - 3)) A s s.heap H locs := by rw [nm_21] at hW; exact hW
                                refine lv_goto (tgt := 403) hx hb dX8_next_214 (by decide) ?_
                                exact hret (nmS σ (nI i2) (nI i) 2 ((nI ((j + 3) % 12)) - 3)) _ _ _ _ _ hW rfl (by have hA : nxA β z i = i2 := (if_pos hlt).trans ((if_neg c_6).trans hLa); have hK : nxK β z i = -(nI (j + 1)) := (if_pos hlt).trans ((if_neg c_6).trans (by rw [hLa]; exact hwo)); rw [hR0, hRE, hA, hK, tw_b j hj (Int32.not_lt.mpr c_42) (Int32.not_le.mp c_43)]; exact ⟨(nI ((j + 3) % 12)) - 3, rfl, vok_b hj (Int32.not_lt.mpr c_42)⟩) dX8_next_403
                              ·
                                first | exact absurd c_42 c_46 | exact absurd c_46 c_42
                          ·
                            refine lv_iconst (v := 3) hx hb dX8_next_165 (by decide) ?_
                            refine lv_goto (tgt := 195) hx hb dX8_next_166 (by decide) ?_
                            refine mw_σ F hW 20 (by decide) fl_RX8_102 rfl (ty := .int) rfl rfl rfl rfl dX8_next_195 (fun H locs hW => ?_)
                            have hW : MW D cA ad ρ T (nmS σ (nI i2) (nI i) 3 0) A s s.heap H locs := by rw [nm_20] at hW; exact hW
                            refine lv_aload_n hx hb dX8_next_198 rfl (lv_at hl 1 rfl) ?_
                            refine lv_iload_n hx hb dX8_next_199 rfl (lv_at hl 0 rfl) ?_
                            refine lv_iconst (v := 3) hx hb dX8_next_200 (by decide) ?_
                            refine lv_icmp_ge (tgt := 208) hx hb dX8_next_201 (by decide) (fun c_47 => ?_) (fun c_47 => ?_)
                            ·
                              first | exact absurd c_42 c_47 | exact absurd c_47 c_42
                            ·
                              refine lv_iload_n hx hb dX8_next_204 rfl (lv_at hl 0 rfl) ?_
                              refine lv_goto (tgt := 211) hx hb dX8_next_205 (by decide) ?_
                              refine mw_σ F hW 21 (by decide) fl_RX8_105 rfl (ty := .int) rfl rfl rfl rfl dX8_next_211 (fun H locs hW => ?_)
                              have hW : MW D cA ad ρ T (nmS σ (nI i2) (nI i) 3 (nI ((j + 3) % 12))) A s s.heap H locs := by rw [nm_21] at hW; exact hW
                              refine lv_goto (tgt := 403) hx hb dX8_next_214 (by decide) ?_
                              exact hret (nmS σ (nI i2) (nI i) 3 (nI ((j + 3) % 12))) _ _ _ _ _ hW rfl (by have hA : nxA β z i = i2 := (if_pos hlt).trans ((if_neg c_6).trans hLa); have hK : nxK β z i = -(nI (j + 1)) := (if_pos hlt).trans ((if_neg c_6).trans (by rw [hLa]; exact hwo)); rw [hR0, hRE, hA, hK, tw_a j hj (Int32.not_le.mp c_42)]; exact ⟨nI ((j + 3) % 12), rfl, vok_a hj (Int32.not_le.mp c_42)⟩) dX8_next_403
                        ·
                          refine lv_istore_n (lv' := [(2, .int 12), (0, .ref (ad 0))]) hx hb dX8_next_158 rfl hl (by decide) rfl (fun ls hl => ?_)
                          refine lv_aload_n hx hb dX8_next_159 rfl (lv_at hl 1 rfl) ?_
                          refine lv_iload_n hx hb dX8_next_160 rfl (lv_at hl 0 rfl) ?_
                          refine lv_iconst (v := 3) hx hb dX8_next_161 (by decide) ?_
                          refine lv_icmp_ge (tgt := 169) hx hb dX8_next_162 (by decide) (fun c_48 => ?_) (fun c_48 => ?_)
                          ·
                            refine lv_iload_n hx hb dX8_next_169 rfl (lv_at hl 0 rfl) ?_
                            refine lv_bipush (v := 9) hx hb dX8_next_170 (by decide) ?_
                            refine lv_icmp_ge (tgt := 179) hx hb dX8_next_172 (by decide) (fun c_49 => ?_) (fun c_49 => ?_)
                            ·
                              refine lv_iload_n hx hb dX8_next_179 rfl (lv_at hl 0 rfl) ?_
                              refine lv_bipush (v := 12) hx hb dX8_next_180 (by decide) ?_
                              refine lv_icmp_ne (tgt := 189) hx hb dX8_next_182 (by decide) (fun c_50 => ?_) (fun c_50 => ?_)
                              ·
                                exact absurd c_50 (by decide)
                              ·
                                refine lv_iconst (v := (-1)) hx hb dX8_next_185 (by decide) ?_
                                refine lv_goto (tgt := 195) hx hb dX8_next_186 (by decide) ?_
                                refine mw_σ F hW 20 (by decide) fl_RX8_102 rfl (ty := .int) rfl rfl rfl rfl dX8_next_195 (fun H locs hW => ?_)
                                have hW : MW D cA ad ρ T (nmS σ (nI i2) (nI i) (-1) 0) A s s.heap H locs := by rw [nm_20] at hW; exact hW
                                refine lv_aload_n hx hb dX8_next_198 rfl (lv_at hl 1 rfl) ?_
                                refine lv_iload_n hx hb dX8_next_199 rfl (lv_at hl 0 rfl) ?_
                                refine lv_iconst (v := 3) hx hb dX8_next_200 (by decide) ?_
                                refine lv_icmp_ge (tgt := 208) hx hb dX8_next_201 (by decide) (fun c_51 => ?_) (fun c_51 => ?_)
                                ·
                                  refine lv_iload_n hx hb dX8_next_208 rfl (lv_at hl 0 rfl) ?_
                                  refine lv_iconst (v := 3) hx hb dX8_next_209 (by decide) ?_
                                  refine lv_isub hx hb dX8_next_210 ?_
                                  refine mw_σ F hW 21 (by decide) fl_RX8_105 rfl (ty := .int) rfl rfl rfl rfl dX8_next_211 (fun H locs hW => ?_)
                                  have hW : MW D cA ad ρ T (nmS σ (nI i2) (nI i) (-1) (12 - 3)) A s s.heap H locs := by rw [nm_21] at hW; exact hW
                                  refine lv_goto (tgt := 403) hx hb dX8_next_214 (by decide) ?_
                                  exact hret (nmS σ (nI i2) (nI i) (-1) (12 - 3)) _ _ _ _ _ hW rfl (by have hA : nxA β z i = i2 := (if_pos hlt).trans ((if_neg c_6).trans hLa); have hK : nxK β z i = 1 := (if_pos hlt).trans ((if_neg c_6).trans (by rw [hLa]; exact hwo)); rw [hR0, hRE, hA, hK, tk_1]; exact ⟨12 - 3, rfl, vok_of (Or.inr (Or.inl rfl))⟩) dX8_next_403
                                ·
                                  exact absurd c_51 (by decide)
                            ·
                              exact absurd c_49 (by decide)
                          ·
                            exact absurd c_48 (by decide)
                      ·
                        refine lv_aload_n hx hb dX8_next_133 rfl (lv_at hl 0 rfl) ?_
                        refine lv_dup hx hb dX8_next_134 rfl ?_
                        refine mr_f F hW 18 (by decide) rfl fl_RX8_96 dX8_next_135 ?_
                        refine lv_as (z := nI i2) rfl ?_
                        refine lv_iconst (v := 1) hx hb dX8_next_138 (by decide) ?_
                        refine lv_iadd hx hb dX8_next_139 ?_
                        refine lv_as (z := nI (i2 + 1)) (nI_1 _) ?_
                        refine mw_σ F hW 18 (by decide) fl_RX8_96 rfl (ty := .int) rfl rfl rfl rfl dX8_next_140 (fun H locs hW => ?_)
                        have hW : MW D cA ad ρ T (nmS σ (nI (i2 + 1)) (nI i) 0 0) A s s.heap H locs := by rw [nm_18] at hW; exact hW
                        refine lv_goto (tgt := 103) hx hb dX8_next_143 (by decide) ?_
                        exact ih103 (i2 + 1) f2' (by omega) (by omega) (by omega) (by omega) (by rw [← hRR2]; exact ((if_pos hlt2).trans (if_neg c_41)).symm) _ _ _ hW (lv_sub hl [0] rfl)
                exact L103 (z + 1) i 161 (Nat.le_refl _) (h1) (by omega) (by omega) (hR2) _ _ _ hW (lv_sub hl [1] rfl)
            ·
              exact absurd (nI_i (by omega) (by omega) c_5) (by omega)
          ·
            refine lv_aload_n hx hb dX8_next_39 rfl (lv_at hl 0 rfl) ?_
            refine lv_dup hx hb dX8_next_40 rfl ?_
            refine mr_f F hW 18 (by decide) rfl fl_RX8_96 dX8_next_41 ?_
            refine lv_as (z := nI i) rfl ?_
            refine lv_iconst (v := 1) hx hb dX8_next_44 (by decide) ?_
            refine lv_iadd hx hb dX8_next_45 ?_
            refine lv_as (z := nI (i + 1)) (nI_1 _) ?_
            refine mw_σ F hW 18 (by decide) fl_RX8_96 rfl (ty := .int) rfl rfl rfl rfl dX8_next_46 (fun H locs hW => ?_)
            have hW : MW D cA ad ρ T (nmS σ (nI (i + 1)) (σ 0 19) (σ 0 20) (σ 0 21)) A s s.heap H locs := by rw [nm_18] at hW; exact hW
            refine lv_goto (tgt := 0) hx hb dX8_next_49 (by decide) ?_
            exact ih0 (i + 1) f' (by omega) (by omega) (by omega) (by omega) (by rw [← hRR]; exact ((if_pos hlt).trans (if_pos (Or.inr c_4))).symm) _ _ _ hW (lv_sub hl [0] rfl)
  exact L0 (z + 1) a 161 (Nat.le_refl _) (haz) (by omega) (by omega) (hR0) _ _ _ hW (lv_sub hl [0] rfl)
