/-! ===== text() ===== -/
def va_same (e e' : va_E) : Prop := ∀ (D : va_G) (cl : List vw_C) (a : Nat) (H : Heap), va_at D cl (a, e) H → va_at D cl (a, e') H
theorem va_same.rf {e e' : va_E} (h : e = e') : va_same e e' := fun _ _ _ _ q => h ▸ q
theorem va_same.refs {cA : ClassId} {n : Nat} {f g : Nat → Option Nat} (h : ∀ i, i < n → f i = g i) : va_same (va_refs cA n f) (va_refs cA n g) := by
  intro D cl a H q
  have e : vp_cell cA (n, (.inr (.inr (.inr (.inr f))))) = vp_cell cA (n, (.inr (.inr (.inr (.inr g))))) := by
    rw [vp_cell_q, vp_cell_q]
    unfold arrV
    congr 2
    funext j
    show va_rf (f j.val) = va_rf (g j.val)
    rw [h j.val j.isLt]
  show H[a]? = some (vp_cell cA (n, (.inr (.inr (.inr (.inr g))))))
  rw [← e]
  exact q
/-- a list world said as another one, by places -/
theorem lw_perm {D : va_G} {tysL : List (ClassId × FieldType)} {ws : va_W} {A : Nat → Prop} {s : State} {H0 H : Heap} {locs : List Loc} {N : Nat} {ad : Nat → Nat} {f : Nat → va_E} (hW : LWd D tysL ws A s H0 H locs) (π : Nat → Nat) (hπ : ∀ i j, i < N → j < N → π i = π j → i = j) (h : ∀ k, k < N → ∃ e, ws[π k]? = some (ad k, e) ∧ va_same e (f k)) : GW D tysL N ad f A s H0 H locs := by
  refine ⟨fun k q hk => ?_, hW.2.1, ⟨fun i j x z hi hj he => ?_, fun k q hk => ?_⟩, hW.2.2.2⟩
  · obtain ⟨hl, rfl⟩ := gw_inv hk
    obtain ⟨e, h1, h2⟩ := h k hl
    exact h2 _ _ _ _ (hW.1 _ _ h1)
  · obtain ⟨li, rfl⟩ := gw_inv hi
    obtain ⟨lj, rfl⟩ := gw_inv hj
    obtain ⟨e1, a1, _⟩ := h i li
    obtain ⟨e2, a2, _⟩ := h j lj
    exact hπ i j li lj (hW.2.2.1.1 _ _ _ _ a1 a2 he)
  · obtain ⟨hl, rfl⟩ := gw_inv hk
    obtain ⟨e, h1, _⟩ := h k hl
    show A (ad k)
    exact hW.2.2.1.2 (π k) (ad k, e) h1
def grA (ad : Nat → Nat) (n q2 q1 q3 lw : Nat) : Nat → Nat := fun o => if o = 42 + 3 * n then q2 else if o = 42 + 3 * n + 1 then q1 else if o = 42 + 3 * n + 2 then q3 else if o = 42 + 3 * (n + 1) then ad (42 + 3 * lw) else ad o
theorem grA_lo {ad : Nat → Nat} {n q2 q1 q3 lw o : Nat} (h : o < 42 + 3 * n) : grA ad n q2 q1 q3 lw o = ad o := by
  unfold grA
  rw [if_neg (by omega), if_neg (by omega), if_neg (by omega), if_neg (by omega)]
def grT (n : Nat) (TT : Nat → Nat → Nat → Int32) : Nat → Nat → Nat → Int32 := if lawN (TT 1) < n then TT else va_up TT 1 (upT (TT 1) 6 3 (nI (n + 1)))
def grτ (n : Nat) (τ : Nat → Nat → Nat → Int32) (g w5 : Nat → Int32) (len : Nat) : Nat → Nat → Nat → Int32 := va_up τ n (fun row => if row = 0 then g else if row = 1 then w5 else upd (upd (fun _ => 0) 0 (nI n)) 1 (nI len))
theorem grT_ne {n b : Nat} {TT : Nat → Nat → Nat → Int32} (h : b ≠ 1) : grT n TT b = TT b := by
  unfold grT
  split
  · rfl
  · exact va_up_ne _ _ h
theorem grτ_lo {n t : Nat} {τ : Nat → Nat → Nat → Int32} {g w5 : Nat → Int32} {len : Nat} (h : t ≠ n) : grτ n τ g w5 len t = τ t := va_up_ne _ _ h
theorem grT_q {n b q : Nat} {TT : Nat → Nat → Nat → Int32} (h : q ≠ 6) : grT n TT b q = TT b q := by
  unfold grT
  split
  · rfl
  · by_cases hb : b = 1
    · subst hb; rw [va_up_self]; exact va_up_ne _ _ h
    · rw [va_up_ne _ _ hb]
theorem grT_6 {n b k : Nat} {TT : Nat → Nat → Nat → Int32} (h : k ≠ 3) : grT n TT b 6 k = TT b 6 k := by
  unfold grT
  split
  · rfl
  · by_cases hb : b = 1
    · subst hb; rw [va_up_self, upT_self]; exact pk_un h
    · rw [va_up_ne _ _ hb]
/-- the law that a table names stays -/
theorem gr_law {ad : Nat → Nat} {n q2 q1 q3 : Nat} {TT : Nat → Nat → Nat → Int32} (hn : n ≤ 6) (h0 : lawN (TT 0) < n) (h2 : lawN (TT 2) < n) {b : Nat} (hb : b < 3) : grA ad n q2 q1 q3 (lawN (TT 1)) (42 + 3 * (grT n TT b 6 3).toNatClampNeg) = ad (42 + 3 * (TT b 6 3).toNatClampNeg) := by
  by_cases h1 : b = 1
  · subst h1
    unfold grT
    by_cases hl : lawN (TT 1) < n
    · rw [if_pos hl]; unfold lawN at hl; exact grA_lo (by omega)
    · rw [if_neg hl, va_up_self, upT_self, pk_us, nI_clamp (by omega)]
      unfold grA
      rw [if_neg (by omega), if_neg (by omega), if_neg (by omega), if_pos rfl]
      rfl
  · rw [grT_ne h1]
    have : (TT b 6 3).toNatClampNeg < n := by
      unfold lawN at h0 h2
      rcases (show b = 0 ∨ b = 2 by omega) with rfl | rfl
      · exact h0
      · exact h2
    exact grA_lo (by omega)
theorem gr_ent {ad : Nat → Nat} {cs : Nat → ClassId} {n q2 q1 q3 : Nat} {ρ : Nat → Nat → Int32} {TT τ : Nat → Nat → Nat → Int32} {σ : Nat → Nat → Int32} {g w5 : Nat → Int32} {len : Nat} {f0 : Nat → Option Nat} (hn : n < 6) (h0 : lawN (TT 0) < n) (h2 : lawN (TT 2) < n) (hf0 : f0 = va_up (fun i => if i < n then some (ad (42 + 3 * i)) else none) n (some q2)) {k : Nat} (hk : k < 42 + 3 * n) :
    va_same (va_up (va_up (xent ad cs n ρ TT τ σ) 8 (va_refs (cs 2) 6 f0)) 0 (.inr (7, (x0_fs ad (σ 0)).set 4 (.int (nI (n + 1)))) : va_E) k) (xent (grA ad n q2 q1 q3 (lawN (TT 1))) cs (n + 1) ρ (grT n TT) (grτ n τ g w5 len) (upR σ 0 4 (nI (n + 1))) k) := by
  have hA : ∀ o, o < 42 + 3 * n → grA ad n q2 q1 q3 (lawN (TT 1)) o = ad o := fun o ho => grA_lo ho
  have hσ : ∀ o, o ≠ 0 → upR σ 0 4 (nI (n + 1)) o = σ o := fun o ho => va_up_ne _ _ ho
  by_cases k0 : k = 0
  · subst k0
    rw [va_up_self]
    apply va_same.rf
    rw [xe_0, upR_self]
    unfold x0_fs
    simp only [hA 1 (by omega), hA 3 (by omega), hA 6 (by omega), hA 8 (by omega), hA 9 (by omega), hA 17 (by omega), hA 25 (by omega), hA 33 (by omega)]
    rfl
  rw [va_up_ne _ _ k0]
  by_cases k8 : k = 8
  · subst k8
    rw [va_up_self, xe_8, hf0]
    apply va_same.refs
    intro i _
    by_cases hi : i = n
    · subst hi
      rw [va_up_self, if_pos (by omega)]
      unfold grA
      rw [if_pos rfl]
    · rw [va_up_ne _ _ hi]
      by_cases hl : i < n
      · rw [if_pos hl, if_pos (by omega), hA _ (by omega)]
      · rw [if_neg hl, if_neg (by omega)]
  rw [va_up_ne _ _ k8]
  by_cases l9 : k < 9
  · apply va_same.rf
    rcases (show k = 1 ∨ k = 2 ∨ k = 3 ∨ k = 4 ∨ k = 5 ∨ k = 6 ∨ k = 7 by omega) with rfl | rfl | rfl | rfl | rfl | rfl | rfl
    · rw [xe_1, xe_1, hσ 1 (by decide)]; unfold x1_fs; rw [hA 2 (by omega)]
    · rw [xe_2, xe_2, hσ 2 (by decide)]
    · rw [xe_3, xe_3, hσ 3 (by decide)]; unfold x3_fs; rw [hA 1 (by omega), hA 4 (by omega), hA 5 (by omega)]
    · rw [xe_4, xe_4, hσ 4 (by decide)]
    · rw [xe_5, xe_5, hσ 5 (by decide)]
    · rw [xe_6, xe_6]; unfold x6_fs; rw [hA 7 (by omega)]
    · rw [xe_7, xe_7]
  by_cases l33 : k < 33
  · obtain ⟨b, j, hb, hj, rfl⟩ : ∃ b j, b < 3 ∧ j < 8 ∧ k = 9 + 8 * b + j := ⟨(k - 9) / 8, (k - 9) % 8, by omega, by omega, by omega⟩
    by_cases j0 : j = 0
    · subst j0
      apply va_same.rf
      rw [Nat.add_zero, xe_T hb, xe_T hb]
      unfold xt_fs
      rw [hA _ (by omega), grT_6 (by decide), grT_6 (by decide), gr_law (by omega) h0 h2 hb]
    · by_cases j1 : j = 1
      · subst j1
        rw [xe_R hb, xe_R hb]
        apply va_same.refs
        intro i hi
        rw [hA _ (by omega)]
      · obtain ⟨q, rfl⟩ : ∃ q, j = 1 + 1 + q := ⟨j - 2, by omega⟩
        apply va_same.rf
        rw [show 9 + 8 * b + (1 + 1 + q) = 9 + 8 * b + 1 + 1 + q by omega, xe_G hb (by omega), xe_G hb (by omega), grT_q (by omega)]
  by_cases l42 : k < 42
  · by_cases e33 : k = 33
    · subst e33
      rw [xe_33, xe_33]
      apply va_same.refs
      intro i hi
      rw [hA _ (by omega)]
    · by_cases l38 : k < 38
      · obtain ⟨j, hj, rfl⟩ : ∃ j, j < 4 ∧ k = 34 + j := ⟨k - 34, by omega, by omega⟩
        apply va_same.rf
        rw [xe_S hj, xe_S hj, hσ _ (by omega)]
        unfold xs_fs
        rw [hA _ (by omega)]
      · obtain ⟨j, hj, rfl⟩ : ∃ j, j < 4 ∧ k = 34 + j + 4 := ⟨k - 38, by omega, by omega⟩
        apply va_same.rf
        rw [xe_N hj, xe_N hj, hσ _ (by omega)]
  · obtain ⟨t, j, ht, hj, rfl⟩ : ∃ t j, t < n ∧ j < 3 ∧ k = 42 + 3 * t + j := ⟨(k - 42) / 3, (k - 42) % 3, by omega, by omega, by omega⟩
    apply va_same.rf
    rcases (show j = 0 ∨ j = 1 ∨ j = 2 by omega) with rfl | rfl | rfl
    · rw [Nat.add_zero, xe_X, xe_X, grτ_lo (by omega), hA _ (by omega), hA _ (by omega), hA 6 (by omega)]
    · rw [xe_C, xe_C, grτ_lo (by omega)]
    · rw [xe_Z, xe_Z, grτ_lo (by omega)]
/-- the world with a new text -/
theorem grow_world {D : va_G} {A : Nat → Prop} {s : State} {H0 H : Heap} {locs : List Loc} {ad : Nat → Nat} {cs : Nat → ClassId} {n q2 q1 q3 : Nat} {ρ : Nat → Nat → Int32} {TT τ : Nat → Nat → Nat → Int32} {σ : Nat → Nat → Int32} {g : Nat → Int32} {len : Nat} {f0 : Nat → Option Nat} (hn : n < 6) (hlen : len ≤ 160) (h0 : lawN (TT 0) < n) (h2 : lawN (TT 2) < n) (hf0 : f0 = va_up (fun i => if i < n then some (ad (42 + 3 * i)) else none) n (some q2))
    (hW : LWd D (xtys cs) (gw_L (42 + 3 * n) ad (va_up (va_up (xent ad cs n ρ TT τ σ) 8 (va_refs (cs 2) 6 f0)) 0 (.inr (7, (x0_fs ad (σ 0)).set 4 (.int (nI (n + 1)))))) ++ [(q1, .inl (cs 0, len, .inl g)), (q3, .inl (cs 0, 4, .inl (σ 5))), (q2, .inr (6, [.int (nI n), .ref q1, .ref q3, .ref (ad 6)]))]) A s H0 H locs) :
    XW D cs (grA ad n q2 q1 q3 (lawN (TT 1))) (n + 1) ρ (grT n TT) (grτ n τ g (σ 5) len) (upR σ 0 4 (nI (n + 1))) A s H0 H locs := by
  refine lw_perm hW (fun k => if k < 42 + 3 * n then k else if k = 42 + 3 * n then 42 + 3 * n + 2 else k - 1) (fun i j hi hj he => ?_) (fun k hk => ?_)
  · try dsimp only at he
    split at he <;> split at he <;> (try split at he) <;> (try split at he) <;> omega
  · by_cases hl : k < 42 + 3 * n
    · refine ⟨_, ?_, gr_ent hn h0 h2 hf0 hl⟩
      try dsimp only
      rw [if_pos hl, gl_old hl, grA_lo hl]
    · try dsimp only
      rw [if_neg hl]
      have hA6 : grA ad n q2 q1 q3 (lawN (TT 1)) 6 = ad 6 := grA_lo (by omega)
      rcases (show k = 42 + 3 * n ∨ k = 42 + 3 * n + 1 ∨ k = 42 + 3 * n + 2 by omega) with rfl | rfl | rfl
      · refine ⟨.inr (6, [.int (nI n), .ref q1, .ref q3, .ref (ad 6)]), ?_, va_same.rf ?_⟩
        · rw [if_pos rfl, gl_new 2]
          unfold grA
          rw [if_pos rfl]; rfl
        · rw [xe_X, hA6]
          unfold grA grτ
          rw [if_neg (by omega), if_pos rfl, if_neg (by omega), if_neg (by omega), if_pos rfl, va_up_self]
          rfl
      · refine ⟨.inl (cs 0, len, .inl g), ?_, va_same.rf ?_⟩
        · rw [if_neg (by omega), show 42 + 3 * n + 1 - 1 = 42 + 3 * n + 0 by omega, gl_new 0]
          unfold grA
          rw [if_neg (by omega), if_pos rfl]; rfl
        · rw [xe_C]
          unfold grτ
          rw [va_up_self]
          show _ = Sum.inl (cs 0, (nI len).toNatClampNeg, Sum.inl g)
          rw [nI_clamp (by omega)]
      · refine ⟨.inl (cs 0, 4, .inl (σ 5)), ?_, va_same.rf ?_⟩
        · rw [if_neg (by omega), show 42 + 3 * n + 2 - 1 = 42 + 3 * n + 1 by omega, gl_new 1]
          unfold grA
          rw [if_neg (by omega), if_neg (by omega), if_pos rfl]; rfl
        · rw [xe_Z]
          unfold grτ
          rw [va_up_self]; rfl
