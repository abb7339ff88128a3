/-! ===== a text more: the sides stay alike ===== -/
theorem okT_s {n : Nat} {T : Tb} (h : okT n T) : okT (n + 1) T := ⟨h.1, h.2.1, Nat.lt_succ_of_lt h.2.2.1, h.2.2.2.1, h.2.2.2.2⟩
theorem getD_mid (A E R : List Int32) {j : Nat} (hj : j < E.length) : (A ++ (E ++ R)).getD (A.length + j) 0 = E.getD j 0 := by
  rw [List.getD_eq_getElem?_getD, List.getD_eq_getElem?_getD, List.getElem?_append_right (by omega), show A.length + j - A.length = j by omega, List.getElem?_append_left hj]
section TS
variable {β : Nat → Int32} {z : Nat} {m0 : Int32}
abbrev prL (β : Nat → Int32) (z : Nat) (m0 : Int32) (k : Nat) : List Int32 := (thR β z m0 k).2.2.2.2.2
/-- the three parts of a good text -/
theorem th_three (hz : z ≤ 160) (h : fauP β z m0 = -1) : (prL β z m0 3).length ≤ 160 ∧ prL β z m0 0 = [] ∧ ∀ i, i < 3 → ∃ E R, prL β z m0 (i + 1) = prL β z m0 i ++ E ∧ prL β z m0 3 = prL β z m0 i ++ (E ++ R) ∧ (∀ c ∈ E, okC c) ∧ runD E 0 = some 1 := by
  obtain ⟨_, _, hp⟩ := th_parts hz m0 3 (Nat.le_refl _) (fau_good hz h)
  refine ⟨(th_ok (β := β) (z := z) (m0 := m0) 3).2, rfl, ?_⟩
  obtain ⟨_, E0, a0, b0, c0⟩ := hp 0 (by decide)
  obtain ⟨_, E1, a1, b1, c1⟩ := hp 1 (by decide)
  obtain ⟨_, E2, a2, b2, c2⟩ := hp 2 (by decide)
  have a0 : prL β z m0 1 = prL β z m0 0 ++ E0 := a0
  have a1 : prL β z m0 2 = prL β z m0 1 ++ E1 := a1
  have a2 : prL β z m0 3 = prL β z m0 2 ++ E2 := a2
  intro i hi
  rcases (show i = 0 ∨ i = 1 ∨ i = 2 by omega) with rfl | rfl | rfl
  · exact ⟨E0, E1 ++ E2, a0, by rw [a2, a1, a0, List.append_assoc, List.append_assoc], b0, c0⟩
  · exact ⟨E1, E2, a1, by rw [a2, a1, List.append_assoc], b1, c1⟩
  · exact ⟨E2, [], a2, by rw [a2, List.append_nil], b2, c2⟩
theorem pr_le (hz : z ≤ 160) (h : fauP β z m0 = -1) : ∀ i, i < 4 → (prL β z m0 i).length ≤ (prL β z m0 3).length := by
  intro i hi
  obtain ⟨_, _, hp⟩ := th_three hz h
  rcases (show i < 3 ∨ i = 3 by omega) with h3 | rfl
  · obtain ⟨E, R, _, e, _⟩ := hp i h3
    rw [e, List.length_append]; omega
  · exact Nat.le_refl _
/-- X's new text -/
theorem okx_new {n : Nat} {τ τ' : Nat → Nat → Nat → Int32} (hz : z ≤ 160) (h : fauP β z m0 = -1) (hX : okX n τ) (ht : ∀ t, t < n → τ' t = τ t) (hl : τ' n 2 1 = nI (prL β z m0 3).length) (hc : ∀ j, j < (prL β z m0 3).length → τ' n 0 j = (prL β z m0 3).getD j 0) (hs : ∀ k, k < 4 → τ' n 1 k = stR β z m0 k) : okX (n + 1) τ' ∧ (∀ k, k < 4 → stN τ' n k = (prL β z m0 k).length) ∧ ∀ pt, pt < 3 → ∃ E R, xLd τ' n (stN τ' n pt) (stN τ' n (pt + 1)) = E ∧ prL β z m0 3 = prL β z m0 pt ++ (E ++ R) ∧ prL β z m0 (pt + 1) = prL β z m0 pt ++ E ∧ (∀ c ∈ E, okC c) ∧ runD E 0 = some 1 := by
  obtain ⟨h160, h0, hp⟩ := th_three hz h
  have hle := pr_le hz h
  have hst : ∀ k, k < 4 → stN τ' n k = (prL β z m0 k).length := fun k hk => by
    unfold stN
    rw [hs k hk]
    exact nI_clamp (show (prL β z m0 k).length < 2 ^ 31 by have := hle k hk; omega)
  have hparts : ∀ pt, pt < 3 → ∃ E R, xLd τ' n (stN τ' n pt) (stN τ' n (pt + 1)) = E ∧ prL β z m0 3 = prL β z m0 pt ++ (E ++ R) ∧ prL β z m0 (pt + 1) = prL β z m0 pt ++ E ∧ (∀ c ∈ E, okC c) ∧ runD E 0 = some 1 := fun pt hpt => by
    obtain ⟨E, R, e1, e2, e3, e4⟩ := hp pt hpt
    refine ⟨E, R, ?_, e2, e1, e3, e4⟩
    have hlen : stN τ' n (pt + 1) - stN τ' n pt = E.length := by
      rw [hst pt (by omega), hst (pt + 1) (by omega), e1, List.length_append]; omega
    unfold xLd
    rw [hlen]
    apply List.ext_getElem?
    intro j
    by_cases hj : j < E.length
    · rw [List.getElem?_map, List.getElem?_range hj]
      have hb : (prL β z m0 pt).length + j < (prL β z m0 3).length := by rw [e2, List.length_append, List.length_append]; omega
      show some (τ' n 0 (stN τ' n pt + j)) = E[j]?
      rw [hst pt (by omega), hc _ hb, e2, getD_mid _ _ _ hj, List.getD_eq_getElem?_getD, List.getElem?_eq_getElem hj]
      rfl
    · rw [List.getElem?_eq_none (by simp; omega), List.getElem?_eq_none (by omega)]
  refine ⟨fun t htn => ?_, hst, hparts⟩
  by_cases e : t = n
  · subst e
    have hlc : (τ' t 2 1).toNatClampNeg = (prL β z m0 3).length := by rw [hl]; exact nI_clamp (by omega)
    refine ⟨by rw [hlc]; exact h160, fun i hi => ?_, fun i hi => ?_, fun pt hpt => ?_⟩
    · rw [hlc, hst i hi, hs i hi]; exact ⟨rfl, hle i hi⟩
    · obtain ⟨E, R, _, _, e1, _⟩ := hparts i hi
      rw [hst i (by omega), hst (i + 1) (by omega), e1, List.length_append]; omega
    · obtain ⟨E, R, e0, _, _, _, e5⟩ := hparts pt hpt
      rw [e0]; exact e5
  · have htn' : t < n := by omega
    have hx := hX t htn'
    have es : ∀ k, stN τ' t k = stN τ t k := fun k => by unfold stN; rw [ht t htn']
    have ed : ∀ a b, xLd τ' t a b = xLd τ t a b := fun a b => by unfold xLd; rw [ht t htn']
    rw [ht t htn']
    refine ⟨hx.1, fun i hi => by rw [es]; exact hx.2.1 i hi, fun i hi => by rw [es, es]; exact hx.2.2.1 i hi, fun pt hpt => by rw [es, es, ed]; exact hx.2.2.2 pt hpt⟩
theorem xlx_old {n : Nat} {τ τ' : Nat → Nat → Nat → Int32} (ht : ∀ t, t < n → τ' t = τ t) {t pt : Nat} (htn : t < n) : xLx (n + 1) τ' t pt = xLx n τ t pt := by
  unfold xLx
  by_cases hp : pt < 3
  · rw [if_pos ⟨by omega, hp⟩, if_pos ⟨htn, hp⟩]
    unfold xLd stN
    rw [ht t htn]
  · rw [if_neg (fun q => hp q.2), if_neg (fun q => hp q.2)]
/-- the reference's new text -/
theorem okml_new {n : Nat} {τ τ' : Nat → Nat → Nat → Int32} {σM u : Nat → Nat → Int32} (hn : n < 6) (hz : z ≤ 160) (h : fauP β z m0 = -1) (hM : okML n σM (xLx n τ)) (ht : ∀ t, t < n → τ' t = τ t) (h5 : ∀ j, j < 200 * n → u 5 j = σM 5 j) (h6 : ∀ j, j < 4 * n → u 6 j = σM 6 j) (hc : ∀ j, j < (prL β z m0 3).length → u 5 (200 * n + j) = encM ((prL β z m0 3).getD j 0)) (hs : ∀ k, k < 4 → u 6 (4 * n + k) = stR β z m0 k)
    (hst : ∀ k, k < 4 → stN τ' n k = (prL β z m0 k).length) (hparts : ∀ pt, pt < 3 → ∃ E R, xLd τ' n (stN τ' n pt) (stN τ' n (pt + 1)) = E ∧ prL β z m0 3 = prL β z m0 pt ++ (E ++ R) ∧ prL β z m0 (pt + 1) = prL β z m0 pt ++ E ∧ (∀ c ∈ E, okC c) ∧ runD E 0 = some 1) : okML (n + 1) u (xLx (n + 1) τ') := by
  have hO := okml_eq hM h5 h6
  obtain ⟨h160, _, _⟩ := th_three hz h
  have hle := pr_le hz h
  refine ⟨by omega, fun t htn => ?_⟩
  by_cases e : t = n
  · subst e
    have hm : ∀ k, k < 4 → mst u t k = (prL β z m0 k).length := fun k hk => by
      unfold mst
      rw [hs k hk]
      exact nI_clamp (show (prL β z m0 k).length < 2 ^ 31 by have := hle k hk; omega)
    refine ⟨fun k hk => ?_, fun k hk => ?_, fun pt hpt => ?_⟩
    · rw [hm k hk, hs k hk]; exact ⟨rfl, by have := hle k hk; omega⟩
    · obtain ⟨E, R, _, _, e1, _⟩ := hparts k hk
      rw [hm k (by omega), hm (k + 1) (by omega), e1, List.length_append]; omega
    · obtain ⟨E, R, e0, e2, e1, e3, e4⟩ := hparts pt hpt
      have hx : xLx (t + 1) τ' t pt = E := by
        unfold xLx
        rw [if_pos ⟨by omega, hpt⟩, e0]
      rw [hx, hm pt (by omega), hm (pt + 1) (by omega)]
      refine ⟨by rw [e1, List.length_append]; omega, fun j hj => ?_, e4, e3⟩
      have hb : (prL β z m0 pt).length + j < (prL β z m0 3).length := by rw [e2, List.length_append, List.length_append]; omega
      rw [hc _ hb, e2, getD_mid _ _ _ hj]
  · have htn' : t < n := by omega
    obtain ⟨a, b, c⟩ := hO.2 t htn'
    exact ⟨a, b, fun pt hpt => by rw [xlx_old ht htn']; exact c pt hpt⟩
end TS
section TQ
variable {n z : Nat} {TT τ : Nat → Nat → Nat → Int32} {σ σM : Nat → Nat → Int32} {T : Tb} {ad : Nat → Nat}
theorem sim_X {r r2 : Int32} {u : TxU} {v : Nat → Nat → Int32} (h : SIM n z (TT 0) (TT 2) τ σ T σM) (hX : textP n ad TT τ σ z r u) (hM : TxP (σ 2) n z (σ 1 5) σM r2 v) : r = r2 ∧ ∃ z1, SIM u.1 z1 (u.2.2.1 0) (u.2.2.1 2) u.2.2.2.1 u.2.2.2.2 T v := by
  have h0 := h
  obtain ⟨⟨x1, x2, x3, x4, x5, x6, x7, x8, x9⟩, h2, ⟨m1, m2, m3⟩, h4, h5, h6⟩ := h
  have hz := h4.1
  have base : ∀ (n' : Nat) (σ' : Nat → Nat → Int32) (τ' : Nat → Nat → Nat → Int32), 1 ≤ n' → n' ≤ 6 → n ≤ n' → okX n' τ' → txA σ n' σ' → (∀ t, t < n' → τ' t 2 0 = nI t) → v 0 9 = nI n' → TxF n σM v → okML n' v (xLx n' τ') → SIM n' 0 (TT 0) (TT 2) τ' σ' T v := by
    intro n' σ' τ' g1 g2 gn g3 gA g4 g5 gF g6
    have okm : ∀ X : Tb, okT n X → okT n' X := fun X hX => ⟨hX.1, hX.2.1, Nat.lt_of_lt_of_le hX.2.2.1 gn, hX.2.2.2.1, hX.2.2.2.2⟩
    obtain ⟨A1, A2, A3, A4, A5⟩ := gA
    obtain ⟨F1, F2, F3, F4, F5⟩ := gF
    refine ⟨⟨g1, g2, okm _ x3, g3, A1, g4, fun j hj => by rw [A5 _ (by omega)]; exact x7 j hj, Nat.lt_of_lt_of_le x8 gn, x9⟩, h2, ⟨g6, g5, fun i q hi hq => by rw [F5 13 (by decide) (by decide) (by decide) (by decide)]; exact m3 i q hi hq⟩, ⟨Nat.zero_le _, A3, F1, fun j hj => absurd hj (Nat.not_lt_zero j)⟩, fun j hj => ?_, ?_⟩
    · obtain ⟨a, b, c⟩ := h5 j hj
      unfold soX siX nuX at *
      rw [A5 _ (by omega), A5 _ (by omega), F5 9 (by decide) (by decide) (by decide) (by decide), F5 10 (by decide) (by decide) (by decide) (by decide), F5 11 (by decide) (by decide) (by decide) (by decide)]
      exact ⟨a, b, c⟩
    · unfold ImE
      rw [A2 8 (by decide), F2 11 (by decide) (by decide) (by omega) (by omega), F5 7 (by decide) (by decide) (by decide) (by decide), F5 8 (by decide) (by decide) (by decide) (by decide)]
      rcases h6 with h6 | ⟨a, b, c, d, e⟩
      · exact Or.inl h6
      · exact Or.inr ⟨a, b, okm _ c, d, e⟩
  rcases hX with ⟨a1, a2, a3⟩ | ⟨a1, a2, a3, a4, a5, a6, a7, a8⟩ | ⟨a1, a2, a3, a4, a5, a6, a7, a8, a9, a10, a11, a12, a13⟩
  · rcases hM with ⟨b1, b2, b3⟩ | ⟨b1, _⟩ | ⟨b1, _⟩
    · subst a3; subst b3
      exact ⟨a2.trans b2.symm, z, h0⟩
    · omega
    · omega
  · rcases hM with ⟨b1, b2, b3⟩ | ⟨b1, b2, b3, b4, b5⟩ | ⟨b1, b2, _⟩
    · omega
    · refine ⟨a3.trans b3.symm, 0, ?_⟩
      rw [a4, a6, a7]
      exact base n _ τ x1 x2 (Nat.le_refl _) x4 a8 x6 b4 b5 (okml_eq m1 b5.2.2.1 b5.2.2.2.1)
    · exact absurd b2 a2
  · rcases hM with ⟨b1, b2, b3⟩ | ⟨b1, b2, _⟩ | ⟨b1, b2, b3, b4, b5, b6, b7⟩
    · omega
    · exact absurd a2 b2
    · refine ⟨a3.trans b3.symm, 0, ?_⟩
      obtain ⟨k1, k2, k3⟩ := okx_new hz a2 x4 a7 a9 a10 a11
      have hcode : ∀ t, t < n + 1 → u.2.2.2.1 t 2 0 = nI t := fun t ht => by
        by_cases e : t = n
        · subst e; exact a8
        · rw [a7 t (by omega)]; exact x6 t (by omega)
      have := base (n + 1) _ _ (by omega) (by omega) (by omega) k1 a12 hcode b4 b5 (okml_new a1 hz a2 m1 a7 b5.2.2.1 b5.2.2.2.1 b6 b7 k2 k3)
      rw [a4, a5, a6]
      exact this
end TQ
