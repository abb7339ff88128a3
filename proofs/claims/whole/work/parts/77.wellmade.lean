/-! ===== what is written is well made ===== -/
theorem runD_app : ∀ (A B : List Int32) (h : Nat), runD (A ++ B) h = (runD A h).bind (runD B)
  | [], B, h => rfl
  | c :: A, B, h => by
    show (depS h c).bind (runD (A ++ B)) = ((depS h c).bind (runD A)).bind (runD B)
    cases depS h c with
    | none => rfl
    | some g => exact runD_app A B g
theorem dig_nat {v : Int32} (h : ¬ digS v = 0) : ∃ d, 48 ≤ d ∧ d ≤ 57 ∧ v = nI d := by
  unfold digS at h
  by_cases h1 : v < 48
  · rw [if_pos h1] at h; exact absurd rfl h
  · rw [if_neg h1] at h
    by_cases h2 : 57 < v
    · rw [if_pos h2] at h; exact absurd rfl h
    · obtain ⟨j, hj, rfl⟩ := nI_of (fun q => h1 (Int32.lt_trans q (by decide)))
      exact ⟨j, mi_nlt (b := 48) h1 hj (by decide), mi_nlt (a := 57) h2 (by decide) hj, rfl⟩
theorem num_step {a d : Nat} (h1 : 48 ≤ d) (h2 : d ≤ 57) (ha : a < 10000) : nI a * 10 + nI d - 48 = nI (10 * a + (d - 48)) := by
  rw [show (10 : Int32) = nI 10 from rfl, mul_nI, nI_add, show (48 : Int32) = nI 48 from rfl, sub_nI (by omega)]
  congr 1
  omega
theorem num_val (β : Nat → Int32) (z : Nat) : ∀ (f i a k : Nat), i ≤ z → a < 10 ^ k → (numG β z f i (nI a)).1 - i + k ≤ 4 → ∃ b, b < 10 ^ ((numG β z f i (nI a)).1 - i + k) ∧ (numG β z f i (nI a)).2 = nI b
  | 0, i, a, k, hi, ha, hk => ⟨a, by show a < 10 ^ (i - i + k); rw [Nat.sub_self, Nat.zero_add]; exact ha, rfl⟩
  | f + 1, i, a, k, hi, ha, hk => by
    have base : ∃ b, b < 10 ^ (i - i + k) ∧ nI a = nI b := ⟨a, by rw [Nat.sub_self, Nat.zero_add]; exact ha, rfl⟩
    by_cases h1 : i < z
    · by_cases h2 : digS (β i) = 0
      · have e : numG β z (f + 1) i (nI a) = (i, nI a) := (if_pos h1).trans (if_pos h2)
        rw [e]; exact base
      · obtain ⟨d, d1, d2, hd⟩ := dig_nat h2
        have e : numG β z (f + 1) i (nI a) = numG β z f (i + 1) (nI a * 10 + β i - 48) := (if_pos h1).trans (if_neg h2)
        rw [e] at hk ⊢
        have hle := numG_le β z f (i + 1) (nI a * 10 + β i - 48) h1
        have hp4 : 10 ^ k ≤ 10 ^ 4 := Nat.pow_le_pow_right (by decide) (by omega)
        have ha4 : a < 10000 := by have : (10 : Nat) ^ 4 = 10000 := by decide
                                   omega
        have ev : nI a * 10 + β i - 48 = nI (10 * a + (d - 48)) := by rw [hd]; exact num_step d1 d2 ha4
        rw [ev] at hk hle ⊢
        have hp : 10 ^ (k + 1) = 10 * 10 ^ k := by rw [Nat.pow_succ, Nat.mul_comm]
        obtain ⟨b, b1, b2⟩ := num_val β z f (i + 1) (10 * a + (d - 48)) (k + 1) h1 (by omega) (by omega)
        refine ⟨b, ?_, b2⟩
        rw [show (numG β z f (i + 1) (nI (10 * a + (d - 48)))).1 - i + k = (numG β z f (i + 1) (nI (10 * a + (d - 48)))).1 - (i + 1) + (k + 1) by omega]
        exact b1
    · have e : numG β z (f + 1) i (nI a) = (i, nI a) := if_neg h1
      rw [e]; exact base
theorem num_len (β : Nat → Int32) (z : Nat) : ∀ (f i : Nat) (v : Int32), (numG β z f i v).1 ≤ i + f
  | 0, i, v => Nat.le_refl _
  | f + 1, i, v => by
    unfold numG
    by_cases h1 : i < z
    · rw [if_pos h1]
      by_cases h2 : digS (β i) = 0
      · rw [if_pos h2]; show i ≤ i + (f + 1); omega
      · rw [if_neg h2]; have := num_len β z f (i + 1) (v * 10 + β i - 48); omega
    · rw [if_neg h1]; show i ≤ i + (f + 1); omega
theorem sig_2 (v : Int32) : ¬ sigS v = 2 := fun h => by
  unfold sigS at h
  by_cases q : v = 40 ∨ v = 41 ∨ v = 42 ∨ v = 43 ∨ v = 45 ∨ v = 59 ∨ v = 60 ∨ v = 61
  · rw [if_pos q] at h; rw [h] at q; exact absurd q (by decide)
  · rw [if_neg q] at h; exact absurd h (by decide)
theorem word_form (β : Nat → Int32) (t a : Nat) : ∀ (f i : Nat), i + f = 12 → wordF β t a f i = 1 ∨ ∃ j, j < 12 ∧ wordF β t a f i = -(nI (j + 1))
  | 0, i, _ => Or.inl rfl
  | f + 1, i, h => by
    by_cases q : spS β t a i = 0
    · rw [wordF_n q]; exact word_form β t a f (i + 1) (by omega)
    · rw [wordF_y q]; exact Or.inr ⟨i, by omega, rfl⟩
theorem neg_lt : ∀ j, j < 12 → (-(nI (j + 1)) < 0) ∧ ¬ (-(nI (j + 1)) = 2) := by decide +kernel
/-- a number's token -/
theorem nxK_2 {β : Nat → Int32} {z i : Nat} (h : nxK β z i = 2) : i < z ∧ letS (β i) = 0 ∧ ¬ digS (β i) = 0 ∧ (numG β z 161 i 0).1 - i ≤ 4 := by
  unfold nxK at h
  by_cases h1 : i < z
  · rw [if_pos h1] at h
    by_cases h2 : letS (β i) = 0
    · rw [if_pos h2] at h
      by_cases h3 : digS (β i) = 0
      · rw [if_pos h3] at h; exact absurd h (sig_2 _)
      · rw [if_neg h3] at h
        by_cases h4 : 4 < nI ((numG β z 161 i 0).1 - i)
        · rw [if_pos h4] at h; exact absurd h (by decide)
        · refine ⟨h1, h2, h3, ?_⟩
          exact mi_nlt (a := 4) h4 (by decide) (by have := num_len β z 161 i 0; omega)
    · rw [if_neg h2] at h
      rcases word_form β i (letG β z 161 i) 12 0 rfl with e | ⟨j, hj, e⟩
      · rw [e] at h; exact absurd h (by decide)
      · rw [e] at h; exact absurd h (neg_lt j hj).2
  · rw [if_neg h1] at h; exact absurd h (by decide)
/-- the number, if one was read -/
def nbL (x : Rs) : Prop := x.2.1 = 2 → ∃ j, j < 10000 ∧ x.2.2.2.1 = nI j
theorem nb_nx {β : Nat → Int32} {z : Nat} {x : Rs} (h : x.1 ≤ z) : nbL (nxR β z x) := fun ht => by
  have h2 : nxK β z (skpG β z 161 x.1) = 2 := ht
  obtain ⟨a1, a2, a3, a4⟩ := nxK_2 h2
  obtain ⟨b, b1, b2⟩ := num_val β z 161 (skpG β z 161 x.1) 0 0 (by omega) (by decide) (by exact a4)
  have hp : 10 ^ ((numG β z 161 (skpG β z 161 x.1) (nI 0)).1 - skpG β z 161 x.1 + 0) ≤ 10 ^ 4 := Nat.pow_le_pow_right (by decide) (by exact a4)
  have h4 : (10 : Nat) ^ 4 = 10000 := by decide
  refine ⟨b, by omega, ?_⟩
  show nxM β z (skpG β z 161 x.1) x.2.2.2.1 = nI b
  unfold nxM
  rw [if_pos a1, if_pos a2, if_neg a3]
  exact b2
theorem nm_of {t : Int32} (h1 : t ≤ -1) (h2 : -6 ≤ t) : ∃ j, j < 6 ∧ t = -(nI (j + 1)) := by
  rw [Int32.le_iff_toInt_le] at h1 h2
  have a1 : (-1 : Int32).toInt = -1 := by decide
  have a2 : (-6 : Int32).toInt = -6 := by decide
  rw [a1] at h1
  rw [a2] at h2
  have hc : t.toInt = -1 ∨ t.toInt = -2 ∨ t.toInt = -3 ∨ t.toInt = -4 ∨ t.toInt = -5 ∨ t.toInt = -6 := by omega
  rcases hc with g | g | g | g | g | g
  · exact ⟨0, by decide, Int32.toInt_inj.1 (g.trans (by decide))⟩
  · exact ⟨1, by decide, Int32.toInt_inj.1 (g.trans (by decide))⟩
  · exact ⟨2, by decide, Int32.toInt_inj.1 (g.trans (by decide))⟩
  · exact ⟨3, by decide, Int32.toInt_inj.1 (g.trans (by decide))⟩
  · exact ⟨4, by decide, Int32.toInt_inj.1 (g.trans (by decide))⟩
  · exact ⟨5, by decide, Int32.toInt_inj.1 (g.trans (by decide))⟩
theorem nnC_ok {x : Rs} (hn : isNN x) (hb : nbL x) : okC (nnC x) ∧ -6 ≤ nnC x := by
  unfold nnC
  by_cases h2 : x.2.1 = 2
  · rw [if_pos h2]
    obtain ⟨j, hj, e⟩ := hb h2
    rw [e]
    exact ⟨Or.inl ⟨j, hj, rfl⟩, Int32.le_trans (show (-6 : Int32) ≤ 0 by decide) (Int32.not_lt.mp (nI_pos (by omega)))⟩
  · rw [if_neg h2]
    obtain ⟨h3, h4⟩ := hn.resolve_left h2
    obtain ⟨j, hj, e⟩ := nm_of h3 h4
    exact ⟨Or.inr (Or.inl ⟨j, hj, e⟩), h4⟩
/-- what f writes, of a list: E, which leaves one number more and needs B places -/
def Wri (x y : Rs) (L0 E : List Int32) (B : Nat) : Prop := y.2.2.2.2 = L0 ++ E ∧ L0.length ≤ x.2.2.1 ∧ E.length + x.2.2.1 ≤ y.2.2.1 ∧ (∀ c ∈ E, okC c) ∧ ∀ h, h + B ≤ 60 → runD E h = some (h + 1)
def WrL (β : Nat → Int32) (z B : Nat) (f : Rf) : Prop := ∀ x, okL β z x → nbL x → x.2.2.2.2.length ≤ x.2.2.1 → (f x).1 = true → nbL (f x).2 ∧ ∃ E, Wri x (f x).2 x.2.2.2.2 E B
theorem WrL.mono {β : Nat → Int32} {z B B2 : Nat} {f : Rf} (h : WrL β z B f) (hB : B ≤ B2) : WrL β z B2 f := fun x a b c d => by
  obtain ⟨n1, E, e1, e2, e3, e4, e5⟩ := h x a b c d
  exact ⟨n1, E, e1, e2, e3, e4, fun q hq => e5 q (by omega)⟩
theorem wri_ln {L : List Int32} (h : L.length < 160) (c : Int32) : wriL L c = L ++ [c] := if_pos h
/-- one sign more, of two -/
theorem wri_two {x y w : Rs} {L0 E1 E2 : List Int32} {B : Nat} {c : Int32} {t : Nat} (hz : w.2.2.1 ≤ 160) (h1 : Wri x y L0 E1 (B + 1)) (ht : y.2.2.1 + 1 ≤ t) (h2 : w.2.2.2.2 = y.2.2.2.2 ++ E2 ∧ E2.length + t ≤ w.2.2.1 ∧ (∀ c ∈ E2, okC c) ∧ ∀ h, h + B ≤ 60 → runD E2 h = some (h + 1)) (hc : okC c) (h3 : ¬ -6 ≤ c) (h4 : ¬ (c = -9 ∨ c = -18)) : Wri x (wrR c w) L0 (E1 ++ E2 ++ [c]) (B + 1) := by
  obtain ⟨a1, a2, a3, a4, a5⟩ := h1
  obtain ⟨b1, b2, b3, b4⟩ := h2
  have hl : w.2.2.2.2.length < 160 := by rw [b1, a1, List.length_append, List.length_append]; omega
  refine ⟨?_, a2, ?_, fun q hq => ?_, fun h hh => ?_⟩
  · show wriL w.2.2.2.2 c = _
    rw [wri_ln hl, b1, a1, List.append_assoc, List.append_assoc, List.append_assoc]
  · show (E1 ++ E2 ++ [c]).length + x.2.2.1 ≤ w.2.2.1
    rw [List.length_append, List.length_append, List.length_singleton]; omega
  · rcases List.mem_append.mp hq with hq | hq
    · rcases List.mem_append.mp hq with hq | hq
      · exact a4 q hq
      · exact b3 q hq
    · rw [List.mem_singleton] at hq; rw [hq]; exact hc
  · rw [runD_app, runD_app, a5 h hh]
    show ((runD E2 (h + 1)).bind (runD [c])) = _
    rw [b4 (h + 1) (by omega)]
    show (depS (h + 1 + 1) c).bind (runD []) = _
    unfold depS
    rw [if_neg h3, if_neg h4, if_pos (by omega)]
    rfl
/-- one sign more, of one -/
theorem wri_un {x w : Rs} {L0 E : List Int32} {B : Nat} {c : Int32} {t : Nat} (hz : w.2.2.1 ≤ 160) (hx : L0.length ≤ x.2.2.1) (ht : x.2.2.1 + 1 ≤ t) (h2 : w.2.2.2.2 = L0 ++ E ∧ E.length + t ≤ w.2.2.1 ∧ (∀ c ∈ E, okC c) ∧ ∀ h, h + B ≤ 60 → runD E h = some (h + 1)) (hc : okC c) (h3 : ¬ -6 ≤ c) (h4 : c = -9 ∨ c = -18) : Wri x (wrR c w) L0 (E ++ [c]) B := by
  obtain ⟨b1, b2, b3, b4⟩ := h2
  have hl : w.2.2.2.2.length < 160 := by rw [b1, List.length_append]; omega
  refine ⟨?_, hx, ?_, fun q hq => ?_, fun h hh => ?_⟩
  · show wriL w.2.2.2.2 c = _
    rw [wri_ln hl, b1, List.append_assoc]
  · show (E ++ [c]).length + x.2.2.1 ≤ w.2.2.1
    rw [List.length_append, List.length_singleton]; omega
  · rcases List.mem_append.mp hq with hq | hq
    · exact b3 q hq
    · rw [List.mem_singleton] at hq; rw [hq]; exact hc
  · rw [runD_app, b4 h hh]
    show (depS (h + 1) c).bind (runD []) = _
    unfold depS
    rw [if_neg h3, if_pos h4, if_pos (by omega)]
    rfl
section WRL
variable {β : Nat → Int32} {z : Nat}
/-- how f goes on behind a sign -/
theorem wr_nx {B : Nat} {f : Rf} (hf : WrL β z B f) (hm : moL β z f) {x : Rs} (hx : okL β z x) (hl : x.2.2.2.2.length ≤ x.2.2.1) (ht : ¬ x.2.1 = 0) (h : (f (nxR β z x)).1 = true) : nbL (f (nxR β z x)).2 ∧ x.2.2.1 + 1 ≤ (nxR β z x).2.2.1 ∧ (f (nxR β z x)).2.2.2.1 ≤ z ∧ ∃ E, (f (nxR β z x)).2.2.2.2.2 = x.2.2.2.2 ++ E ∧ E.length + (nxR β z x).2.2.1 ≤ (f (nxR β z x)).2.2.2.1 ∧ (∀ c ∈ E, okC c) ∧ ∀ h, h + B ≤ 60 → runD E h = some (h + 1) := by
  obtain ⟨n1, n2⟩ := okL_nx2 hx
  have ha := (okL_adv hx ht).2
  obtain ⟨w1, E, e1, _, e3, e4, e5⟩ := hf (nxR β z x) n1 (nb_nx (okL_at hx).2) (by show x.2.2.2.2.length ≤ _; omega) h
  exact ⟨w1, by omega, (hm _ n1).1.2.2, E, e1, e3, e4, e5⟩
theorem wr_row {B : Nat} {f : Rf} {op : Int32 → Option Int32} (hz1 : z ≤ 160) (hf : WrL β z B f) (hm : moL β z f) (hop : ∀ k c, op k = some c → ¬ k = 0 ∧ okC c ∧ ¬ -6 ≤ c ∧ ¬ (c = -9 ∨ c = -18)) : WrL β z (B + 1) (fun x => rowR β z f op 160 (f x)) := by
  intro x hx hb hl
  have key : ∀ (w : Nat) (R : Bool × Rs) (E : List Int32), okL β z R.2 → nbL R.2 → Wri x R.2 x.2.2.2.2 E (B + 1) → (rowR β z f op w R).1 = true → nbL (rowR β z f op w R).2 ∧ ∃ E, Wri x (rowR β z f op w R).2 x.2.2.2.2 E (B + 1) := by
    intro w
    induction w with
    | zero => intro R E _ hb hw _; exact ⟨hb, E, hw⟩
    | succ w ih =>
      intro R E hR hb hw ht
      by_cases hr : R.1 = true
      · cases ho : op R.2.2.1 with
        | none => rw [row_n ho]; exact ⟨hb, E, hw⟩
        | some c =>
          obtain ⟨h0, h1, h2, h3⟩ := hop _ _ ho
          rw [row_s hr ho] at ht ⊢
          cases hfr : (f (nxR β z R.2)).1 with
          | false => rw [hfr, row_f rfl] at ht; exact ft ht
          | true =>
            have hRl : R.2.2.2.2.2.length ≤ R.2.2.2.1 := by rw [hw.1, List.length_append]; have := hw.2.1; have := hw.2.2.1; omega
            obtain ⟨w1, w2, w3, E2, w4⟩ := wr_nx hf hm hR hRl h0 hfr
            have hn := wri_two (c := c) (by omega) hw w2 w4 h1 h2 h3
            rw [hfr] at ht
            exact ih (true, wrR c (f (nxR β z R.2)).2) (E ++ E2 ++ [c]) (mo_nx hm hR).1 w1 hn ht
      · rw [row_f (by cases hq : R.1 with | false => rfl | true => exact absurd hq hr)]
        exact ⟨hb, E, hw⟩
  intro ht
  have ht : (rowR β z f op 160 (f x)).1 = true := ht
  cases hfx : (f x).1 with
  | false => rw [row_f hfx] at ht; exact absurd (hfx.symm.trans ht) (by decide)
  | true =>
    obtain ⟨n1, E, e1, e2, e3, e4, e5⟩ := hf x hx hb hl hfx
    exact key 160 (f x) E (hm x hx).1 n1 ⟨e1, e2, e3, e4, fun q hq => e5 q (by omega)⟩ ht
theorem wr_one {B d : Nat} {lo : Rlo} (hz1 : z ≤ 160) (hB : 1 ≤ B) (hl : moLo β z lo) (hlo : ∀ q, lo = some q → WrL β z B q.1 ∧ WrL β z B q.2.2) : WrL β z B (oneR β z lo) := by
  intro x hx hb hln
  by_cases hn : isNN x
  · have e : oneR β z lo x = (true, nxR β z (wrR (nnC x) x)) := if_pos hn
    rw [e]
    intro _
    have h0 : ¬ x.2.1 = 0 := fun q => by rcases hn with w | w <;> rw [q] at w <;> exact absurd w (by decide)
    obtain ⟨a1, a2⟩ := okL_adv hx h0
    obtain ⟨c1, c2⟩ := nnC_ok hn hb
    have hn2 := (okL_nx2 hx).2
    refine ⟨nb_nx (okL_at hx).2, [nnC x], ?_, hln, ?_, fun q hq => ?_, fun h hh => ?_⟩
    · show wriL x.2.2.2.2 (nnC x) = _
      exact wri_ln (by omega) _
    · show 1 + x.2.2.1 ≤ (nxR β z x).2.2.1
      omega
    · rw [List.mem_singleton] at hq; rw [hq]; exact c1
    · show (depS h (nnC x)).bind (runD []) = _
      unfold depS
      rw [if_pos c2, if_pos (by omega)]
      rfl
  · cases hlo' : lo with
    | none => rw [one_none hn]; intro h; exact ft h
    | some q =>
      obtain ⟨b1, b2⟩ := hlo q hlo'
      obtain ⟨m1, m2, m3⟩ := hl q hlo'
      by_cases h40 : x.2.1 = 40
      · have h0 : ¬ x.2.1 = 0 := by rw [h40]; decide
        cases hor : (q.2.2 (nxR β z x)).1 with
        | false => rw [one_par0 hn rfl h40 hor]; intro h; exact absurd (hor.symm.trans h) (by decide)
        | true =>
          rw [one_par1 hn rfl h40 hor]
          unfold tokR
          obtain ⟨w1, w2, w3, E, e1, e2, e3, e4⟩ := wr_nx b2 m3 hx hln h0 hor
          by_cases h41 : (q.2.2 (nxR β z x)).2.2.1 = 41
          · rw [if_pos h41]
            intro _
            have hk := (mo_nx m3 hx).1
            obtain ⟨k1, k2⟩ := okL_nx2 hk
            have k3 := (okL_at hk).1
            exact ⟨nb_nx (okL_at hk).2, E, e1, hln, by show E.length + x.2.2.1 ≤ (nxR β z (q.2.2 (nxR β z x)).2).2.2.1; omega, e3, e4⟩
          · rw [if_neg h41]; intro h; exact ft h
      · by_cases h45 : x.2.1 = 45
        · have h0 : ¬ x.2.1 = 0 := by rw [h45]; decide
          rw [one_min hn rfl h40 h45]
          intro h
          obtain ⟨w1, w2, w3, E, w4⟩ := wr_nx b1 m1 hx hln h0 h
          exact ⟨w1, E ++ [-18], wri_un (by omega) hln w2 w4 (by unfold okC; simp) (by decide) (Or.inr rfl)⟩
        · rw [one_els hn h40 h45]; intro h; exact ft h
theorem wr_term {B : Nat} {lo : Rlo} (hz1 : z ≤ 160) (hl : moLo β z lo) (h : WrL β z B (oneR β z lo)) : WrL β z (B + 1) (termR β z lo) :=
  wr_row hz1 h (mo_one hl) (fun k c hk => by
    obtain ⟨rfl, rfl⟩ := isOp_some hk
    exact ⟨by decide, by unfold okC; simp, by decide, by decide⟩)
theorem wr_sum {B : Nat} {lo : Rlo} (hz1 : z ≤ 160) (hl : moLo β z lo) (h : WrL β z B (oneR β z lo)) : WrL β z (B + 2) (sumR β z lo) :=
  wr_row hz1 (wr_term hz1 hl h) (mo_term hl) (fun k c hk => by
    unfold sumOp at hk
    by_cases q : k = 43
    · rw [if_pos q] at hk; obtain rfl := Option.some.inj hk; subst q
      exact ⟨by decide, by unfold okC; simp, by decide, by decide⟩
    · rw [if_neg q] at hk
      by_cases q2 : k = 45
      · rw [if_pos q2] at hk; obtain rfl := Option.some.inj hk; subst q2
        exact ⟨by decide, by unfold okC; simp, by decide, by decide⟩
      · rw [if_neg q2] at hk; cases hk)
theorem wr_not {B : Nat} {lo : Rlo} (hz1 : z ≤ 160) (hl : moLo β z lo) (h : WrL β z B (oneR β z lo)) (hlo : ∀ q, lo = some q → WrL β z (B + 3) q.2.1) : WrL β z (B + 3) (notR β z lo) := by
  intro x hx hb hln
  have hS := wr_sum hz1 hl h
  by_cases h9 : x.2.1 = -9
  · have h0 : ¬ x.2.1 = 0 := by rw [h9]; decide
    cases hlo' : lo with
    | none =>
      have hn : notR β z none x = (false, x) := by unfold notR; rw [if_pos h9]
      rw [hn]; intro q; exact ft q
    | some q =>
      have hn : notR β z (some q) x = ((q.2.1 (nxR β z x)).1, wrR (-9) (q.2.1 (nxR β z x)).2) := by unfold notR; rw [if_pos h9]
      rw [hn]
      intro ht
      obtain ⟨w1, w2, w3, E, w4⟩ := wr_nx (hlo q hlo') (hl q hlo').2.1 hx hln h0 ht
      exact ⟨w1, E ++ [-9], wri_un (by omega) hln w2 w4 (by unfold okC; simp) (by decide) (Or.inl rfl)⟩
  · by_cases hc : (sumR β z lo x).1 = true ∧ ((sumR β z lo x).2.2.1 = 60 ∨ (sumR β z lo x).2.2.1 = 61)
    · rw [not_cmp h9 hc]
      intro ht
      obtain ⟨n1, E, e⟩ := hS x hx hb hln hc.1
      have m1 := (mo_sum hl x hx).1
      have h0 : ¬ (sumR β z lo x).2.2.1 = 0 := fun q => by rcases hc.2 with w | w <;> rw [w] at q <;> exact absurd q (by decide)
      have hRl : (sumR β z lo x).2.2.2.2.2.length ≤ (sumR β z lo x).2.2.2.1 := by rw [e.1, List.length_append]; have := e.2.1; have := e.2.2.1; omega
      obtain ⟨w1, w2, w3, E2, w4⟩ := wr_nx hS (mo_sum hl) m1 hRl h0 ht
      have hcc : okC (if (sumR β z lo x).2.2.1 = 60 then -13 else -14) ∧ ¬ -6 ≤ (if (sumR β z lo x).2.2.1 = 60 then (-13 : Int32) else -14) ∧ ¬ ((if (sumR β z lo x).2.2.1 = 60 then (-13 : Int32) else -14) = -9 ∨ (if (sumR β z lo x).2.2.1 = 60 then (-13 : Int32) else -14) = -18) := by
        split
        · exact ⟨by unfold okC; simp, by decide, by decide⟩
        · exact ⟨by unfold okC; simp, by decide, by decide⟩
      exact ⟨w1, _, wri_two (B := B + 2) (by omega) ⟨e.1, e.2.1, e.2.2.1, e.2.2.2.1, fun q hq => e.2.2.2.2 q (by omega)⟩ w2 w4 hcc.1 hcc.2.1 hcc.2.2⟩
    · rw [not_els h9 hc]
      intro ht
      obtain ⟨n1, E, e⟩ := hS x hx hb hln ht
      exact ⟨n1, E, e.1, e.2.1, e.2.2.1, e.2.2.2.1, fun q hq => e.2.2.2.2 q (by omega)⟩
theorem wr_and {B : Nat} {lo : Rlo} (hz1 : z ≤ 160) (hl : moLo β z lo) (h : WrL β z B (notR β z lo)) : WrL β z (B + 1) (andR β z lo) :=
  wr_row hz1 h (mo_not hl) (fun k c hk => by
    obtain ⟨rfl, rfl⟩ := isOp_some hk
    exact ⟨by decide, by unfold okC; simp, by decide, by decide⟩)
theorem wr_or {B : Nat} {lo : Rlo} (hz1 : z ≤ 160) (hl : moLo β z lo) (h : WrL β z B (andR β z lo)) : WrL β z (B + 1) (orR β z lo) :=
  wr_row hz1 h (mo_and hl) (fun k c hk => by
    obtain ⟨rfl, rfl⟩ := isOp_some hk
    exact ⟨by decide, by unfold okC; simp, by decide, by decide⟩)
end WRL
theorem wr_all (β : Nat → Int32) {z : Nat} (hz1 : z ≤ 160) : ∀ d, WrL β z (1 + 5 * d) (oneR β z (loR β z d)) ∧ WrL β z (4 + 5 * d) (notR β z (loR β z d)) ∧ WrL β z (6 + 5 * d) (orR β z (loR β z d))
  | 0 => by
    have hl := mo_lo β z 0
    have h1 := wr_one (β := β) (B := 1 + 5 * 0) (d := 0) (lo := loR β z 0) hz1 (by omega) hl (fun q h => by cases h)
    have h2 := wr_not hz1 hl h1 (fun q h => by cases h)
    exact ⟨h1, h2, wr_or hz1 hl (wr_and hz1 hl h2)⟩
  | d + 1 => by
    obtain ⟨i1, i2, i3⟩ := wr_all β hz1 d
    have hl := mo_lo β z (d + 1)
    have h1 := wr_one (β := β) (B := 1 + 5 * (d + 1)) (d := d + 1) (lo := loR β z (d + 1)) hz1 (by omega) hl (fun q h => by cases h; exact ⟨i1.mono (by omega), i3.mono (by omega)⟩)
    have h2 := wr_not hz1 hl h1 (fun q h => by cases h; exact i2.mono (by omega))
    exact ⟨h1, h2.mono (by omega), (wr_or hz1 hl (wr_and hz1 hl h2)).mono (by omega)⟩
/-- a part: what is written of it -/
theorem wr_part {β : Nat → Int32} {z : Nat} (hz1 : z ≤ 160) {key : Int32} (hk : ¬ key = 0) {x : Rs} (hx : okL β z x) (hln : x.2.2.2.2.length ≤ x.2.2.1) (h : (partR β z key x).1 = true) : okL β z (partR β z key x).2 ∧ (partR β z key x).2.2.2.2.2.length ≤ (partR β z key x).2.2.2.1 ∧ ∃ E, (partR β z key x).2.2.2.2.2 = x.2.2.2.2 ++ E ∧ (∀ c ∈ E, okC c) ∧ runD E 0 = some 1 := by
  have hO := (wr_all β hz1 5).2.2
  have hm := mo_or (mo_lo β z 5)
  by_cases h1 : x.2.1 = key
  · have t1 : tokR β z key x = (true, nxR β z x) := if_pos h1
    have h0 : ¬ x.2.1 = 0 := by rw [h1]; exact hk
    cases hor : (orR β z (loR β z 5) (nxR β z x)).1 with
    | false =>
      rw [part_1 (by rw [t1]) (by rw [t1]; exact hor), t1] at h
      exact absurd (hor.symm.trans h) (by decide)
    | true =>
      rw [part_2 (by rw [t1]) (by rw [t1]; exact hor), t1] at h ⊢
      have h : (tokR β z 59 (orR β z (loR β z 5) (nxR β z x)).2).1 = true := h
      show okL β z (tokR β z 59 (orR β z (loR β z 5) (nxR β z x)).2).2 ∧ (tokR β z 59 (orR β z (loR β z 5) (nxR β z x)).2).2.2.2.2.2.length ≤ (tokR β z 59 (orR β z (loR β z 5) (nxR β z x)).2).2.2.2.1 ∧ ∃ E, (tokR β z 59 (orR β z (loR β z 5) (nxR β z x)).2).2.2.2.2.2 = x.2.2.2.2 ++ E ∧ _
      obtain ⟨w1, w2, w3, E, e1, e2, e3, e4⟩ := wr_nx hO hm hx hln h0 hor
      have hk2 := (mo_nx hm hx).1
      by_cases h59 : (orR β z (loR β z 5) (nxR β z x)).2.2.1 = 59
      · have t2 : tokR β z 59 (orR β z (loR β z 5) (nxR β z x)).2 = (true, nxR β z (orR β z (loR β z 5) (nxR β z x)).2) := if_pos h59
        rw [t2]
        obtain ⟨k1, k2⟩ := okL_nx2 hk2
        have k3 := (okL_at hk2).1
        refine ⟨k1, ?_, E, e1, e3, e4 0 (by omega)⟩
        show (orR β z (loR β z 5) (nxR β z x)).2.2.2.2.2.length ≤ (nxR β z (orR β z (loR β z 5) (nxR β z x)).2).2.2.1
        rw [e1, List.length_append]; omega
      · have t2 : tokR β z 59 (orR β z (loR β z 5) (nxR β z x)).2 = (false, (orR β z (loR β z 5) (nxR β z x)).2) := if_neg h59
        rw [t2] at h
        exact ft h
  · have t1 : tokR β z key x = (false, x) := if_neg h1
    rw [part_0 (by rw [t1]), t1] at h
    exact ft h
theorem key_0 : ∀ k, k < 3 → ¬ -(nI (k + 10)) = 0 := by decide +kernel
/-- the first k parts -/
theorem th_parts {β : Nat → Int32} {z : Nat} (hz1 : z ≤ 160) (m0 : Int32) : ∀ k, k ≤ 3 → (thR β z m0 k).1 = true → okL β z (thR β z m0 k).2 ∧ (thR β z m0 k).2.2.2.2.2.length ≤ (thR β z m0 k).2.2.2.1 ∧ (∀ i, i < k → (thR β z m0 i).1 = true ∧ ∃ E, (thR β z m0 (i + 1)).2.2.2.2.2 = (thR β z m0 i).2.2.2.2.2 ++ E ∧ (∀ c ∈ E, okC c) ∧ runD E 0 = some 1)
  | 0, _, _ => ⟨okL_nx (x := (0, 0, 0, m0, [])) (Nat.zero_le _), Nat.zero_le _, fun i h => absurd h (by omega)⟩
  | k + 1, hk, h => by
    have hb : (thR β z m0 k).1 = true := by
      cases hq : (thR β z m0 k).1 with
      | true => rfl
      | false => rw [th_n hq] at h; exact absurd (hq.symm.trans h) (by decide)
    obtain ⟨i1, i2, i3⟩ := th_parts hz1 m0 k (by omega) hb
    rw [th_y hb] at h ⊢
    obtain ⟨p1, p2, E, p3⟩ := wr_part hz1 (key_0 k (by omega)) i1 i2 h
    refine ⟨p1, p2, fun i hi => ?_⟩
    by_cases e : i = k
    · subst e; exact ⟨hb, E, by rw [th_y hb]; exact p3⟩
    · exact i3 i (by omega)
