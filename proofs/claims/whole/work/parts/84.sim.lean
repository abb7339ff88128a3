/-! ===== the two sides alike ===== -/
def MiT (T : Tb) : Prop := ∃ m, m ≤ 999 ∧ T 6 2 = nI m
def StepT (n : Nat) (U V : Tb) : Prop := okT n V ∧ MiT V ∧ seatsN U ≤ seatsN V ∧ ∀ q, q < seatsN U → V q 0 = U q 0 ∧ V q 1 = U q 1
def ImE (n : Nat) (T0 T2 : Tb) (σ σM : Nat → Nat → Int32) : Prop := (σ 0 8 = 0 ∧ σM 0 11 = 0) ∨ (¬ σ 0 8 = 0 ∧ ¬ σM 0 11 = 0 ∧ okT n T2 ∧ MiT T2 ∧ seatsN T2 ≤ seatsN T0 ∧ (∀ q, q < seatsN T2 → T2 q 0 = T0 q 0 ∧ T2 q 1 = T0 q 1) ∧ σM 8 0 = T2 6 1 ∧ σM 8 1 = T2 6 2 ∧ σM 8 2 = T2 6 3 ∧ ∀ q, q < seatsN T2 → ∀ k, k < 5 → σM 7 (5 * q + k) = T2 q (2 + k))
def SimX (n : Nat) (T0 T2 : Tb) (τ : Nat → Nat → Nat → Int32) (σ : Nat → Nat → Int32) : Prop := 1 ≤ n ∧ n ≤ 6 ∧ okT n T0 ∧ okX n τ ∧ σ 0 4 = nI n ∧ (∀ t, t < n → τ t 2 0 = nI t) ∧ okS σ ∧ lawN T2 < n ∧ MiT T0
def SimM (n : Nat) (τ : Nat → Nat → Nat → Int32) (σM : Nat → Nat → Int32) : Prop := okML n σM (xLx n τ) ∧ σM 0 9 = nI n ∧ ∀ i q, i < 12 → q < 8 → σM 13 (8 * i + q) = wdW i q
def SIM (n z : Nat) (T0 T2 : Tb) (τ : Nat → Nat → Nat → Int32) (σ : Nat → Nat → Int32) (T : Tb) (σM : Nat → Nat → Int32) : Prop := SimX n T0 T2 τ σ ∧ EqT T0 T ∧ SimM n τ σM ∧ TpE z σ σM ∧ ShE σ σM ∧ ImE n T0 T2 σ σM
section SI
variable {n z : Nat} {T0 T2 T U V : Tb} {τ : Nat → Nat → Nat → Int32} {σ σM : Nat → Nat → Int32}
theorem SIM.hT (h : SIM n z T0 T2 τ σ T σM) : okT n T0 := h.1.2.2.1
theorem SIM.hTM (h : SIM n z T0 T2 τ σ T σM) : okT n T := h.2.1.ok h.hT
theorem SIM.hM (h : SIM n z T0 T2 τ σ T σM) : okML n σM (xLx n τ) := h.2.2.1.1
theorem SIM.hSh (h : SIM n z T0 T2 τ σ T σM) : okS σ := h.1.2.2.2.2.2.2.1
theorem SIM.hO {TT : Nat → Nat → Nat → Int32} (h : SIM n z (TT 0) T2 τ σ T σM) : okO n TT τ σ := ⟨h.1.1, h.1.2.1, h.1.2.2.1, h.1.2.2.2.1, h.1.2.2.2.2.1, h.1.2.2.2.2.2.1⟩
theorem SIM.hSM (h : SIM n z T0 T2 τ σ T σM) : okSM σM := sh_okM h.2.2.2.2.1 h.hSh
theorem SIM.sheets (h : SIM n z T0 T2 τ σ T σM) : SeE (soX σ) (siX σ) (nuX σ) (soM σM) (siM σM) (nuM σM) := fun j hj => by
  obtain ⟨a, b, c⟩ := h.2.2.2.2.1 j hj
  exact ⟨a, b, h.hSh j hj, c⟩
/-! steps -/
theorem StepT.rf (hT : okT n U) (hm : MiT U) : StepT n U U := ⟨hT, hm, Nat.le_refl _, fun _ _ => ⟨rfl, rfl⟩⟩
theorem StepT.trans {U V W : Tb} (h : StepT n U V) (h' : StepT n V W) : StepT n U W := ⟨h'.1, h'.2.1, Nat.le_trans h.2.2.1 h'.2.2.1, fun q hq => by
  obtain ⟨a, b⟩ := h.2.2.2 q hq
  obtain ⟨c, d⟩ := h'.2.2.2 q (Nat.lt_of_lt_of_le hq h.2.2.1)
  exact ⟨c.trans a, d.trans b⟩⟩
/-- a step of guests' states alone -/
theorem st_out (hT : okT n V) (h : OutT U V) (hm : MiT V) (h6 : seatsN U ≤ 6) : StepT n U V := by
  have hs : seatsN V = seatsN U := by unfold seatsN; rw [h 6 1 (by omega) (by omega)]
  exact ⟨hT, hm, by rw [hs]; exact Nat.le_refl _, fun q hq => ⟨h q 0 (by omega) (by omega), h q 1 (by omega) (by omega)⟩⟩
theorem mi_6 (hm : MiT U) (h : V 6 2 = U 6 2) : MiT V := by obtain ⟨m, a, b⟩ := hm; exact ⟨m, a, h.trans b⟩
theorem st_clock (hT : okT n U) (hm : MiT U) (v : Int32) : StepT n U (clockP U v).2 := by
  unfold clockP
  by_cases a0 : v < 0
  · rw [if_pos a0]; exact StepT.rf hT hm
  rw [if_neg a0]
  by_cases a1 : 999 < v
  · rw [if_pos a1]; exact StepT.rf hT hm
  rw [if_neg a1]
  obtain ⟨m, a, b⟩ := nI_of2 (n := 999) rfl a0 (by rw [i32_le]; exact a1)
  show StepT n U (upT U 6 2 v)
  exact st_out (ok_6 hT).1 (OutT.rf.up (by omega)) ⟨m, a, by rw [show upT U 6 2 v 6 2 = v from upT_at]; exact b⟩ hT.1
theorem st_force (hT : okT n U) (hm : MiT U) (hn : n ≤ 6) (t : Int32) : StepT n U (forceP (nI n) U t).2 := by
  unfold forceP
  by_cases a0 : t < 0
  · rw [if_pos a0]; exact StepT.rf hT hm
  rw [if_neg a0]
  by_cases a1 : t < nI n
  · rw [if_pos a1]; (
    obtain ⟨j, hj, rfl⟩ := nI_of a0
    have hjn : j < n := mi_lt a1 hj (by omega)
    show StepT n U (upT U 6 3 (nI j))
    refine ⟨ok_law hT hjn hn, mi_6 hm (upT_ne (by omega)), ?_, fun q hq => ⟨upT_ne (by have := hT.1; omega), upT_ne (by have := hT.1; omega)⟩⟩
    show seatsN U ≤ seatsN (upT U 6 3 (nI j))
    unfold seatsN
    rw [show upT U 6 3 (nI j) 6 1 = U 6 1 from upT_ne (by omega)]
    exact Nat.le_refl _)
  rw [if_neg a1]
  exact StepT.rf hT hm
theorem st_guest (hT : okT n U) (hm : MiT U) (a b d : Int32) : StepT n U (guestP U a b d).2 := by
  have hok := guest_ok hT a b d
  by_cases hg : (guestP U a b d).2 = U
  · rw [hg]; exact StepT.rf hT hm
  · have key : U 6 1 < 6 ∧ (guestP U a b d).2 = newG U a b d := by
      unfold guestP at hg ⊢
      by_cases a0 : a < 0
      · rw [if_pos a0]; rw [if_pos a0] at hg; exact absurd rfl hg
      rw [if_neg a0] at hg ⊢
      by_cases a1 : 60 ≤ a
      · rw [if_pos a1]; rw [if_pos a1] at hg; exact absurd rfl hg
      rw [if_neg a1] at hg ⊢
      by_cases a2 : b < 0
      · rw [if_pos a2]; rw [if_pos a2] at hg; exact absurd rfl hg
      rw [if_neg a2] at hg ⊢
      by_cases a3 : 1023 < b
      · rw [if_pos a3]; rw [if_pos a3] at hg; exact absurd rfl hg
      rw [if_neg a3] at hg ⊢
      by_cases a4 : d < 0
      · rw [if_pos a4]; rw [if_pos a4] at hg; exact absurd rfl hg
      rw [if_neg a4] at hg ⊢
      by_cases a5 : 99 < d
      · rw [if_pos a5]; rw [if_pos a5] at hg; exact absurd rfl hg
      rw [if_neg a5] at hg ⊢
      by_cases a6 : U 6 1 < 6
      · rw [if_pos a6]; exact ⟨a6, rfl⟩
      rw [if_neg a6]
      rw [if_neg a6] at hg; exact absurd rfl hg
    obtain ⟨h6, e⟩ := key
    rw [e] at hok ⊢
    have h8 : seatsN U < 6 := mi_lt (b := 6) (by rw [← hT.2.1]; exact h6) (by have := hT.1; omega) (by decide)
    have e6 : newG U a b d 6 = upd (U 6) 1 (U 6 1 + 1) := by
      unfold newG upT
      rw [va_up_self, va_up_ne _ _ (by omega)]
    have eo : ∀ q, q < seatsN U → newG U a b d q = U q := fun q hq => by
      have : newG U a b d q = va_up U (seatsN U) (comeR (U (seatsN U)) a b d) q := va_up_ne _ _ (by omega)
      rw [this, va_up_ne _ _ (by omega)]
    refine ⟨hok, mi_6 hm (by rw [e6]; rfl), ?_, fun q hq => by rw [eo q hq]; exact ⟨rfl, rfl⟩⟩
    have : seatsN (newG U a b d) = seatsN U + 1 := by
      unfold seatsN
      rw [e6]
      show (U 6 1 + 1).toNatClampNeg = _
      rw [hT.2.1, nI_1, nI_clamp (by omega), nI_clamp (by omega)]
    omega
theorem ok_set {g : Nat → Int32} {w x : Int32} (hg : okG g) (h0 : ¬ x < 0) (h1 : ¬ mostP w < x) : okG (setR g w x) := by
  have hx : x ≤ mostP w := Int32.not_lt.mp h1
  unfold setR
  unfold mostP at hx
  by_cases a0 : w = 0
  · rw [if_pos a0] at hx ⊢
    obtain ⟨m, a, b⟩ := nI_of2 (n := 1023) rfl h0 hx
    exact okG_2 hg ⟨m, by omega, b⟩
  rw [if_neg a0] at hx ⊢
  have h99 : ¬ w = 4 → upto 100 x := fun h4 => by
    rw [if_neg h4] at hx
    obtain ⟨m, a, b⟩ := nI_of2 (n := 99) rfl h0 hx
    exact ⟨m, by omega, b⟩
  by_cases a1 : w = 1
  · rw [if_pos a1]; exact okG_3 hg (h99 (by rw [a1]; decide))
  rw [if_neg a1]
  by_cases a2 : w = 2
  · rw [if_pos a2]; exact okG_4 hg (h99 (by rw [a2]; decide))
  rw [if_neg a2]
  by_cases a3 : w = 3
  · rw [if_pos a3]; exact okG_5 hg (h99 (by rw [a3]; decide))
  rw [if_neg a3]
  refine okG_6 hg ?_
  split
  · exact Or.inr rfl
  · exact Or.inl rfl
theorem set_01 (g : Nat → Int32) (w x : Int32) : setR g w x 0 = g 0 ∧ setR g w x 1 = g 1 := by
  unfold setR
  repeat (first | exact ⟨rfl, rfl⟩ | split)
theorem st_put (hT : okT n U) (hm : MiT U) (v w x : Int32) : StepT n U (putP U v w x).2 := by
  unfold putP
  by_cases a0 : oneP U v = 0
  · rw [if_pos a0]; exact StepT.rf hT hm
  rw [if_neg a0]
  by_cases a1 : w < 0
  · rw [if_pos a1]; exact StepT.rf hT hm
  rw [if_neg a1]
  by_cases a2 : 4 < w
  · rw [if_pos a2]; exact StepT.rf hT hm
  rw [if_neg a2]
  by_cases a3 : x < 0
  · rw [if_pos a3]; exact StepT.rf hT hm
  rw [if_neg a3]
  by_cases a4 : mostP w < x
  · rw [if_pos a4]; exact StepT.rf hT hm
  rw [if_neg a4]
  obtain ⟨q, hq, e⟩ := one_nat hT a0
  have h6 := hT.1
  have hi : iN v = q := by rw [e]; exact iN_nI (by omega)
  rw [hi]
  show StepT n U (va_up U q (setR (U q) w x))
  have e6 : va_up U q (setR (U q) w x) 6 = U 6 := va_up_ne _ _ (by omega)
  have hs : seatsN (va_up U q (setR (U q) w x)) = seatsN U := by unfold seatsN; rw [e6]
  have hl : lawN (va_up U q (setR (U q) w x)) = lawN U := by unfold lawN; rw [e6]
  refine ⟨⟨by rw [hs]; exact h6, by rw [hs, e6]; exact hT.2.1, by rw [hl]; exact hT.2.2.1, by rw [hl, e6]; exact hT.2.2.2.1, fun p hp => ?_⟩, mi_6 hm (by rw [e6]), by rw [hs]; exact Nat.le_refl _, fun p hp => ?_⟩
  · rw [hs] at hp
    by_cases ep : p = q
    · subst ep; rw [va_up_self]; exact ok_set (hT.2.2.2.2 p hp) a3 a4
    · rw [va_up_ne _ _ ep]; exact hT.2.2.2.2 p hp
  · by_cases ep : p = q
    · subst ep; rw [va_up_self]; exact set_01 _ _ _
    · rw [va_up_ne _ _ ep]; exact ⟨rfl, rfl⟩
theorem st_minute (hT : okT n U) (hm : MiT U) (Lx : Lw) : StepT n U (minuteP Lx U).2 := by
  unfold minuteP
  by_cases a0 : U 6 2 < 999
  · rw [if_pos a0]; (
    obtain ⟨m, a, b⟩ := hm
    show StepT n U (passS Lx U).1
    have hlt : m < 999 := mi_lt (b := 999) (by rw [← b]; exact a0) (by omega) (by decide)
    exact st_out (ok_pass (Lx := Lx) hT).1 (out_pass hT) ⟨m + 1, by omega, by show upT (passK Lx U (seatsN U)).1 6 2 (U 6 2 + 1) 6 2 = nI (m + 1); rw [upT_at, b, nI_1]⟩ hT.1)
  rw [if_neg a0]
  exact StepT.rf hT hm
theorem st_act (hT : okT n U) (hm : MiT U) (Lx : Lw) (v : Int32) : StepT n U (actP Lx U v).2 := by
  unfold actP
  by_cases a0 : oneP U v = 0
  · rw [if_pos a0]; exact StepT.rf hT hm
  rw [if_neg a0]
  by_cases a1 : actS Lx U (iN v) = -1
  · rw [if_pos a1]; exact StepT.rf hT hm
  rw [if_neg a1]
  obtain ⟨q, hq, e⟩ := one_nat hT a0
  have h6 := hT.1
  have hi : iN v = q := by rw [e]; exact iN_nI (by omega)
  rw [hi] at a1 ⊢
  rcases act_upto Lx U q with e1 | ⟨j, hj, e1⟩
  · exact absurd e1 a1
  obtain ⟨c, h1, h2⟩ := tell_nat (Lx := Lx) hT hq
  rw [e1]
  have hout : OutT U (performS Lx U q (nI j)) := by
    unfold performS
    rw [h1, nI_clamp (by omega)]
    exact out_done (by omega) (by omega)
  have h62 : performS Lx U q (nI j) 6 2 = U 6 2 := by
    unfold performS
    rw [h1, nI_clamp (by omega), row6_done (by omega) (by omega)]
  exact st_out (ok_perform hT hq hj).1 hout (mi_6 hm h62) h6
theorem st_swap (hT : okT n U) (hm : MiT U) (v w : Int32) : StepT n U (swapP U v w).2 := by
  unfold swapP
  by_cases a0 : oneP U v = 0
  · rw [if_pos a0]; exact StepT.rf hT hm
  rw [if_neg a0]
  by_cases a1 : oneP U w = 0
  · rw [if_pos a1]; exact StepT.rf hT hm
  rw [if_neg a1]
  by_cases a2 : v = w
  · rw [if_pos a2]; exact StepT.rf hT hm
  rw [if_neg a2]
  obtain ⟨q, hq, e⟩ := one_nat hT a0
  obtain ⟨r, hr, e2⟩ := one_nat hT a1
  have h6 := hT.1
  have hi : iN v = q := by rw [e]; exact iN_nI (by omega)
  have hi2 : iN w = r := by rw [e2]; exact iN_nI (by omega)
  rw [hi, hi2]
  refine st_out (ok_swap hT hq hr).1 (out_swap (by omega) (by omega)) (mi_6 hm ?_) h6
  show upT (upT U q 2 (U r 2)) r 2 (U q 2) 6 2 = U 6 2
  rw [upT_ne (by omega), upT_ne (by omega)]
theorem st_byF (ν : Nat → Int32) (sz y : Int32) : ∀ (f i : Nat) (c : Int32) {U : Tb}, okT n U → MiT U → StepT n U (byF ν sz y f i c U).2
  | 0, _, _, _, hT, hm => StepT.rf hT hm
  | f + 1, i, c, U, hT, hm => by
    have hg := st_guest hT hm (ν (iN (y + 3 * nI i))) (ν (iN (y + 3 * nI i) + 1)) (ν (iN (y + 3 * nI i) + 2))
    unfold byF
    by_cases a0 : y + 3 * nI i < 0
    · rw [if_pos a0]; exact StepT.rf hT hm
    rw [if_neg a0]
    by_cases a1 : sz - 3 < y + 3 * nI i
    · rw [if_pos a1]; exact StepT.rf hT hm
    rw [if_neg a1]
    by_cases a2 : (guestP U (ν (iN (y + 3 * nI i))) (ν (iN (y + 3 * nI i) + 1)) (ν (iN (y + 3 * nI i) + 2))).1 < 0
    · rw [if_pos a2]; exact hg.trans (st_byF ν sz y f (i + 1) c hg.1 hg.2.1)
    · rw [if_neg a2]; exact hg.trans (st_byF ν sz y f (i + 1) (c + 1) hg.1 hg.2.1)
theorem st_by (hT : okT n U) (hm : MiT U) (so si : Nat → Int32) (nu : Nat → Nat → Int32) (y w v q : Int32) : StepT n U (byP so si nu U y w v q).2 := by
  unfold byP
  by_cases a0 : shP y = 0
  · rw [if_pos a0]; exact StepT.rf hT hm
  rw [if_neg a0]
  by_cases a1 : w < 0
  · rw [if_pos a1]; exact StepT.rf hT hm
  rw [if_neg a1]
  by_cases a2 : 2 < w
  · rw [if_pos a2]; exact StepT.rf hT hm
  rw [if_neg a2]
  by_cases a3 : q < 0
  · rw [if_pos a3]; exact StepT.rf hT hm
  rw [if_neg a3]
  by_cases a4 : 6 < q
  · rw [if_pos a4]; exact StepT.rf hT hm
  rw [if_neg a4]
  by_cases a5 : so (iN y) = -1
  · rw [if_pos a5]; exact StepT.rf hT hm
  rw [if_neg a5]
  by_cases a6 : so (iN y) = w
  · rw [if_pos a6]; exact st_byF _ _ _ _ _ _ hT hm
  rw [if_neg a6]
  exact StepT.rf hT hm
/-! what keeps the sides alike -/
theorem sim_T (h : SIM n z T0 T2 τ σ T σM) (hs : StepT n T0 U) (he : EqT U V) : SIM n z U T2 τ σ V σM := by
  obtain ⟨⟨x1, x2, x3, x4, x5, x6, x7, x8, x9⟩, h2, h3, h4, h5, h6⟩ := h
  refine ⟨⟨x1, x2, hs.1, x4, x5, x6, x7, x8, hs.2.1⟩, he, h3, h4, h5, ?_⟩
  rcases h6 with h6 | ⟨a, b, c, d, e, f, g⟩
  · exact Or.inl h6
  · exact Or.inr ⟨a, b, c, d, Nat.le_trans e hs.2.2.1, fun q hq => by
      obtain ⟨f1, f2⟩ := f q hq
      obtain ⟨s1, s2⟩ := hs.2.2.2 q (Nat.lt_of_lt_of_le hq e)
      exact ⟨f1.trans s1.symm, f2.trans s2.symm⟩, g⟩
theorem okml_eq {Lx : Lw} {u : Nat → Nat → Int32} (h : okML n σM Lx) (h5 : ∀ j, j < 200 * n → u 5 j = σM 5 j) (h6 : ∀ j, j < 4 * n → u 6 j = σM 6 j) : okML n u Lx := by
  refine ⟨h.1, fun t ht => ?_⟩
  obtain ⟨a, b, c⟩ := h.2 t ht
  have em : ∀ k, k < 4 → mst u t k = mst σM t k := fun k hk => by unfold mst; rw [h6 _ (by omega)]
  refine ⟨fun k hk => ?_, fun k hk => ?_, fun pt hp => ?_⟩
  · rw [em k hk, h6 _ (by omega)]; exact a k hk
  · rw [em k (by omega), em (k + 1) (by omega)]; exact b k hk
  · obtain ⟨c1, c2, c3, c4⟩ := c pt hp
    rw [em pt (by omega), em (pt + 1) (by omega)]
    refine ⟨c1, fun j hj => ?_, c3, c4⟩
    have b1 := (a (pt + 1) (by omega)).2
    have hm : ∀ k, k < 3 → mst σM t k ≤ mst σM t (k + 1) := b
    rw [h5 _ (by have := hm pt hp; omega)]
    exact c2 j hj
theorem sim_S {σ' u : Nat → Nat → Int32} (h : SIM n z T0 T2 τ σ T σM) (hlo : ∀ o, o < 34 → σ' o = σ o) (hS : okS σ') (hE : ShE σ' u) (hF : ShF σM u) : SIM n z T0 T2 τ σ' T u := by
  obtain ⟨⟨x1, x2, x3, x4, x5, x6, x7, x8, x9⟩, h2, ⟨m1, m2, m3⟩, h4, h5, h6⟩ := h
  have hf : ∀ o, o ≠ 9 → o ≠ 10 → o ≠ 11 → u o = σM o := hF
  refine ⟨⟨x1, x2, x3, x4, by rw [hlo 0 (by decide)]; exact x5, x6, hS, x8, x9⟩, h2, ⟨okml_eq m1 (fun j _ => by rw [hf 5 (by decide) (by decide) (by decide)]) (fun j _ => by rw [hf 6 (by decide) (by decide) (by decide)]), by rw [hf 0 (by decide) (by decide) (by decide)]; exact m2, fun i q hi hq => by rw [hf 13 (by decide) (by decide) (by decide)]; exact m3 i q hi hq⟩, ⟨h4.1, by rw [hlo 1 (by decide)]; exact h4.2.1, by rw [hf 0 (by decide) (by decide) (by decide)]; exact h4.2.2.1, fun j hj => by rw [hlo 2 (by decide), hf 4 (by decide) (by decide) (by decide)]; exact h4.2.2.2 j hj⟩, hE, ?_⟩
  unfold ImE
  rw [hlo 0 (by decide), hf 0 (by decide) (by decide) (by decide), hf 7 (by decide) (by decide) (by decide), hf 8 (by decide) (by decide) (by decide)]
  exact h6
/-! sheets: what stays -/
theorem bec_lo {j : Nat} {so sz : Int32} {o : Nat} (h : o < 34) : becS σ j so sz o = σ o := becS_ne (by omega) (by omega)
theorem bec_ok {j : Nat} {so : Int32} {k : Nat} (hS : okS σ) (hk : k ≤ 40) : okS (becS σ j so (nI k)) := fun i hi => by
  by_cases e : i = j
  · subst e; rw [becS_so]; exact ⟨k, hk, rfl⟩
  · by_cases e2 : 34 + i = 34 + j + 4
    · exact absurd e2 (by omega)
    · rw [becS_ne (by omega) e2]; exact hS i hi
theorem setS_lo {j : Nat} {i v : Int32} {o : Nat} (h : o < 34) : setS σ j i v o = σ o := setS_row (by omega)
theorem setS_ok {j : Nat} {i v : Int32} (hj : j < 4) (hS : okS σ) : okS (setS σ j i v) := fun q hq => by rw [setS_row (by omega)]; exact hS q hq
theorem lo_sheet (y w v : Int32) {o : Nat} (h : o < 34) : (sheetP σ y w v).2 o = σ o := by
  unfold sheetP
  by_cases a0 : shP y = 0
  · rw [if_pos a0]
  rw [if_neg a0]
  by_cases a1 : w < -1
  · rw [if_pos a1]
  rw [if_neg a1]
  by_cases a2 : 2 < w
  · rw [if_pos a2]
  rw [if_neg a2]
  by_cases a3 : w = -1
  · rw [if_pos a3]; exact bec_lo h
  rw [if_neg a3]
  by_cases a4 : 40 < v
  · rw [if_pos a4]
  rw [if_neg a4]
  by_cases a5 : v < 0
  · rw [if_pos a5]
  rw [if_neg a5]
  exact bec_lo h
theorem ok_sheet (hS : okS σ) (y w v : Int32) : okS (sheetP σ y w v).2 := by
  unfold sheetP
  by_cases a0 : shP y = 0
  · rw [if_pos a0]; exact hS
  rw [if_neg a0]
  by_cases a1 : w < -1
  · rw [if_pos a1]; exact hS
  rw [if_neg a1]
  by_cases a2 : 2 < w
  · rw [if_pos a2]; exact hS
  rw [if_neg a2]
  by_cases a3 : w = -1
  · rw [if_pos a3]; exact bec_ok (k := 0) hS (by decide)
  rw [if_neg a3]
  by_cases a4 : 40 < v
  · rw [if_pos a4]; exact hS
  rw [if_neg a4]
  by_cases a5 : v < 0
  · rw [if_pos a5]; exact hS
  rw [if_neg a5]
  obtain ⟨m, a, rfl⟩ := nI_of2 (n := 40) rfl a5 (by rw [i32_le]; exact a4)
  exact bec_ok hS a
theorem lo_cell (y i v : Int32) {o : Nat} (h : o < 34) : (cellP σ y i v).2 o = σ o := by
  unfold cellP
  by_cases a0 : shP y = 0
  · rw [if_pos a0]
  rw [if_neg a0]
  by_cases a1 : σ (34 + iN y) 1 = -1
  · rw [if_pos a1]
  rw [if_neg a1]
  by_cases a2 : i < 0
  · rw [if_pos a2]
  rw [if_neg a2]
  by_cases a3 : i < σ (34 + iN y) 2
  · rw [if_pos a3]; exact setS_lo h
  rw [if_neg a3]
theorem ok_cell (hS : okS σ) (y i v : Int32) : okS (cellP σ y i v).2 := by
  unfold cellP
  by_cases a0 : shP y = 0
  · rw [if_pos a0]; exact hS
  rw [if_neg a0]
  by_cases a1 : σ (34 + iN y) 1 = -1
  · rw [if_pos a1]; exact hS
  rw [if_neg a1]
  by_cases a2 : i < 0
  · rw [if_pos a2]; exact hS
  rw [if_neg a2]
  by_cases a3 : i < σ (34 + iN y) 2
  · rw [if_pos a3]; (obtain ⟨j, hj, e⟩ := sh_nat a0; rw [e, iN_nI (by omega)]; exact setS_ok hj hS)
  rw [if_neg a3]
  exact hS
theorem lo_copy (y i o2 v k : Int32) {o : Nat} (h : o < 34) : (copyP σ y i o2 v k).2 o = σ o := by
  have key : ∀ a b c d e, cpyS σ a b c d e o = σ o := fun a b c d e => va_up_ne _ _ (by omega)
  unfold copyP
  repeat (first | rfl | exact key _ _ _ _ _ | split)
theorem ok_copy (hS : okS σ) (y i o2 v k : Int32) : okS (copyP σ y i o2 v k).2 := by
  have key : ∀ a b c d e, b < 4 → okS (cpyS σ a b c d e) := fun a b c d e hb q hq => by
    unfold cpyS
    rw [va_up_ne _ _ (by omega)]; exact hS q hq
  unfold copyP
  by_cases a0 : shP y = 0
  · rw [if_pos a0]; exact hS
  rw [if_neg a0]
  by_cases a1 : shP o2 = 0
  · rw [if_pos a1]; exact hS
  rw [if_neg a1]
  obtain ⟨j, hj, e⟩ := sh_nat a1
  have hi : iN o2 = j := by rw [e]; exact iN_nI (by omega)
  rw [hi]
  repeat (first | exact hS | exact key _ _ _ _ _ hj | split)
theorem lo_filmK {Lx : Lw} {j k : Nat} {o : Nat} (h : o < 34) : ∀ i, (filmK Lx U σ j k i).2 o = σ o
  | 0 => bec_lo h
  | i + 1 => by
    show setS (filmK Lx U σ j k i).2 j (nI i) _ o = _
    rw [setS_lo h]; exact lo_filmK h i
theorem ok_filmK {Lx : Lw} {j k : Nat} (hj : j < 4) (hk : k ≤ 40) (hS : okS σ) : ∀ i, okS (filmK Lx U σ j k i).2
  | 0 => bec_ok hS hk
  | i + 1 => setS_ok hj (ok_filmK hj hk hS i)
theorem lo_film (Lx : Lw) (y v : Int32) {o : Nat} (h : o < 34) : (filmP Lx U σ y v).2 o = σ o := by
  unfold filmP
  by_cases a0 : shP y = 0
  · rw [if_pos a0]
  rw [if_neg a0]
  by_cases a1 : v < 0
  · rw [if_pos a1]
  rw [if_neg a1]
  by_cases a2 : 20 < v
  · rw [if_pos a2]
  rw [if_neg a2]
  exact lo_filmK h _
theorem ok_film (hS : okS σ) (Lx : Lw) (y v : Int32) : okS (filmP Lx U σ y v).2 := by
  unfold filmP
  by_cases a0 : shP y = 0
  · rw [if_pos a0]; exact hS
  rw [if_neg a0]
  by_cases a1 : v < 0
  · rw [if_pos a1]; exact hS
  rw [if_neg a1]
  by_cases a2 : 20 < v
  · rw [if_pos a2]; exact hS
  rw [if_neg a2]
  obtain ⟨j, hj, e⟩ := sh_nat a0
  obtain ⟨m, a, e2⟩ := nI_of2 (n := 20) rfl a1 (by rw [i32_le]; exact a2)
  rw [e, e2, iN_nI (by omega), iN_nI (by omega)]
  exact ok_filmK hj (by omega) hS _
/-! the tape -/
theorem addS_ne {b : Int32} {o : Nat} (h1 : o ≠ 1) (h2 : o ≠ 2) : addS σ b o = σ o := by
  unfold addS
  by_cases a0 : σ 1 1 < 0
  · rw [if_pos a0]
  rw [if_neg a0]
  by_cases a1 : 160 ≤ σ 1 1
  · rw [if_pos a1]
  rw [if_neg a1, up_ne2 h1, up_ne2 h2]
theorem feedK_ne {a b c d f : Int32} {o : Nat} (h1 : o ≠ 1) (h2 : o ≠ 2) : ∀ k, feedK σ a b c d f k o = σ o
  | 0 => rfl
  | k + 1 => by
    show addS (feedK σ a b c d f k) _ o = σ o
    rw [addS_ne h1 h2]; exact feedK_ne h1 h2 k
theorem feedP_ne (m a b c d f : Int32) {o : Nat} (h1 : o ≠ 1) (h2 : o ≠ 2) : (feedP σ m a b c d f).2 o = σ o := by
  unfold feedP
  repeat (first | rfl | exact feedK_ne h1 h2 _ | split)
theorem sim_F {z1 : Nat} {σ' u : Nat → Nat → Int32} (h : SIM n z T0 T2 τ σ T σM) (hne : ∀ o, o ≠ 1 → o ≠ 2 → σ' o = σ o) (hE : TpE z1 σ' u) (hF : TpF σM u) : SIM n z1 T0 T2 τ σ' T u := by
  obtain ⟨⟨x1, x2, x3, x4, x5, x6, x7, x8, x9⟩, h2, ⟨m1, m2, m3⟩, h4, h5, h6⟩ := h
  have hf : ∀ o k, o ≠ 4 → ¬ (o = 0 ∧ k = 6) → u o k = σM o k := hF
  refine ⟨⟨x1, x2, x3, x4, by rw [hne 0 (by decide) (by decide)]; exact x5, x6, fun j hj => by rw [hne _ (by omega) (by omega)]; exact x7 j hj, x8, x9⟩, h2, ⟨okml_eq m1 (fun j _ => hf 5 j (by decide) (by omega)) (fun j _ => hf 6 j (by decide) (by omega)), by rw [hf 0 9 (by decide) (by omega)]; exact m2, fun i q hi hq => by rw [hf 13 _ (by decide) (by omega)]; exact m3 i q hi hq⟩, hE, fun j hj => ?_, ?_⟩
  · obtain ⟨a, b, c⟩ := h5 j hj
    unfold soX siX nuX at *
    refine ⟨by rw [hne _ (by omega) (by omega), hf 9 _ (by decide) (by omega)]; exact a, by rw [hne _ (by omega) (by omega), hf 10 _ (by decide) (by omega)]; exact b, fun k hk => ?_⟩
    rw [hne _ (by omega) (by omega), hf 11 _ (by decide) (by omega)]; exact c k hk
  · unfold ImE
    rw [hne 0 (by decide) (by decide), hf 0 11 (by decide) (by omega), hf 8 0 (by decide) (by omega), hf 8 1 (by decide) (by omega), hf 8 2 (by decide) (by omega)]
    rcases h6 with h6 | ⟨a, b, c, d, e, f, g1, g2, g3, g4⟩
    · exact Or.inl h6
    · exact Or.inr ⟨a, b, c, d, e, f, g1, g2, g3, fun q hq k hk => by rw [hf 7 _ (by decide) (by omega)]; exact g4 q hq k hk⟩
/-! the image -/
theorem sim_I {Y : Tb} {u : Nat → Nat → Int32} (h : SIM n z T0 T2 τ σ T σM) (hY : EqT Y T0) (hI : ImM T u) (hF : ImF σM u) : SIM n z T0 Y τ (upR σ 0 8 1) T u := by
  obtain ⟨⟨x1, x2, x3, x4, x5, x6, x7, x8, x9⟩, h2, ⟨m1, m2, m3⟩, h4, h5, h6⟩ := h
  have hf : ∀ o k, o ≠ 7 → o ≠ 8 → ¬ (o = 0 ∧ k = 11) → u o k = σM o k := hF
  have hlo : ∀ o, o ≠ 0 → upR σ 0 8 1 o = σ o := fun o ho => up_ne2 ho
  have hYo : okT n Y := hY.symm.ok x3
  obtain ⟨i1, i2, i3, i4, i5⟩ := hI
  have hYT := hY.trans h2
  refine ⟨⟨x1, x2, x3, x4, by rw [upR_self, pk_un (by decide)]; exact x5, x6, fun j hj => by rw [hlo _ (by omega)]; exact x7 j hj, hYo.2.2.1, x9⟩, h2, ⟨okml_eq m1 (fun j _ => hf 5 j (by decide) (by decide) (by omega)) (fun j _ => hf 6 j (by decide) (by decide) (by omega)), by rw [hf 0 9 (by decide) (by decide) (by omega)]; exact m2, fun i q hi hq => by rw [hf 13 _ (by decide) (by decide) (by omega)]; exact m3 i q hi hq⟩, ⟨h4.1, by rw [hlo 1 (by decide)]; exact h4.2.1, by rw [hf 0 6 (by decide) (by decide) (by omega)]; exact h4.2.2.1, fun j hj => by rw [hlo 2 (by decide), hf 4 _ (by decide) (by decide) (by omega)]; exact h4.2.2.2 j hj⟩, fun j hj => ?_, Or.inr ⟨by rw [upR_self, pk_us]; decide, by rw [i1]; decide, hYo, mi_6 x9 hY.2.1, by rw [hY.seats]; exact Nat.le_refl _, fun q hq => ⟨hY.2.2.2 q hq 0 (by decide), hY.2.2.2 q hq 1 (by decide)⟩, i3.trans hYT.1.symm, i4.trans hYT.2.1.symm, i5.trans hYT.2.2.1.symm, fun q hq k hk => ?_⟩⟩
  · obtain ⟨a, b, c⟩ := h5 j hj
    unfold soX siX nuX at *
    refine ⟨by rw [hlo _ (by omega), hf 9 _ (by decide) (by decide) (by omega)]; exact a, by rw [hlo _ (by omega), hf 10 _ (by decide) (by decide) (by omega)]; exact b, fun k hk => ?_⟩
    rw [hlo _ (by omega), hf 11 _ (by decide) (by decide) (by omega)]; exact c k hk
  · have q6 : q < 6 := Nat.lt_of_lt_of_le hq hYo.1
    rw [i2 _ (by omega)]
    unfold keepF
    rw [show (5 * q + k) / 5 = q by omega, show (5 * q + k) % 5 = k by omega]
    exact (hYT.2.2.2 q hq (2 + k) (by omega)).symm
theorem sim_B {Y : Tb} (h : SIM n z T0 T2 τ σ T σM) (h8 : ¬ σ 0 8 = 0) (hY : EqT Y T2) : ¬ σM 0 11 = 0 ∧ T2 6 1 = σM 8 0 ∧ SIM n z Y T2 τ σ (backT T σM) σM := by
  obtain ⟨⟨x1, x2, x3, x4, x5, x6, x7, x8, x9⟩, h2, h3, h4, h5, h6⟩ := h
  have h6' := h6
  rcases h6 with h6 | ⟨a, b, c, d, e, f, g1, g2, g3, g4⟩
  · exact absurd h6.1 h8
  have hYo : okT n Y := hY.symm.ok c
  have hT6 := c.1
  have e1 : backT T σM 6 1 = T2 6 1 := by
    unfold backT
    rw [upT_ne (by omega), upT_ne (by omega), upT_at]; exact g1
  have e2 : backT T σM 6 2 = T2 6 2 := by
    unfold backT
    rw [upT_ne (by omega), upT_at]; exact g2
  have e3 : backT T σM 6 3 = T2 6 3 := by
    unfold backT
    rw [upT_at]; exact g3
  have hB : EqT T2 (backT T σM) := by
    refine ⟨e1.symm, e2.symm, e3.symm, fun q hq k hk => ?_⟩
    have e0 : backT T σM q k = layK T (σM 7) 30 q k := by
      unfold backT
      rw [upT_ne (by omega), upT_ne (by omega), upT_ne (by omega)]
    rw [e0]
    unfold layK
    by_cases hk2 : 2 ≤ k
    · rw [if_pos (by omega)]
      have := g4 q hq (k - 2) (by omega)
      rw [this, show 2 + (k - 2) = k by omega]
    · rw [if_neg (by omega)]
      have hE := h2.2.2.2 q (Nat.lt_of_lt_of_le hq e)
      rcases (show k = 0 ∨ k = 1 by omega) with rfl | rfl
      · exact (f q hq).1.trans (hE 0 (by decide))
      · exact (f q hq).2.trans (hE 1 (by decide))
  refine ⟨b, g1.symm, ⟨x1, x2, hYo, x4, x5, x6, x7, x8, mi_6 d hY.2.1⟩, hY.trans hB, h3, h4, h5, Or.inr ⟨a, b, c, d, by rw [hY.seats]; exact Nat.le_refl _, fun q hq => ?_, g1, g2, g3, g4⟩⟩
  have hq' : q < seatsN Y := by rw [hY.seats]; exact hq
  exact ⟨(hY.2.2.2 q hq' 0 (by decide)).symm, (hY.2.2.2 q hq' 1 (by decide)).symm⟩
theorem sim_B0 (h : SIM n z T0 T2 τ σ T σM) (h8 : σ 0 8 = 0) : σM 0 11 = 0 := by
  rcases h.2.2.2.2.2 with h6 | h6
  · exact h6.2
  · exact absurd h8 h6.1
end SI
