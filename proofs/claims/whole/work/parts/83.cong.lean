/-! ===== tables alike: answers alike ===== -/
section CG
variable {n : Nat} {T U : Tb}
theorem EqT.oneq (h : EqT T U) (hT : okT n T) {v : Int32} (hv : ¬ oneP U v = 0) : ∃ q, q < seatsN T ∧ v = nI q ∧ iN v = q := by
  obtain ⟨q, hq, e⟩ := one_nat (h.ok hT) hv
  have h6 := (h.ok hT).1
  exact ⟨q, by rw [h.seats]; exact hq, e, by rw [e]; exact iN_nI (by omega)⟩
theorem EqT.pcount (h : EqT T U) (Lx : Lw) (tc ts w : Int32) : countP Lx T tc ts w = countP Lx U tc ts w := by
  unfold countP; rw [h.1, h.2.1, h.2.2.1, h.stuckB Lx]
theorem EqT.pclock (h : EqT T U) (v : Int32) : (clockP T v).1 = (clockP U v).1 ∧ EqT (clockP T v).2 (clockP U v).2 := by
  unfold clockP
  by_cases a0 : v < 0
  · rw [if_pos a0, if_pos a0]; exact ⟨rfl, h⟩
  rw [if_neg a0, if_neg a0]
  by_cases a1 : 999 < v
  · rw [if_pos a1, if_pos a1]; exact ⟨rfl, h⟩
  rw [if_neg a1, if_neg a1]
  exact ⟨h.2.1, h.now rfl⟩
theorem EqT.pforce (h : EqT T U) (tc t : Int32) : (forceP tc T t).1 = (forceP tc U t).1 ∧ EqT (forceP tc T t).2 (forceP tc U t).2 := by
  unfold forceP
  by_cases a0 : t < 0
  · rw [if_pos a0, if_pos a0]; exact ⟨rfl, h⟩
  rw [if_neg a0, if_neg a0]
  by_cases a1 : t < tc
  · rw [if_pos a1, if_pos a1]; exact ⟨h.2.2.1, h.law t⟩
  rw [if_neg a1, if_neg a1]
  exact ⟨rfl, h⟩
theorem EqT.pasks (h : EqT T U) (hT : okT n T) (Lx : Lw) (a v : Int32) : asksP Lx T a v = asksP Lx U a v := by
  unfold asksP
  rw [h.onep]
  by_cases a0 : a < 0
  · rw [if_pos a0, if_pos a0]
  rw [if_neg a0, if_neg a0]
  by_cases a1 : 3 ≤ a
  · rw [if_pos a1, if_pos a1]
  rw [if_neg a1, if_neg a1]
  by_cases a2 : oneP U v = 0
  · rw [if_pos a2, if_pos a2]
  rw [if_neg a2, if_neg a2]
  obtain ⟨q, hq, _, e⟩ := h.oneq hT a2
  rw [e]; exact h.says Lx _ hq
theorem come_7 (g h : Nat → Int32) (a b d : Int32) : Eq7 (comeR g a b d) (comeR h a b d) := by
  intro k hk
  rcases k with _ | _ | _ | _ | _ | _ | _ | k <;> first | rfl | omega
theorem EqT.newg (h : EqT T U) (h6 : seatsN T < 6) (a b d : Int32) : EqT (newG T a b d) (newG U a b d) := by
  have e6 : ∀ X : Tb, seatsN X < 6 → newG X a b d 6 = upd (X 6) 1 (X 6 1 + 1) := fun X hX => by
    unfold newG upT
    rw [va_up_self, va_up_ne _ _ (by omega)]
  have eo : ∀ (X : Tb) (q : Nat), q ≠ 6 → newG X a b d q = va_up X (seatsN X) (comeR (X (seatsN X)) a b d) q := fun X q hq => by
    unfold newG
    exact va_up_ne _ _ hq
  have u6 : seatsN U < 6 := by rw [← h.seats]; exact h6
  have key : ∀ q, q ≠ 6 → (q < seatsN T ∨ q = seatsN T) → Eq7 (newG T a b d q) (newG U a b d q) := fun q q6 hq => by
    rw [eo T q q6, eo U q q6, ← h.seats]
    by_cases e : q = seatsN T
    · subst e; rw [va_up_self, va_up_self]; exact come_7 _ _ _ _ _
    · rw [va_up_ne _ _ e, va_up_ne _ _ e]; exact h.2.2.2 q (by omega)
  refine ⟨by rw [e6 T h6, e6 U u6]; show T 6 1 + 1 = U 6 1 + 1; rw [h.1], by rw [e6 T h6, e6 U u6]; exact h.2.1, by rw [e6 T h6, e6 U u6]; exact h.2.2.1, fun q hq => ?_⟩
  have hs : seatsN (newG T a b d) ≤ seatsN T + 1 := by
    unfold seatsN
    rw [e6 T h6]
    show (T 6 1 + 1).toNatClampNeg ≤ (T 6 1).toNatClampNeg + 1
    unfold seatsN at h6
    by_cases h0 : T 6 1 < 0
    · have hi : (T 6 1).toInt < 0 := by rw [Int32.lt_iff_toInt_lt] at h0; exact h0
      have hj : -2147483648 ≤ (T 6 1).toInt := Int32.le_toInt _
      have : (T 6 1 + 1).toInt = (T 6 1).toInt + 1 := by
        rw [Int32.toInt_add, show (1 : Int32).toInt = 1 from rfl, Int.bmod_eq_of_le (by omega) (by omega)]
      show (T 6 1 + 1).toInt.toNat ≤ (T 6 1).toInt.toNat + 1
      omega
    · obtain ⟨j, hj, e⟩ := nI_of h0
      rw [e] at h6 ⊢
      rw [nI_clamp hj] at h6 ⊢
      rw [nI_1, nI_clamp (by omega)]
      omega
  by_cases q6 : q = 6
  · exact absurd hq (by omega)
  · exact key q q6 (by omega)
theorem EqT.pguest (h : EqT T U) (hT : okT n T) (a b d : Int32) : (guestP T a b d).1 = (guestP U a b d).1 ∧ EqT (guestP T a b d).2 (guestP U a b d).2 := by
  unfold guestP
  rw [h.1]
  by_cases a0 : a < 0
  · rw [if_pos a0, if_pos a0]; exact ⟨rfl, h⟩
  rw [if_neg a0, if_neg a0]
  by_cases a1 : 60 ≤ a
  · rw [if_pos a1, if_pos a1]; exact ⟨rfl, h⟩
  rw [if_neg a1, if_neg a1]
  by_cases a2 : b < 0
  · rw [if_pos a2, if_pos a2]; exact ⟨rfl, h⟩
  rw [if_neg a2, if_neg a2]
  by_cases a3 : 1023 < b
  · rw [if_pos a3, if_pos a3]; exact ⟨rfl, h⟩
  rw [if_neg a3, if_neg a3]
  by_cases a4 : d < 0
  · rw [if_pos a4, if_pos a4]; exact ⟨rfl, h⟩
  rw [if_neg a4, if_neg a4]
  by_cases a5 : 99 < d
  · rw [if_pos a5, if_pos a5]; exact ⟨rfl, h⟩
  rw [if_neg a5, if_neg a5]
  by_cases a6 : U 6 1 < 6
  · rw [if_pos a6, if_pos a6]; exact ⟨rfl, h.newg (mi_lt (b := 6) (by rw [← hT.2.1, h.1]; exact a6) (by have := hT.1; omega) (by decide)) a b d⟩
  rw [if_neg a6, if_neg a6]
  exact ⟨rfl, h⟩
theorem Eq7.state {g g' : Nat → Int32} (e : Eq7 g g') (w : Int32) : stateS g w = stateS g' w := by
  unfold stateS
  rw [e 2 (by decide), e 3 (by decide), e 4 (by decide), e 5 (by decide), e 6 (by decide)]
theorem Eq7.set {g g' : Nat → Int32} (e : Eq7 g g') (w v : Int32) : Eq7 (setR g w v) (setR g' w v) := by
  have key : ∀ (j : Nat) (x : Int32), Eq7 (upd g j x) (upd g' j x) := fun j x k hk => by
    by_cases hj : k = j
    · subst hj; rw [pk_us, pk_us]
    · rw [pk_un hj, pk_un hj]; exact e k hk
  unfold setR
  by_cases a0 : w = 0
  · rw [if_pos a0, if_pos a0]; exact key _ _
  rw [if_neg a0, if_neg a0]
  by_cases a1 : w = 1
  · rw [if_pos a1, if_pos a1]; exact key _ _
  rw [if_neg a1, if_neg a1]
  by_cases a2 : w = 2
  · rw [if_pos a2, if_pos a2]; exact key _ _
  rw [if_neg a2, if_neg a2]
  by_cases a3 : w = 3
  · rw [if_pos a3, if_pos a3]; exact key _ _
  rw [if_neg a3, if_neg a3]
  exact key _ _
theorem EqT.row (h : EqT T U) {q : Nat} (hq : q < 6) {g g' : Nat → Int32} (e : Eq7 g g') : EqT (va_up T q g) (va_up U q g') := by
  have e6 : ∀ (X : Tb) (g : Nat → Int32), va_up X q g 6 = X 6 := fun X g => va_up_ne _ _ (by omega)
  refine ⟨by rw [e6, e6]; exact h.1, by rw [e6, e6]; exact h.2.1, by rw [e6, e6]; exact h.2.2.1, fun i hi => ?_⟩
  have hi' : i < seatsN T := by unfold seatsN at hi ⊢; rwa [e6] at hi
  by_cases ei : i = q
  · subst ei; rw [va_up_self, va_up_self]; exact e
  · rw [va_up_ne _ _ ei, va_up_ne _ _ ei]; exact h.2.2.2 i hi'
theorem EqT.pput (h : EqT T U) (hT : okT n T) (v w x : Int32) : (putP T v w x).1 = (putP U v w x).1 ∧ EqT (putP T v w x).2 (putP U v w x).2 := by
  unfold putP
  rw [h.onep]
  by_cases a0 : oneP U v = 0
  · rw [if_pos a0, if_pos a0]; exact ⟨rfl, h⟩
  rw [if_neg a0, if_neg a0]
  obtain ⟨q, hq, _, e⟩ := h.oneq hT a0
  have h6 := hT.1
  rw [e]
  by_cases b0 : w < 0
  · rw [if_pos b0, if_pos b0]; exact ⟨rfl, h⟩
  rw [if_neg b0, if_neg b0]
  by_cases b1 : 4 < w
  · rw [if_pos b1, if_pos b1]; exact ⟨rfl, h⟩
  rw [if_neg b1, if_neg b1]
  by_cases b2 : x < 0
  · rw [if_pos b2, if_pos b2]; exact ⟨rfl, h⟩
  rw [if_neg b2, if_neg b2]
  by_cases b3 : mostP w < x
  · rw [if_pos b3, if_pos b3]; exact ⟨rfl, h⟩
  rw [if_neg b3, if_neg b3]
  exact ⟨(h.2.2.2 q hq).state w, h.row (by omega) ((h.2.2.2 q hq).set w x)⟩
theorem EqT.ptold (h : EqT T U) (hT : okT n T) (Lx : Lw) (v w : Int32) : toldP Lx T v w = toldP Lx U v w := by
  unfold toldP
  rw [h.onep]
  by_cases a0 : oneP U v = 0
  · rw [if_pos a0, if_pos a0]
  rw [if_neg a0, if_neg a0]
  obtain ⟨q, hq, _, e⟩ := h.oneq hT a0
  rw [e, (h.2.2.2 q hq).state, h.2.2.2 q hq 0 (by decide), h.2.2.2 q hq 1 (by decide), h.act Lx hq, h.stuck Lx hq, h.tell Lx hq]
theorem EqT.pmanners (h : EqT T U) (hT : okT n T) (Lx : Lw) (v a w : Int32) : mannersP Lx T v a w = mannersP Lx U v a w := by
  unfold mannersP
  rw [h.onep]
  by_cases a0 : oneP U v = 0
  · rw [if_pos a0, if_pos a0]
  rw [if_neg a0, if_neg a0]
  obtain ⟨q, hq, _, e⟩ := h.oneq hT a0
  rw [e, h.mind Lx hq, h.eat Lx hq]
theorem EqT.pdinner (h : EqT T U) (Lx : Lw) (w : Int32) : dinnerP Lx T w = dinnerP Lx U w := by
  unfold dinnerP
  rw [h.stuckB Lx, h.kdanger _ (Nat.le_refl _), h.kany Lx _ (Nat.le_refl _), h.kall Lx _ (Nat.le_refl _), h.ate, h.seats]
theorem EqT.pminute (h : EqT T U) (hT : okT n T) (Lx : Lw) : (minuteP Lx T).1 = (minuteP Lx U).1 ∧ EqT (minuteP Lx T).2 (minuteP Lx U).2 := by
  unfold minuteP
  rw [h.2.1]
  by_cases a0 : U 6 2 < 999
  · rw [if_pos a0, if_pos a0]; exact ⟨(h.pass hT Lx).2, (h.pass hT Lx).1⟩
  rw [if_neg a0, if_neg a0]
  exact ⟨rfl, h⟩
theorem EqT.pact (h : EqT T U) (hT : okT n T) (Lx : Lw) (v : Int32) : (actP Lx T v).1 = (actP Lx U v).1 ∧ EqT (actP Lx T v).2 (actP Lx U v).2 := by
  unfold actP
  rw [h.onep]
  by_cases a0 : oneP U v = 0
  · rw [if_pos a0, if_pos a0]; exact ⟨rfl, h⟩
  rw [if_neg a0, if_neg a0]
  obtain ⟨q, hq, _, e⟩ := h.oneq hT a0
  rw [e, h.act Lx hq]
  by_cases b0 : actS Lx U q = -1
  · rw [if_pos b0, if_pos b0]; exact ⟨rfl, h⟩
  rw [if_neg b0, if_neg b0]
  exact ⟨rfl, h.perform hT Lx hq _⟩
theorem EqT.pswap (h : EqT T U) (hT : okT n T) (v w : Int32) : (swapP T v w).1 = (swapP U v w).1 ∧ EqT (swapP T v w).2 (swapP U v w).2 := by
  unfold swapP
  rw [h.onep, h.onep]
  by_cases a0 : oneP U v = 0
  · rw [if_pos a0, if_pos a0]; exact ⟨rfl, h⟩
  rw [if_neg a0, if_neg a0]
  by_cases a1 : oneP U w = 0
  · rw [if_pos a1, if_pos a1]; exact ⟨rfl, h⟩
  rw [if_neg a1, if_neg a1]
  by_cases a2 : v = w
  · rw [if_pos a2, if_pos a2]; exact ⟨rfl, h⟩
  rw [if_neg a2, if_neg a2]
  obtain ⟨q, hq, _, e⟩ := h.oneq hT a0
  obtain ⟨r, hr, _, e2⟩ := h.oneq hT a1
  rw [e, e2]
  have hs := h.swap hq hr hT.1
  refine ⟨?_, hs⟩
  exact hs.2.2.2 q (by rw [(ok_swap hT hq hr).2]; exact hq) 2 (by decide)
theorem rem_nat {v : Int32} {a : Nat} (h0 : ¬ v < 0) (ha : 0 < a) (ha2 : a < 2 ^ 31) : ∃ j, j < a ∧ remS v (nI a) = nI j := by
  obtain ⟨k, hk, rfl⟩ := nI_of h0
  unfold remS
  exact ⟨k % a, Nat.mod_lt _ ha, pk_rem hk ha ha2⟩
theorem EqT.onew (h : EqT T U) (w : Int32) : oneW T w = oneW U w := by unfold oneW; rw [h.onep]
theorem EqT.prun (h : EqT T U) (hT : okT n T) (Lx : Lw) (v w : Int32) : runS Lx T v w = runS Lx U v w := by
  have key : ∀ k, ¬ (allW w = 0 ∧ oneW U w = 0) → runA Lx T k w = runA Lx U k w := fun k hk => by
    have hp := h.npass hT Lx k
    have hs := (ok_passN (Lx := Lx) hT k).2
    unfold runA
    rw [h.onew]
    by_cases a0 : oneW U w = 0
    · rw [if_pos a0, if_pos a0, hp.1.stuckB Lx, hp.2, hp.1.ate]
    rw [if_neg a0, if_neg a0]
    have a1 : ¬ oneP U (remS w 10) = 0 := fun q => a0 (by unfold oneW; split; rfl; split; rfl; exact q)
    obtain ⟨q, hq, _, e⟩ := h.oneq hT a1
    rw [e, hp.1.2.2.2 q (by omega) 2 (by decide), hp.1.2.2.2 q (by omega) 4 (by decide), hp.1.2.2.2 q (by omega) 5 (by decide)]
  unfold runS
  rw [h.onew]
  by_cases a0 : runP v = 0
  · rw [if_pos a0, if_pos a0]
  rw [if_neg a0, if_neg a0]
  by_cases a1 : allW w = 0
  · rw [if_pos a1, if_pos a1]
    by_cases a2 : oneW U w = 0
    · rw [if_pos a2, if_pos a2]
    rw [if_neg a2, if_neg a2]
    exact key _ (fun q => a2 q.2)
  · rw [if_neg a1, if_neg a1]; exact key _ (fun q => a1 q.1)
theorem EqT.fwhen (h : EqT T U) (hT : okT n T) (Lx : Lw) (w : Int32) : ∀ f m, whenF Lx T w f m = whenF Lx U w f m
  | 0, _ => rfl
  | f + 1, m => by
    show (if isW (stuckBS Lx (passN Lx T m).1) (T 6 1) w = 0 then whenF Lx T w f (m + 1) else nI m) = (if isW (stuckBS Lx (passN Lx U m).1) (U 6 1) w = 0 then whenF Lx U w f (m + 1) else nI m)
    rw [(h.npass hT Lx m).1.stuckB Lx, h.1, EqT.fwhen h hT Lx w f (m + 1)]
theorem EqT.pwhen (h : EqT T U) (hT : okT n T) (Lx : Lw) (w : Int32) : whenP Lx T w = whenP Lx U w := by
  unfold whenP
  rw [h.onep, h.fwhen hT Lx]
theorem EqT.kpoke (h : EqT T U) (hT : okT n T) (Lx : Lw) (k : Nat) : ∀ a, pokeK Lx T k a = pokeK Lx U k a
  | 0 => by show (_, _) = (_, _); rw [h.sbeh hT Lx k]
  | a + 1 => by
    show lessS (pokeK Lx T k a) (nI a) (behS Lx (rightK T (nI a) (seatsN T)) k) = lessS (pokeK Lx U k a) (nI a) (behS Lx (rightK U (nI a) (seatsN U)) k)
    rw [EqT.kpoke h hT Lx k a, ← h.seats, (h.kright (nI a) (seatsN T) hT.1).sbeh (ok_rightK hT (nI a) (seatsN T) (Nat.le_refl _)).1 Lx k]
theorem EqT.ppoker (h : EqT T U) (hT : okT n T) (Lx : Lw) (v w : Int32) : pokerP Lx T v w = pokerP Lx U v w := by
  unfold pokerP; rw [h.kpoke hT Lx]
theorem EqT.pforgive (h : EqT T U) (hT : okT n T) (Lx : Lw) (v w : Int32) : forgiveP Lx T v w = forgiveP Lx U v w := by
  unfold forgiveP
  rw [h.onep]
  by_cases a0 : oneP U v = 0
  · rw [if_pos a0, if_pos a0]
  rw [if_neg a0, if_neg a0]
  obtain ⟨q, hq, _, e⟩ := h.oneq hT a0
  rw [e, h.fkf Lx hq hT]
theorem EqT.kalar (h : EqT T U) (hT : okT n T) (Lx : Lw) (k : Nat) : ∀ q, q ≤ seatsN T → alarK Lx T k q = alarK Lx U k q
  | 0, _ => by show (_, _) = (_, _); rw [h.abeh hT Lx k]
  | q + 1, hq => by
    have h6 := hT.1
    show (if T q 6 = 0 then moreS (alarK Lx T k q) (nI q) (behA Lx (upT T q 6 1) k) else alarK Lx T k q) = (if U q 6 = 0 then moreS (alarK Lx U k q) (nI q) (behA Lx (upT U q 6 1) k) else alarK Lx U k q)
    rw [EqT.kalar h hT Lx k q (by omega), h.2.2.2 q (by omega) 6 (by decide), (h.over (n := n) (show q < 6 by omega) 6 1).abeh (ok_upT hT (by omega) (fun hz => okG_6 (hT.2.2.2.2 q hz) (Or.inr rfl))) Lx k]
theorem EqT.palarm (h : EqT T U) (hT : okT n T) (Lx : Lw) (v w : Int32) : alarmP Lx T v w = alarmP Lx U v w := by
  unfold alarmP; rw [h.kalar hT Lx _ _ (Nat.le_refl _), h.seats]
theorem EqT.jcha (h : EqT T U) (hT : okT n T) (Lx : Lw) (k a : Nat) (r : Int32 × Int32) (ha : a < seatsN T) : ∀ j, a + 1 + j ≤ seatsN T → chaJ Lx T k a r j = chaJ Lx U k a r j
  | 0, _ => rfl
  | j + 1, hj => by
    show lessS (chaJ Lx T k a r j) (10 * nI a + nI (a + 1 + j)) (behS Lx (swapS T a (a + 1 + j)) k) = lessS (chaJ Lx U k a r j) (10 * nI a + nI (a + 1 + j)) (behS Lx (swapS U a (a + 1 + j)) k)
    rw [EqT.jcha h hT Lx k a r ha j (by omega), (h.swap ha (show a + 1 + j < seatsN T by omega) hT.1).sbeh (ok_swap hT ha (show a + 1 + j < seatsN T by omega)).1 Lx k]
theorem EqT.kcha (h : EqT T U) (hT : okT n T) (Lx : Lw) (k : Nat) : ∀ a, a ≤ seatsN T → chaK Lx T k a = chaK Lx U k a
  | 0, _ => by show (_, _) = (_, _); rw [h.sbeh hT Lx k]
  | a + 1, ha => by
    show chaJ Lx T k a (chaK Lx T k a) (seatsN T - (a + 1)) = chaJ Lx U k a (chaK Lx U k a) (seatsN U - (a + 1))
    rw [EqT.kcha h hT Lx k a (by omega), ← h.seats, h.jcha hT Lx k a _ (by omega) _ (by omega)]
theorem EqT.pchange (h : EqT T U) (hT : okT n T) (Lx : Lw) (v w : Int32) : changeP Lx T v w = changeP Lx U v w := by
  unfold changeP; rw [h.kcha hT Lx _ _ (Nat.le_refl _), h.seats]
theorem EqT.kbold (h : EqT T U) (hT : okT n T) (Lx : Lw) {q : Nat} (hq : q < seatsN T) : ∀ k, boldK Lx T q k = boldK Lx U q k
  | 0 => rfl
  | k + 1 => by
    have h6 := hT.1
    show (if stuckS Lx (upT T q 3 (nI k)) q = 0 then nI k else boldK Lx T q k) = (if stuckS Lx (upT U q 3 (nI k)) q = 0 then nI k else boldK Lx U q k)
    rw [EqT.kbold h hT Lx hq k, (h.over (n := n) (show q < 6 by omega) 3 (nI k)).stuck Lx (by rw [seats_upT (by omega)]; exact hq)]
theorem EqT.pbold (h : EqT T U) (hT : okT n T) (Lx : Lw) (v : Int32) : boldP Lx T v = boldP Lx U v := by
  unfold boldP
  rw [h.onep]
  by_cases a0 : oneP U v = 0
  · rw [if_pos a0, if_pos a0]
  rw [if_neg a0, if_neg a0]
  obtain ⟨q, hq, _, e⟩ := h.oneq hT a0
  rw [e, h.kbold hT Lx hq]
theorem EqT.pmean (h : EqT T U) (w : Int32) : meanP T w = meanP U w := by
  unfold meanP; rw [h.1, h.bored, h.seats]
theorem EqT.pdrawnK (h : EqT T U) (hT : okT n T) (Lx : Lw) (w : Nat) : ∀ k, EqT (lotK Lx T w k).1.1 (lotK Lx U w k).1.1 ∧ (lotK Lx T w k).1.2 = (lotK Lx U w k).1.2 ∧ (lotK Lx T w k).2 = (lotK Lx U w k).2 ∧ okT n (lotK Lx T w k).1.1
  | 0 => ⟨h, rfl, rfl, hT⟩
  | k + 1 => by
    obtain ⟨h1, h2, h3, h4⟩ := EqT.pdrawnK h hT Lx w k
    obtain ⟨b1, b2, b3, b4⟩ := lot_back (Lx := Lx) (Xn := lotT (lotK Lx T w k).1.1 (lotN (lotK Lx T w k).2 % 6) (lotN (lotN (lotK Lx T w k).2) % 10)) h1 h2 h3 h4 rfl
    exact ⟨b2, b3, b4, (ok_pass (Lx := Lx) b1).1⟩
theorem EqT.pdrawn (h : EqT T U) (hT : okT n T) (Lx : Lw) (v w : Int32) : drawnP Lx T v w = drawnP Lx U v w := by
  have hk := h.pdrawnK hT Lx (iN v + 1) 12
  unfold drawnP; rw [hk.2.1, hk.1.stuckB Lx]
theorem EqT.kodd (h : EqT T U) (hT : okT n T) (Lx : Lw) (z : Nat) (l : Int32) : ∀ k, oddK Lx T z l k = oddK Lx U z l k
  | 0 => rfl
  | k + 1 => by
    have hk := h.pdrawnK hT Lx (z + k + 1) 12
    show (if (lotK Lx T (z + k + 1) 12).1.2 < l then oddK Lx T z l k else oddK Lx T z l k + 1) = (if (lotK Lx U (z + k + 1) 12).1.2 < l then oddK Lx U z l k else oddK Lx U z l k + 1)
    rw [hk.2.1, EqT.kodd h hT Lx z l k]
theorem EqT.podds (h : EqT T U) (hT : okT n T) (Lx : Lw) (z m l w : Int32) : oddsP Lx T z m l w = oddsP Lx U z m l w := by
  unfold oddsP; rw [h.kodd hT Lx]
theorem EqT.ptaken (h : EqT T U) (hT : okT n T) (i w : Int32) : takenP T i w = takenP U i w := by
  unfold takenP
  rw [h.onep]
  by_cases a0 : oneP U (remS i 6) = 0
  · rw [if_pos a0, if_pos a0]
  rw [if_neg a0, if_neg a0]
  obtain ⟨q, hq, _, e⟩ := h.oneq hT a0
  rw [e, h.2.2.2 q hq 0 (by decide), h.2.2.2 q hq 6 (by decide)]
/-! told minutes -/
theorem fitK_eq {f g : Nat → Int32} : ∀ k, (∀ v, v < k → f v = g v) → fitK f k = fitK g k
  | 0, _ => rfl
  | k + 1, h => by
    show (if f k = -1 then fitK f k ||| oneS (nI k) else fitK f k) = (if g k = -1 then fitK g k ||| oneS (nI k) else fitK g k)
    rw [fitK_eq k (fun v hv => h v (by omega)), h k (by omega)]
theorem stK_eq {f g : Nat → Int32} : ∀ k, (∀ v, v < k → f v = g v) → stK f k = stK g k
  | 0, _ => rfl
  | k + 1, h => by
    show (if f k = -1 then ((stK f k).1 + 1, if (stK f k).2 = -1 then nI k else (stK f k).2) else stK f k) = (if g k = -1 then ((stK g k).1 + 1, if (stK g k).2 = -1 then nI k else (stK g k).2) else stK g k)
    rw [stK_eq k (fun v hv => h v (by omega)), h k (by omega)]
theorem foF_nu (Lx : Lw) {ν μ : Nat → Int32} : ∀ (f i : Nat) (T : Tb), (∀ k, i ≤ k → k < i + f → ν k = μ k) → foF Lx ν f i T = foF Lx μ f i T
  | 0, _, _, _ => rfl
  | f + 1, i, T, h => by
    show (if (passS Lx T).2 = ν i then foF Lx ν f (i + 1) (passS Lx T).1 else nI i) = (if (passS Lx T).2 = μ i then foF Lx μ f (i + 1) (passS Lx T).1 else nI i)
    rw [h i (Nat.le_refl _) (by omega), foF_nu Lx f (i + 1) (passS Lx T).1 (fun k a b => h k (by omega) (by omega))]
/-- sheets alike -/
def SeE (so si : Sf) (nu : Nat → Sf) (so2 si2 : Sf) (nu2 : Nat → Sf) : Prop := ∀ j, j < 4 → so j = so2 j ∧ si j = si2 j ∧ (∃ k, k ≤ 40 ∧ si j = nI k) ∧ ∀ k, k < 40 → nu j k = nu2 j k
variable {so si so2 si2 : Sf} {nu nu2 : Nat → Sf}
theorem SeE.tal (h : SeE so si nu so2 si2 nu2) (z : Int32) : talP so si z = talP so2 si2 z := by
  unfold talP
  by_cases a0 : shP z = 0
  · rw [if_pos a0, if_pos a0]
  obtain ⟨j, hj, e⟩ := sh_nat a0
  have hi : iN z = j := by rw [e]; exact iN_nI (by omega)
  rw [hi, (h j hj).1, (h j hj).2.1]
theorem SeE.fo (h : SeE so si nu so2 si2 nu2) {z : Int32} (ht : talP so2 si2 z = 0) (Lx : Lw) (hE : EqT T U) (hT : okT n T) : foS Lx (nu (iN z)) (iN (si (iN z))) T = foS Lx (nu2 (iN z)) (iN (si2 (iN z))) U := by
  have a0 : ¬ shP z = 0 := fun q => by unfold talP at ht; rw [if_pos q] at ht; exact absurd ht (by decide)
  obtain ⟨j, hj, e⟩ := sh_nat a0
  have hi : iN z = j := by rw [e]; exact iN_nI (by omega)
  obtain ⟨b1, b2, ⟨k, hk, b3⟩, b4⟩ := h j hj
  rw [hi, ← b2, b3, iN_nI (by omega), hE.sfo hT Lx]
  exact foF_nu Lx k 0 U (fun q _ hq => b4 q (by omega))
theorem EqT.pjudge (h : EqT T U) (hT : okT n T) (hS : SeE so si nu so2 si2 nu2) (Lx : Lw) (z : Int32) : judgeP Lx T so si nu z = judgeP Lx U so2 si2 nu2 z := by
  unfold judgeP
  rw [hS.tal]
  by_cases a0 : talP so2 si2 z = 0
  · rw [if_pos a0, if_pos a0]; exact hS.fo a0 Lx h hT
  · rw [if_neg a0, if_neg a0]
theorem EqT.pkinds (h : EqT T U) (hT : okT n T) (hS : SeE so si nu so2 si2 nu2) (Lx : Lw) (z v w : Int32) : kindsP Lx T so si nu z v w = kindsP Lx U so2 si2 nu2 z v w := by
  unfold kindsP
  rw [hS.tal, h.onep]
  by_cases a0 : talP so2 si2 z = 0
  · rw [if_pos a0, if_pos a0]
    by_cases a1 : oneP U v = 0
    · rw [if_pos a1, if_pos a1]
    rw [if_neg a1, if_neg a1]
    obtain ⟨q, hq, _, e⟩ := h.oneq hT a1
    have h6 := hT.1
    have g := hT.2.2.2.2 q hq
    rw [e, fitK_eq 6 (fun v hv => hS.fo a0 Lx (h.over (n := n) (show q < 6 by omega) 0 (nI v)) (ok_upT hT (by omega) (fun _ => okG_0 g ⟨v, hv, rfl⟩))), fitK_eq 10 (fun v hv => hS.fo a0 Lx (h.over (n := n) (show q < 6 by omega) 1 (nI v)) (ok_upT hT (by omega) (fun _ => okG_1 g ⟨v, hv, rfl⟩)))]
  · rw [if_neg a0, if_neg a0]
theorem EqT.pturned (h : EqT T U) (hT : okT n T) (hS : SeE so si nu so2 si2 nu2) (Lx : Lw) (z v : Int32) : turnedP Lx T so si nu z v = turnedP Lx U so2 si2 nu2 z v := by
  unfold turnedP
  rw [hS.tal, h.onep]
  by_cases a0 : talP so2 si2 z = 0
  · rw [if_pos a0, if_pos a0]
    by_cases a1 : oneP U v = 0
    · rw [if_pos a1, if_pos a1]
    rw [if_neg a1, if_neg a1]
    obtain ⟨q, hq, _, e⟩ := h.oneq hT a1
    have h6 := hT.1
    have g := hT.2.2.2.2 q hq
    rw [e, fitK_eq 10 (fun v hv => hS.fo a0 Lx (h.put (show q < 6 by omega) 2 (fun _ => by rw [h.2.2.2 q hq 2 (by decide)])) (ok_upT hT (by omega) (fun _ => okG_2 g (xor_upto g.2.2.1 hv))))]
  · rw [if_neg a0, if_neg a0]
theorem EqT.pstates (h : EqT T U) (hT : okT n T) (hS : SeE so si nu so2 si2 nu2) (Lx : Lw) (z v w w0 : Int32) : statesP Lx T so si nu z v w w0 = statesP Lx U so2 si2 nu2 z v w w0 := by
  unfold statesP
  rw [hS.tal, h.onep]
  by_cases a0 : talP so2 si2 z = 0
  · rw [if_pos a0, if_pos a0]
    by_cases a1 : oneP U v = 0
    · rw [if_pos a1, if_pos a1]
    rw [if_neg a1, if_neg a1]
    obtain ⟨q, hq, _, e⟩ := h.oneq hT a1
    have h6 := hT.1
    have g := hT.2.2.2.2 q hq
    rw [e, stK_eq 100 (fun v hv => hS.fo a0 Lx (h.over (n := n) (show q < 6 by omega) (if w = 1 then 3 else 4) (nI v)) (ok_upT hT (by omega) (fun _ => by split; exact okG_3 g ⟨v, hv, rfl⟩; exact okG_4 g ⟨v, hv, rfl⟩)))]
  · rw [if_neg a0, if_neg a0]
theorem EqT.pfeared (h : EqT T U) (hT : okT n T) (hS : SeE so si nu so2 si2 nu2) (Lx : Lw) (z : Int32) : fearedP Lx T so si nu z = fearedP Lx U so2 si2 nu2 z := by
  unfold fearedP
  rw [hS.tal]
  by_cases a0 : talP so2 si2 z = 0
  · have h6 := hT.1
    rw [if_pos a0, if_pos a0, ← h.seats]
    refine fitK_eq _ (fun v hv => hS.fo a0 Lx (h.put (show v < 6 by omega) 6 (fun _ => by rw [h.2.2.2 v hv 6 (by decide)])) (ok_upT hT (by omega) (fun _ => okG_6 (hT.2.2.2.2 v hv) (by split; exact Or.inr rfl; exact Or.inl rfl))))
  · rw [if_neg a0, if_neg a0]
theorem EqT.plaws (h : EqT T U) (hT : okT n T) (hn : n ≤ 6) (hS : SeE so si nu so2 si2 nu2) (Lx : Lw) (z : Int32) : lawsP Lx T n so si nu z = lawsP Lx U n so2 si2 nu2 z := by
  unfold lawsP
  rw [hS.tal]
  by_cases a0 : talP so2 si2 z = 0
  · rw [if_pos a0, if_pos a0]
    exact fitK_eq _ (fun v hv => hS.fo a0 Lx (h.law (nI v)) (ok_law hT hv hn))
  · rw [if_neg a0, if_neg a0]
theorem EqT.kfilm (h : EqT T U) (hT : okT n T) (Lx : Lw) (σ : Nat → Nat → Int32) (j k : Nat) : ∀ i, EqT (filmK Lx T σ j k i).1 (filmK Lx U σ j k i).1 ∧ (filmK Lx T σ j k i).2 = (filmK Lx U σ j k i).2 ∧ okT n (filmK Lx T σ j k i).1
  | 0 => ⟨h, rfl, hT⟩
  | i + 1 => by
    obtain ⟨h1, h2, h3⟩ := EqT.kfilm h hT Lx σ j k i
    have hp := h1.pass h3 Lx
    refine ⟨hp.1, ?_, (ok_pass (Lx := Lx) h3).1⟩
    show setS (filmK Lx T σ j k i).2 j (nI i) (passS Lx (filmK Lx T σ j k i).1).2 = setS (filmK Lx U σ j k i).2 j (nI i) (passS Lx (filmK Lx U σ j k i).1).2
    rw [h2, hp.2]
theorem EqT.pfilm (h : EqT T U) (hT : okT n T) (Lx : Lw) (σ : Nat → Nat → Int32) (z v : Int32) : filmP Lx T σ z v = filmP Lx U σ z v := by
  unfold filmP; rw [(h.kfilm hT Lx σ _ _ _).2.1]
theorem EqT.fby (ν : Nat → Int32) (sz z : Int32) : ∀ (f i : Nat) (c : Int32) {T U : Tb}, EqT T U → okT n T → (byF ν sz z f i c T).1 = (byF ν sz z f i c U).1 ∧ EqT (byF ν sz z f i c T).2 (byF ν sz z f i c U).2
  | 0, _, _, _, _, h, _ => ⟨rfl, h⟩
  | f + 1, i, c, T, U, h, hT => by
    have hg := h.pguest hT (ν (iN (z + 3 * nI i))) (ν (iN (z + 3 * nI i) + 1)) (ν (iN (z + 3 * nI i) + 2))
    have ho := guest_ok hT (ν (iN (z + 3 * nI i))) (ν (iN (z + 3 * nI i) + 1)) (ν (iN (z + 3 * nI i) + 2))
    unfold byF
    by_cases a0 : z + 3 * nI i < 0
    · rw [if_pos a0, if_pos a0]; exact ⟨rfl, h⟩
    rw [if_neg a0, if_neg a0]
    by_cases a1 : sz - 3 < z + 3 * nI i
    · rw [if_pos a1, if_pos a1]; exact ⟨rfl, h⟩
    rw [if_neg a1, if_neg a1, hg.1]
    by_cases a2 : (guestP U (ν (iN (z + 3 * nI i))) (ν (iN (z + 3 * nI i) + 1)) (ν (iN (z + 3 * nI i) + 2))).1 < 0
    · rw [if_pos a2, if_pos a2]; exact EqT.fby ν sz z f (i + 1) c hg.2 ho
    · rw [if_neg a2, if_neg a2]; exact EqT.fby ν sz z f (i + 1) (c + 1) hg.2 ho
theorem EqT.pby (h : EqT T U) (hT : okT n T) (so si : Nat → Int32) (nu : Nat → Nat → Int32) (z w v q : Int32) : (byP so si nu T z w v q).1 = (byP so si nu U z w v q).1 ∧ EqT (byP so si nu T z w v q).2 (byP so si nu U z w v q).2 := by
  unfold byP
  by_cases a0 : shP z = 0
  · rw [if_pos a0, if_pos a0]; exact ⟨rfl, h⟩
  rw [if_neg a0, if_neg a0]
  by_cases a1 : w < 0
  · rw [if_pos a1, if_pos a1]; exact ⟨rfl, h⟩
  rw [if_neg a1, if_neg a1]
  by_cases a2 : 2 < w
  · rw [if_pos a2, if_pos a2]; exact ⟨rfl, h⟩
  rw [if_neg a2, if_neg a2]
  by_cases a3 : q < 0
  · rw [if_pos a3, if_pos a3]; exact ⟨rfl, h⟩
  rw [if_neg a3, if_neg a3]
  by_cases a4 : 6 < q
  · rw [if_pos a4, if_pos a4]; exact ⟨rfl, h⟩
  rw [if_neg a4, if_neg a4]
  by_cases a5 : so (iN z) = -1
  · rw [if_pos a5, if_pos a5]; exact ⟨rfl, h⟩
  rw [if_neg a5, if_neg a5]
  by_cases a6 : so (iN z) = w
  · rw [if_pos a6, if_pos a6]; exact EqT.fby _ _ _ _ _ _ h hT
  rw [if_neg a6, if_neg a6]
  exact ⟨rfl, h⟩
end CG
