/-! ===== tables alike for those who sit there ===== -/
def Eq7 (g h : Nat → Int32) : Prop := ∀ k, k < 7 → g k = h k
def EqT (T U : Tb) : Prop := T 6 1 = U 6 1 ∧ T 6 2 = U 6 2 ∧ T 6 3 = U 6 3 ∧ ∀ q, q < seatsN T → Eq7 (T q) (U q)
theorem EqT.rf {T : Tb} : EqT T T := ⟨rfl, rfl, rfl, fun _ _ _ _ => rfl⟩
theorem EqT.seats {T U : Tb} (h : EqT T U) : seatsN T = seatsN U := by unfold seatsN; rw [h.1]
theorem EqT.symm {T U : Tb} (h : EqT T U) : EqT U T := ⟨h.1.symm, h.2.1.symm, h.2.2.1.symm, fun q hq k hk => (h.2.2.2 q (by rw [h.seats]; exact hq) k hk).symm⟩
theorem EqT.trans {T U V : Tb} (h : EqT T U) (h' : EqT U V) : EqT T V := ⟨h.1.trans h'.1, h.2.1.trans h'.2.1, h.2.2.1.trans h'.2.2.1, fun q hq k hk => (h.2.2.2 q hq k hk).trans (h'.2.2.2 q (by rw [← h.seats]; exact hq) k hk)⟩
theorem Eq7.ok {g h : Nat → Int32} (e : Eq7 g h) (k : okG g) : okG h := by
  unfold okG at k ⊢
  rw [← e 0 (by decide), ← e 1 (by decide), ← e 2 (by decide), ← e 3 (by decide), ← e 4 (by decide), ← e 5 (by decide), ← e 6 (by decide)]
  exact k
theorem EqT.ok {n : Nat} {T U : Tb} (h : EqT T U) (k : okT n T) : okT n U := by
  have hs := h.seats
  have hl : lawN U = lawN T := by unfold lawN; rw [h.2.2.1]
  exact ⟨by rw [← hs]; exact k.1, by rw [← hs, ← h.1]; exact k.2.1, by rw [hl]; exact k.2.2.1, by rw [hl, ← h.2.2.1]; exact k.2.2.2.1, fun q hq => (h.2.2.2 q (by rw [hs]; exact hq)).ok (k.2.2.2.2 q (by rw [hs]; exact hq))⟩
theorem Eq7.step {g h : Nat → Int32} (e : Eq7 g h) (mn : Int32) : stepS g mn = stepS h mn := by
  funext st c
  simp only [stepS, nameS, e 1 (by decide), e 2 (by decide), e 3 (by decide), e 4 (by decide), e 5 (by decide)]
theorem Eq7.gsays {g h : Nat → Int32} (e : Eq7 g h) (L : List Int32) (pt : Nat) (mn : Int32) : saysG L pt g mn = saysG L pt h mn := by
  unfold saysG evalS; rw [e.step]
theorem EqT.says {T U : Tb} (h : EqT T U) (Lx : Lw) (pt : Nat) {q : Nat} (hq : q < seatsN T) : saysS Lx T pt q = saysS Lx U pt q := by
  unfold saysS; rw [h.2.2.1, h.2.1, (h.2.2.2 q hq).gsays]
theorem EqT.mind {T U : Tb} (h : EqT T U) (Lx : Lw) {q : Nat} (hq : q < seatsN T) : mindS Lx T q = mindS Lx U q := by
  have e := h.2.2.2 q hq
  have hs := h.says Lx 0 hq
  unfold mindS timS bredS hungS
  rw [hs, h.2.1, e 0 (by decide), e 1 (by decide), e 2 (by decide), e 3 (by decide)]
theorem EqT.act {T U : Tb} (h : EqT T U) (Lx : Lw) {q : Nat} (hq : q < seatsN T) : actS Lx T q = actS Lx U q := by
  unfold actS; rw [h.2.2.2 q hq 6 (by decide), h.mind Lx hq]
theorem EqT.stuck {T U : Tb} (h : EqT T U) (Lx : Lw) {q : Nat} (hq : q < seatsN T) : stuckS Lx T q = stuckS Lx U q := by
  unfold stuckS; rw [h.2.2.2 q hq 6 (by decide), h.mind Lx hq]
theorem EqT.eat {T U : Tb} (h : EqT T U) (Lx : Lw) {q : Nat} (hq : q < seatsN T) (a : Int32) : eatS Lx T q a = eatS Lx U q a := by
  unfold eatS; rw [h.2.2.2 q hq 0 (by decide), h.says Lx 1 hq]
theorem EqT.tell {T U : Tb} (h : EqT T U) (Lx : Lw) {q : Nat} (hq : q < seatsN T) : tellS Lx T q = tellS Lx U q := by
  unfold tellS onS; rw [h.2.2.2 q hq 0 (by decide), h.2.2.2 q hq 1 (by decide), h.says Lx 2 hq, h.1]
theorem EqT.put {T U : Tb} (h : EqT T U) {q : Nat} (hq : q < 6) (k : Nat) {v w : Int32} (hv : q < seatsN T → v = w) : EqT (upT T q k v) (upT U q k w) := by
  have e6 : ∀ (X : Tb) (v : Int32), upT X q k v 6 = X 6 := fun X v => va_up_ne _ _ (by omega)
  refine ⟨by rw [e6, e6]; exact h.1, by rw [e6, e6]; exact h.2.1, by rw [e6, e6]; exact h.2.2.1, fun p hp j hj => ?_⟩
  have hp' : p < seatsN T := by unfold seatsN at hp ⊢; rwa [e6] at hp
  by_cases e : p = q
  · subst e
    rw [upT_self, upT_self, hv hp']
    by_cases ej : j = k
    · subst ej; rw [pk_us, pk_us]
    · rw [pk_un ej, pk_un ej]; exact h.2.2.2 p hp' j hj
  · rw [upT_ne (by omega), upT_ne (by omega)]; exact h.2.2.2 p hp' j hj
theorem seats_le {n : Nat} {T : Tb} (hT : okT n T) {q : Nat} (hq : q < seatsN T) : q < 6 := Nat.lt_of_lt_of_le hq hT.1
theorem EqT.done {n : Nat} {T U : Tb} (h : EqT T U) (hT : okT n T) {q c : Nat} (hq : q < seatsN T) (hc : c < seatsN T) (e a : Int32) : EqT (doneS T q c e a) (doneS U q c e a) := by
  have q6 := seats_le hT hq
  have c6 := seats_le hT hc
  have s6 : ∀ (X : Tb) (q k : Nat) (v : Int32), q < 6 → seatsN (upT X q k v) = seatsN X := fun X q k v h => seats_upT (by omega)
  have h1 : EqT (upT T q 5 (min99 (T q 5 + e))) (upT U q 5 (min99 (U q 5 + e))) := h.put q6 5 (fun z => by rw [h.2.2.2 q z 5 (by decide)])
  have z1 : seatsN (upT T q 5 (min99 (T q 5 + e))) = seatsN T := s6 _ _ _ _ q6
  unfold doneS
  generalize upT T q 5 (min99 (T q 5 + e)) = T1 at h1 z1
  generalize upT U q 5 (min99 (U q 5 + e)) = U1 at h1
  have h2 : EqT (upT T1 q 2 (T1 q 2 ||| oneS a)) (upT U1 q 2 (U1 q 2 ||| oneS a)) := h1.put q6 2 (fun z => by rw [h1.2.2.2 q z 2 (by decide)])
  have z2 : seatsN (upT T1 q 2 (T1 q 2 ||| oneS a)) = seatsN T1 := s6 _ _ _ _ q6
  show EqT (upT (if c = q then upT T1 q 2 (T1 q 2 ||| oneS a) else upT (upT T1 q 2 (T1 q 2 ||| oneS a)) c 2 (upT T1 q 2 (T1 q 2 ||| oneS a) c 2 ^^^ oneS a)) q 6 0) (upT (if c = q then upT U1 q 2 (U1 q 2 ||| oneS a) else upT (upT U1 q 2 (U1 q 2 ||| oneS a)) c 2 (upT U1 q 2 (U1 q 2 ||| oneS a) c 2 ^^^ oneS a)) q 6 0)
  generalize upT T1 q 2 (T1 q 2 ||| oneS a) = T2 at h2 z2
  generalize upT U1 q 2 (U1 q 2 ||| oneS a) = U2 at h2
  have h3 : EqT (if c = q then T2 else upT T2 c 2 (T2 c 2 ^^^ oneS a)) (if c = q then U2 else upT U2 c 2 (U2 c 2 ^^^ oneS a)) := by
    split
    · exact h2
    · exact h2.put c6 2 (fun z => by rw [h2.2.2.2 c z 2 (by decide)])
  exact h3.put q6 6 (fun _ => rfl)
theorem EqT.perform {n : Nat} {T U : Tb} (h : EqT T U) (hT : okT n T) (Lx : Lw) {q : Nat} (hq : q < seatsN T) (a : Int32) : EqT (performS Lx T q a) (performS Lx U q a) := by
  obtain ⟨c, h1, h2⟩ := tell_nat (Lx := Lx) hT hq
  have h6 := hT.1
  unfold performS
  rw [← h.tell Lx hq, ← h.eat Lx hq, h1, nI_clamp (by omega)]
  exact h.done hT hq h2 _ _
theorem EqT.one {n : Nat} {r r' : Tb × Int32} (h : EqT r.1 r'.1) (he : r.2 = r'.2) (hT : okT n r.1) (Lx : Lw) {q : Nat} (hq : q < seatsN r.1) : EqT (oneStep Lx r q).1 (oneStep Lx r' q).1 ∧ (oneStep Lx r q).2 = (oneStep Lx r' q).2 := by
  have ha := h.act Lx hq
  by_cases hc : actS Lx r.1 q = -1
  · rw [step_no hc, step_no (ha ▸ hc)]
    exact ⟨h.put (seats_le hT hq) 4 (fun z => by rw [h.2.2.2 q z 4 (by decide)]), he⟩
  · rw [step_yes rfl hc, step_yes ha.symm hc]
    exact ⟨h.perform hT Lx hq _, by show r.2 + 1 = r'.2 + 1; rw [he]⟩
theorem EqT.kpass {n : Nat} {T U : Tb} (h : EqT T U) (hT : okT n T) (Lx : Lw) : ∀ k, k ≤ seatsN T → EqT (passK Lx T k).1 (passK Lx U k).1 ∧ (passK Lx T k).2 = (passK Lx U k).2
  | 0, _ => ⟨h, rfl⟩
  | k + 1, hk => by
    obtain ⟨h1, h2⟩ := EqT.kpass h hT Lx k (by omega)
    obtain ⟨h3, h4⟩ := ok_passK (Lx := Lx) hT k (by omega)
    exact h1.one h2 h3 Lx (by omega)
theorem EqT.now {T U : Tb} (h : EqT T U) {v w : Int32} (hv : v = w) : EqT (upT T 6 2 v) (upT U 6 2 w) := by
  subst hv
  have e : ∀ X : Tb, upT X 6 2 v 6 1 = X 6 1 ∧ upT X 6 2 v 6 2 = v ∧ upT X 6 2 v 6 3 = X 6 3 := fun X => by rw [upT_self]; exact ⟨rfl, rfl, rfl⟩
  refine ⟨by rw [(e T).1, (e U).1]; exact h.1, by rw [(e T).2.1, (e U).2.1], by rw [(e T).2.2, (e U).2.2]; exact h.2.2.1, fun q hq k hk => ?_⟩
  have hq' : q < seatsN T := by unfold seatsN at hq ⊢; rwa [(e T).1] at hq
  by_cases e6 : q = 6
  · subst e6
    rw [upT_self, upT_self]
    by_cases ek : k = 2
    · subst ek; rw [pk_us, pk_us]
    · rw [pk_un ek, pk_un ek]; exact h.2.2.2 6 hq' k hk
  · rw [upT_ne (by omega), upT_ne (by omega)]; exact h.2.2.2 q hq' k hk
theorem EqT.pass {n : Nat} {T U : Tb} (h : EqT T U) (hT : okT n T) (Lx : Lw) : EqT (passS Lx T).1 (passS Lx U).1 ∧ (passS Lx T).2 = (passS Lx U).2 := by
  obtain ⟨h1, h2⟩ := h.kpass hT Lx (seatsN T) (Nat.le_refl _)
  unfold passS
  rw [← h.seats]
  exact ⟨h1.now (by rw [h.2.1]), h2⟩
theorem EqT.npass {n : Nat} {T U : Tb} (h : EqT T U) (hT : okT n T) (Lx : Lw) : ∀ k, EqT (passN Lx T k).1 (passN Lx U k).1 ∧ (passN Lx T k).2 = (passN Lx U k).2
  | 0 => ⟨h, rfl⟩
  | k + 1 => by
    obtain ⟨h1, h2⟩ := EqT.npass h hT Lx k
    obtain ⟨h3, h4⟩ := h1.pass (ok_passN (Lx := Lx) hT k).1 Lx
    exact ⟨h3, by show (passN Lx T k).2 + _ = _; rw [h2, h4]; rfl⟩
theorem EqT.kstuck {T U : Tb} (h : EqT T U) (Lx : Lw) : ∀ k, k ≤ seatsN T → stuckK Lx T k = stuckK Lx U k
  | 0, _ => rfl
  | k + 1, hk => by
    show (if stuckS Lx T k = 0 then _ else _) = (if stuckS Lx U k = 0 then _ else _)
    rw [h.stuck Lx (by omega), EqT.kstuck h Lx k (by omega)]
theorem EqT.stuckB {T U : Tb} (h : EqT T U) (Lx : Lw) : stuckBS Lx T = stuckBS Lx U := by
  unfold stuckBS; rw [← h.seats]; exact h.kstuck Lx _ (Nat.le_refl _)
theorem EqT.kdanger {T U : Tb} (h : EqT T U) : ∀ k, k ≤ seatsN T → dangerK T k = dangerK U k
  | 0, _ => rfl
  | k + 1, hk => by
    show (if T k 6 = 0 then _ else _) = (if U k 6 = 0 then _ else _)
    rw [h.2.2.2 k (by omega) 6 (by decide), EqT.kdanger h k (by omega)]
theorem EqT.kany {T U : Tb} (h : EqT T U) (Lx : Lw) : ∀ k, k ≤ seatsN T → anyK Lx T k = anyK Lx U k
  | 0, _ => rfl
  | k + 1, hk => by
    show anyK Lx T k ||| (1023 &&& (mindS Lx T k ^^^ -1)) = anyK Lx U k ||| (1023 &&& (mindS Lx U k ^^^ -1))
    rw [h.mind Lx (by omega), EqT.kany h Lx k (by omega)]
theorem EqT.kall {T U : Tb} (h : EqT T U) (Lx : Lw) : ∀ k, k ≤ seatsN T → allK Lx T k = allK Lx U k
  | 0, _ => rfl
  | k + 1, hk => by
    show allK Lx T k &&& (mindS Lx T k ^^^ -1) = allK Lx U k &&& (mindS Lx U k ^^^ -1)
    rw [h.mind Lx (by omega), EqT.kall h Lx k (by omega)]
theorem EqT.kate {T U : Tb} (h : EqT T U) : ∀ k, k ≤ seatsN T → ateK T k = ateK U k
  | 0, _ => rfl
  | k + 1, hk => by
    show ateK T k + T k 5 = ateK U k + U k 5
    rw [h.2.2.2 k (by omega) 5 (by decide), EqT.kate h k (by omega)]
theorem EqT.kbored {T U : Tb} (h : EqT T U) : ∀ k, k ≤ seatsN T → boredK T k = boredK U k
  | 0, _ => rfl
  | k + 1, hk => by
    show boredK T k + T k 4 = boredK U k + U k 4
    rw [h.2.2.2 k (by omega) 4 (by decide), EqT.kbored h k (by omega)]
theorem EqT.ate {T U : Tb} (h : EqT T U) : ateS T = ateS U := by unfold ateS; rw [← h.seats]; exact h.kate _ (Nat.le_refl _)
theorem EqT.bored {T U : Tb} (h : EqT T U) : boredS T = boredS U := by unfold boredS; rw [← h.seats]; exact h.kbored _ (Nat.le_refl _)
theorem EqT.kright {T U : Tb} (h : EqT T U) (a : Int32) : ∀ k, k ≤ 6 → EqT (rightK T a k) (rightK U a k)
  | 0, _ => h
  | k + 1, hk => by
    have ih := EqT.kright h a k (by omega)
    exact ih.put (by omega) 2 (fun z => by rw [ih.2.2.2 k z 2 (by decide)])
theorem EqT.swap {T U : Tb} (h : EqT T U) {a b : Nat} (ha : a < seatsN T) (hb : b < seatsN T) (h6 : seatsN T ≤ 6) : EqT (swapS T a b) (swapS U a b) := by
  unfold swapS
  exact (h.put (by omega) 2 (fun _ => h.2.2.2 b hb 2 (by decide))).put (by omega) 2 (fun _ => h.2.2.2 a ha 2 (by decide))
/-- what is copied is alike -/
theorem copyR_7 (g h : Nat → Int32) : Eq7 (copyR g h) h := by
  intro k hk
  rcases k with _ | _ | _ | _ | _ | _ | _ | k <;> first | rfl | omega
theorem copyK_row (T U : Tb) : ∀ k, k ≤ 6 → ∀ q, q < k → Eq7 (copyK T U k q) (U q)
  | 0, _, q, hq => absurd hq (Nat.not_lt_zero _)
  | k + 1, hk, q, hq => by
    show Eq7 (va_up (copyK T U k) k (copyR (copyK T U k k) (U k)) q) (U q)
    by_cases e : q = k
    · subst e; rw [va_up_self]; exact copyR_7 _ _
    · rw [va_up_ne _ _ e]; exact copyK_row T U k (by omega) q (by omega)
theorem copyT_eq {n : Nat} (T U : Tb) (hU : okT n U) : EqT (copyT T U) U := by
  have h6 := hU.1
  unfold copyT
  have e6 := copyK_6 T U (seatsN U) h6
  have hs : seatsN (copyK T U (seatsN U)) = seatsN U := by
    show (copyK T U (seatsN U) 6 1).toNatClampNeg = seatsN U
    rw [e6]; rfl
  refine ⟨by rw [e6]; rfl, by rw [e6]; rfl, by rw [e6]; rfl, fun q hq => ?_⟩
  rw [hs] at hq
  exact copyK_row T U _ h6 q hq
theorem ok_rightK {n : Nat} {T : Tb} (hT : okT n T) (a : Int32) : ∀ k, k ≤ seatsN T → okT n (rightK T a k) ∧ seatsN (rightK T a k) = seatsN T
  | 0, _ => ⟨hT, rfl⟩
  | k + 1, hk => by
    have h6 := hT.1
    obtain ⟨h1, h2⟩ := ok_rightK hT a k (by omega)
    have g := h1.2.2.2.2 k (by omega)
    exact ⟨ok_upT h1 (by omega) (fun _ => okG_2 g (and_upto g.2.2.1 (any_upto _))), by show seatsN (upT _ _ _ _) = _; rw [seats_upT (by omega)]; exact h2⟩
theorem ok_swap {n : Nat} {T : Tb} (hT : okT n T) {a b : Nat} (ha : a < seatsN T) (hb : b < seatsN T) : okT n (swapS T a b) ∧ seatsN (swapS T a b) = seatsN T := by
  have h6 := hT.1
  have ga := hT.2.2.2.2 a ha
  have gb := hT.2.2.2.2 b hb
  have s1 : seatsN (upT T a 2 (T b 2)) = seatsN T := seats_upT (by omega)
  have k1 : okT n (upT T a 2 (T b 2)) := ok_upT hT (by omega) (fun _ => okG_2 ga gb.2.2.1)
  exact ⟨ok_upT k1 (by omega) (fun hz => okG_2 (k1.2.2.2.2 b hz) ga.2.2.1), by show seatsN (upT _ _ _ _) = _; rw [seats_upT (by omega)]; exact s1⟩
