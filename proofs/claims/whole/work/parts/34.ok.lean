/-! ===== ranges, and what stays true ===== -/
theorem nx_and (a b : Nat) : nI a &&& nI b = nI (a &&& b) := by
  apply Int32.toBitVec_inj.1
  show BitVec.ofNat 32 a &&& BitVec.ofNat 32 b = BitVec.ofNat 32 (a &&& b)
  apply BitVec.eq_of_getLsbD_eq
  intro i hi
  simp [hi]
theorem nx_xor (a b : Nat) : nI a ^^^ nI b = nI (a ^^^ b) := by
  apply Int32.toBitVec_inj.1
  show BitVec.ofNat 32 a ^^^ BitVec.ofNat 32 b = BitVec.ofNat 32 (a ^^^ b)
  apply BitVec.eq_of_getLsbD_eq
  intro i hi
  simp [hi]
theorem nx_or (a b : Nat) : nI a ||| nI b = nI (a ||| b) := by
  apply Int32.toBitVec_inj.1
  show BitVec.ofNat 32 a ||| BitVec.ofNat 32 b = BitVec.ofNat 32 (a ||| b)
  apply BitVec.eq_of_getLsbD_eq
  intro i hi
  simp [hi]
/-- x is one of 0 .. k - 1 -/
def upto (k : Nat) (x : Int32) : Prop := ∃ j, j < k ∧ x = nI j
theorem upto_mono {k l : Nat} {x : Int32} (h : upto k x) (hl : k ≤ l) : upto l x := by
  obtain ⟨j, h1, h2⟩ := h; exact ⟨j, by omega, h2⟩
theorem oneS_nI : ∀ j, j < 10 → oneS (nI j) = nI (2 ^ j) := by decide +kernel
theorem or_upto {x : Int32} {j : Nat} (h : upto 1024 x) (hj : j < 10) : upto 1024 (x ||| oneS (nI j)) := by
  obtain ⟨w, h1, rfl⟩ := h
  rw [oneS_nI j hj, nx_or]
  exact ⟨_, Nat.or_lt_two_pow (n := 10) h1 (Nat.pow_lt_pow_right (by decide) hj), rfl⟩
theorem xor_upto {x : Int32} {j : Nat} (h : upto 1024 x) (hj : j < 10) : upto 1024 (x ^^^ oneS (nI j)) := by
  obtain ⟨w, h1, rfl⟩ := h
  rw [oneS_nI j hj, nx_xor]
  exact ⟨_, Nat.xor_lt_two_pow (n := 10) h1 (Nat.pow_lt_pow_right (by decide) hj), rfl⟩
theorem and_upto {x z : Int32} (h : upto 1024 x) (hz : upto (2 ^ 32) z) : upto 1024 (x &&& z) := by
  obtain ⟨w, h1, rfl⟩ := h
  obtain ⟨v, h2, rfl⟩ := hz
  rw [nx_and]
  exact ⟨_, Nat.lt_of_le_of_lt Nat.and_le_left h1, rfl⟩
theorem any_upto (x : Int32) : upto (2 ^ 32) x := ⟨x.toBitVec.toNat, x.toBitVec.isLt, Int32.toBitVec_inj.mp (by show _ = BitVec.ofNat 32 _; simp)⟩
theorem clamp_upto (v : Int32) : upto 100 (clampS 0 v) := by
  unfold clampS
  by_cases h : v < 0
  · rw [if_pos h]; exact ⟨0, by decide, rfl⟩
  · rw [if_neg h]
    by_cases h9 : 99 < v
    · rw [if_pos h9]; exact ⟨99, by decide, rfl⟩
    · rw [if_neg h9]
      obtain ⟨j, h1, h2⟩ := nI_of2 (M := 99) (n := 99) rfl h (by rw [i32_le]; exact h9)
      exact ⟨j, by omega, h2⟩
theorem says_upto {Lx : Lw} {T : Tb} {pt q : Nat} (hp : pt ≠ 2) : upto 100 (saysS Lx T pt q) := by
  unfold saysS saysG
  rw [if_neg hp]
  exact clamp_upto _
theorem eat_upto {Lx : Lw} {T : Tb} {q j : Nat} (hj : j < 10) : upto 109 (eatS Lx T q (nI j)) := by
  obtain ⟨w, h1, h2⟩ := says_upto (Lx := Lx) (T := T) (pt := 1) (q := q) (by decide)
  unfold eatS
  rw [h2]
  split
  · rw [show (2 : Int32) = nI 2 from rfl, pk_div (by omega) (by decide) (by decide)]
    exact ⟨_, by omega, rfl⟩
  · split
    · rw [nI_add]; exact ⟨_, by omega, rfl⟩
    · split
      · exact ⟨0, by decide, rfl⟩
      · exact ⟨w, by omega, rfl⟩
theorem min99_upto {x : Int32} {k : Nat} (h : upto k x) (hk : k < 2 ^ 31) : upto 100 (min99 x) := by
  obtain ⟨w, h1, rfl⟩ := h
  unfold min99
  by_cases h9 : nI w ≤ 99
  · rw [if_pos h9]
    have := (nI_leI (a := w) (b := 99) (by omega) (by decide)).mp h9
    exact ⟨w, by omega, rfl⟩
  · rw [if_neg h9]; exact ⟨99, by decide, rfl⟩
theorem add_upto {x z : Int32} {k l : Nat} (h : upto k x) (hz : upto l z) : upto (k + l) (x + z) := by
  obtain ⟨a, h1, rfl⟩ := h
  obtain ⟨b, h2, rfl⟩ := hz
  rw [nI_add]; exact ⟨_, by omega, rfl⟩
theorem first_upto (m : Int32) : ∀ f a, a + f = 10 → firstS m f a = -1 ∨ upto 10 (firstS m f a)
  | 0, _, _ => Or.inl rfl
  | f + 1, a, h => by
    unfold firstS
    by_cases hb : bitS m (nI a) = 1
    · rw [if_pos hb]; exact first_upto m f (a + 1) (by omega)
    · rw [if_neg hb]; exact Or.inr ⟨a, by omega, rfl⟩
theorem act_upto (Lx : Lw) (T : Tb) (q : Nat) : actS Lx T q = -1 ∨ upto 10 (actS Lx T q) := by
  unfold actS
  split
  · exact first_upto _ 10 0 rfl
  · exact Or.inr ⟨0, by decide, rfl⟩
theorem tell_nat {n : Nat} {Lx : Lw} {T : Tb} {q : Nat} (hT : okT n T) (hq : q < seatsN T) : ∃ c, tellS Lx T q = nI c ∧ c < seatsN T := by
  have h6 := hT.1
  unfold tellS
  rw [hT.2.1]
  exact mod_nat _ (by omega) (by omega)
theorem seats_upT {T : Tb} {q k : Nat} {v : Int32} (hq : q ≠ 6) : seatsN (upT T q k v) = seatsN T := by
  unfold seatsN; rw [show upT T q k v 6 = T 6 from va_up_ne _ _ (Ne.symm hq)]
theorem ok_upT {n : Nat} {T : Tb} {q k : Nat} {v : Int32} (hT : okT n T) (hq : q < 6) (hG : q < seatsN T → okG (upd (T q) k v)) : okT n (upT T q k v) := by
  have h6 : upT T q k v 6 = T 6 := va_up_ne _ _ (by omega)
  have hs : seatsN (upT T q k v) = seatsN T := seats_upT (by omega)
  have hl : lawN (upT T q k v) = lawN T := by unfold lawN; rw [h6]
  refine ⟨by rw [hs]; exact hT.1, by rw [hs, h6]; exact hT.2.1, by rw [hl]; exact hT.2.2.1, by rw [hl, h6]; exact hT.2.2.2.1, fun p hp => ?_⟩
  rw [hs] at hp
  by_cases e : p = q
  · subst e; rw [upT_self]; exact hG hp
  · rw [show upT T q k v p = T p from va_up_ne _ _ e]; exact hT.2.2.2.2 p hp
theorem okG_2 {g : Nat → Int32} {v : Int32} (h : okG g) (hv : upto 1024 v) : okG (upd g 2 v) := ⟨h.1, h.2.1, hv, h.2.2.2.1, h.2.2.2.2.1, h.2.2.2.2.2.1, h.2.2.2.2.2.2⟩
theorem okG_3 {g : Nat → Int32} {v : Int32} (h : okG g) (hv : upto 100 v) : okG (upd g 3 v) := ⟨h.1, h.2.1, h.2.2.1, hv, h.2.2.2.2.1, h.2.2.2.2.2.1, h.2.2.2.2.2.2⟩
theorem okG_4 {g : Nat → Int32} {v : Int32} (h : okG g) (hv : upto 100 v) : okG (upd g 4 v) := ⟨h.1, h.2.1, h.2.2.1, h.2.2.2.1, hv, h.2.2.2.2.2.1, h.2.2.2.2.2.2⟩
theorem okG_5 {g : Nat → Int32} {v : Int32} (h : okG g) (hv : upto 100 v) : okG (upd g 5 v) := ⟨h.1, h.2.1, h.2.2.1, h.2.2.2.1, h.2.2.2.2.1, hv, h.2.2.2.2.2.2⟩
theorem okG_6 {g : Nat → Int32} {v : Int32} (h : okG g) (hv : v = 0 ∨ v = 1) : okG (upd g 6 v) := ⟨h.1, h.2.1, h.2.2.1, h.2.2.2.1, h.2.2.2.2.1, h.2.2.2.2.2.1, hv⟩
theorem okG_0 {g : Nat → Int32} {v : Int32} (h : okG g) (hv : upto 6 v) : okG (upd g 0 v) := ⟨hv, h.2.1, h.2.2.1, h.2.2.2.1, h.2.2.2.2.1, h.2.2.2.2.2.1, h.2.2.2.2.2.2⟩
theorem okG_1 {g : Nat → Int32} {v : Int32} (h : okG g) (hv : upto 10 v) : okG (upd g 1 v) := ⟨h.1, hv, h.2.2.1, h.2.2.2.1, h.2.2.2.2.1, h.2.2.2.2.2.1, h.2.2.2.2.2.2⟩
theorem ok_done {n : Nat} {T : Tb} {q h j : Nat} {e : Int32} (hT : okT n T) (hq : q < seatsN T) (hh : h < seatsN T) (hj : j < 10) (he : upto 109 e) : okT n (doneS T q h e (nI j)) ∧ seatsN (doneS T q h e (nI j)) = seatsN T := by
  have h6 := hT.1
  unfold doneS
  have g1 := hT.2.2.2.2 q hq
  have k1 : okT n (upT T q 5 (min99 (T q 5 + e))) := ok_upT hT (by omega) (fun _ => okG_5 g1 (min99_upto (add_upto g1.2.2.2.2.2.1 he) (by decide)))
  have s1 : seatsN (upT T q 5 (min99 (T q 5 + e))) = seatsN T := seats_upT (by omega)
  generalize upT T q 5 (min99 (T q 5 + e)) = T1 at k1 s1
  have g2 := k1.2.2.2.2 q (by omega)
  have k2 : okT n (upT T1 q 2 (T1 q 2 ||| oneS (nI j))) := ok_upT k1 (by omega) (fun _ => okG_2 g2 (or_upto g2.2.2.1 hj))
  have s2 : seatsN (upT T1 q 2 (T1 q 2 ||| oneS (nI j))) = seatsN T1 := seats_upT (by omega)
  show okT n (upT (if h = q then upT T1 q 2 (T1 q 2 ||| oneS (nI j)) else upT (upT T1 q 2 (T1 q 2 ||| oneS (nI j))) h 2 (upT T1 q 2 (T1 q 2 ||| oneS (nI j)) h 2 ^^^ oneS (nI j))) q 6 0) ∧ seatsN (upT (if h = q then upT T1 q 2 (T1 q 2 ||| oneS (nI j)) else upT (upT T1 q 2 (T1 q 2 ||| oneS (nI j))) h 2 (upT T1 q 2 (T1 q 2 ||| oneS (nI j)) h 2 ^^^ oneS (nI j))) q 6 0) = seatsN T
  generalize upT T1 q 2 (T1 q 2 ||| oneS (nI j)) = T2 at k2 s2
  have k3 : okT n (if h = q then T2 else upT T2 h 2 (T2 h 2 ^^^ oneS (nI j))) ∧ seatsN (if h = q then T2 else upT T2 h 2 (T2 h 2 ^^^ oneS (nI j))) = seatsN T2 := by
    split
    · exact ⟨k2, rfl⟩
    · have g3 := k2.2.2.2.2 h (by omega)
      exact ⟨ok_upT k2 (by omega) (fun _ => okG_2 g3 (xor_upto g3.2.2.1 hj)), seats_upT (by omega)⟩
  generalize (if h = q then T2 else upT T2 h 2 (T2 h 2 ^^^ oneS (nI j))) = T3 at k3
  obtain ⟨k3, s3⟩ := k3
  exact ⟨ok_upT k3 (by omega) (fun hq3 => okG_6 (k3.2.2.2.2 q hq3) (Or.inl rfl)), by rw [seats_upT (by omega)]; omega⟩
theorem ok_perform {n : Nat} {Lx : Lw} {T : Tb} {q j : Nat} (hT : okT n T) (hq : q < seatsN T) (hj : j < 10) : okT n (performS Lx T q (nI j)) ∧ seatsN (performS Lx T q (nI j)) = seatsN T := by
  have h6 := hT.1
  obtain ⟨c, h1, h2⟩ := tell_nat (Lx := Lx) hT hq
  unfold performS
  rw [h1, nI_clamp (by omega)]
  exact ok_done hT hq h2 hj (eat_upto hj)
theorem ok_oneStep {n : Nat} {Lx : Lw} {r : Tb × Int32} {q : Nat} (hT : okT n r.1) (hq : q < seatsN r.1) : okT n (oneStep Lx r q).1 ∧ seatsN (oneStep Lx r q).1 = seatsN r.1 := by
  have h6 := hT.1
  unfold oneStep
  split
  · have g := hT.2.2.2.2 q hq
    exact ⟨ok_upT hT (by omega) (fun _ => okG_4 g (min99_upto (add_upto g.2.2.2.2.1 ⟨1, by decide, rfl⟩ (l := 2)) (by decide))), seats_upT (by omega)⟩
  · next h =>
    rcases act_upto Lx r.1 q with e | ⟨j, hj, e⟩
    · exact absurd e h
    · rw [e]; exact ok_perform hT hq hj
theorem ok_passK {n : Nat} {Lx : Lw} {T : Tb} (hT : okT n T) : ∀ k, k ≤ seatsN T → okT n (passK Lx T k).1 ∧ seatsN (passK Lx T k).1 = seatsN T
  | 0, _ => ⟨hT, rfl⟩
  | k + 1, hk => by
    obtain ⟨h1, h2⟩ := ok_passK hT k (by omega)
    have h3 := ok_oneStep (Lx := Lx) (r := passK Lx T k) (q := k) h1 (by omega)
    exact ⟨h3.1, h3.2.trans h2⟩
theorem ok_6 {n : Nat} {T : Tb} {v : Int32} (hT : okT n T) : okT n (upT T 6 2 v) ∧ seatsN (upT T 6 2 v) = seatsN T := by
  have e1 : upT T 6 2 v 6 1 = T 6 1 := by rw [upT_self]; rfl
  have e3 : upT T 6 2 v 6 3 = T 6 3 := by rw [upT_self]; rfl
  have hs : seatsN (upT T 6 2 v) = seatsN T := by unfold seatsN; rw [e1]
  have hl : lawN (upT T 6 2 v) = lawN T := by unfold lawN; rw [e3]
  have h6 := hT.1
  refine ⟨⟨by rw [hs]; exact hT.1, by rw [hs, e1]; exact hT.2.1, by rw [hl]; exact hT.2.2.1, by rw [hl, e3]; exact hT.2.2.2.1, fun p hp => ?_⟩, hs⟩
  rw [hs] at hp
  rw [show upT T 6 2 v p = T p from va_up_ne _ _ (by omega)]
  exact hT.2.2.2.2 p hp
theorem ok_pass {n : Nat} {Lx : Lw} {T : Tb} (hT : okT n T) : okT n (passS Lx T).1 ∧ seatsN (passS Lx T).1 = seatsN T := by
  obtain ⟨h1, h2⟩ := ok_passK (Lx := Lx) hT (seatsN T) (Nat.le_refl _)
  obtain ⟨h3, h4⟩ := ok_6 (v := T 6 2 + 1) h1
  exact ⟨h3, h4.trans h2⟩
theorem ok_passN {n : Nat} {Lx : Lw} {T : Tb} (hT : okT n T) : ∀ k, okT n (passN Lx T k).1 ∧ seatsN (passN Lx T k).1 = seatsN T
  | 0 => ⟨hT, rfl⟩
  | k + 1 => by
    obtain ⟨h1, h2⟩ := ok_passN (Lx := Lx) hT k
    obtain ⟨h3, h4⟩ := ok_pass (Lx := Lx) h1
    exact ⟨h3, h4.trans h2⟩
/-- row 6 stays through guests' steps -/
theorem row6_done {T : Tb} {q h : Nat} {e a : Int32} (hq : q < 6) (hh : h < 6) : doneS T q h e a 6 = T 6 := by
  unfold doneS
  have z : ∀ (T : Tb) (q k : Nat) (v : Int32), q < 6 → upT T q k v 6 = T 6 := fun T q k v h => va_up_ne _ _ (by omega)
  show upT (if h = q then _ else _) q 6 0 6 = T 6
  rw [z _ _ _ _ hq]
  split
  · rw [z _ _ _ _ hq, z _ _ _ _ hq]
  · rw [z _ _ _ _ hh, z _ _ _ _ hq, z _ _ _ _ hq]
theorem row6_passK {n : Nat} {Lx : Lw} {T : Tb} (hT : okT n T) : ∀ k, k ≤ seatsN T → (passK Lx T k).1 6 = T 6
  | 0, _ => rfl
  | k + 1, hk => by
    have h6 := hT.1
    obtain ⟨h1, h2⟩ := ok_passK (Lx := Lx) hT k (by omega)
    show (oneStep Lx (passK Lx T k) k).1 6 = T 6
    unfold oneStep
    split
    · show upT (passK Lx T k).1 k 4 (min99 ((passK Lx T k).1 k 4 + 1)) 6 = T 6
      rw [show upT (passK Lx T k).1 k 4 (min99 ((passK Lx T k).1 k 4 + 1)) 6 = (passK Lx T k).1 6 from va_up_ne _ _ (by omega)]
      exact row6_passK hT k (by omega)
    · obtain ⟨c, h3, h4⟩ := tell_nat (Lx := Lx) (q := k) h1 (by omega)
      show performS Lx (passK Lx T k).1 k _ 6 = T 6
      unfold performS
      rw [h3, nI_clamp (by omega), row6_done (by omega) (by omega)]
      exact row6_passK hT k (by omega)
