/-! ===== the other reader: signs held ===== -/
theorem ft {P : Prop} (h : false = true) : P := absurd h (by decide)
/-- a record is one before which the lexer stands -/
def okL (β : Nat → Int32) (z : Nat) (x : Rs) : Prop := x.2.1 = nxK β z x.2.2.1 ∧ x.1 = nxA β z x.2.2.1 ∧ x.2.2.1 ≤ z
theorem nx_lt (β : Nat → Int32) {z i : Nat} (h : i < z) : i + 1 ≤ nxA β z i := by
  unfold nxA
  rw [if_pos h]
  by_cases h2 : letS (β i) = 0
  · rw [if_pos h2]
    by_cases h3 : digS (β i) = 0
    · rw [if_pos h3]; omega
    · rw [if_neg h3]
      have e : numG β z 161 i 0 = numG β z 160 (i + 1) (0 * 10 + β i - 48) := (if_pos h).trans (if_neg h3)
      rw [e]; exact (numG_le β z 160 (i + 1) _ h).1
  · rw [if_neg h2]
    have e : letG β z 161 i = letG β z 160 (i + 1) := (if_pos h).trans (if_neg h2)
    rw [e]; exact (letG_le β z 160 (i + 1) h).1
theorem okL_at {β : Nat → Int32} {z : Nat} {x : Rs} (h : okL β z x) : x.2.2.1 ≤ x.1 ∧ x.1 ≤ z := by
  rw [h.2.1]; exact nx_le β h.2.2
theorem okL_end {β : Nat → Int32} {z : Nat} {x : Rs} (h : okL β z x) (hz : z ≤ x.2.2.1) : x.2.1 = 0 := by
  rw [h.1]; unfold nxK; rw [if_neg (by omega)]
theorem okL_adv {β : Nat → Int32} {z : Nat} {x : Rs} (h : okL β z x) (ht : ¬ x.2.1 = 0) : x.2.2.1 < z ∧ x.2.2.1 + 1 ≤ x.1 := by
  have hl : x.2.2.1 < z := Nat.lt_of_not_le (fun q => ht (okL_end h q))
  exact ⟨hl, by rw [h.2.1]; exact nx_lt β hl⟩
theorem okL_nx {β : Nat → Int32} {z : Nat} {x : Rs} (h : x.1 ≤ z) : okL β z (nxR β z x) := ⟨rfl, rfl, (skpG_le β z 161 x.1 h).2⟩
theorem okL_nx2 {β : Nat → Int32} {z : Nat} {x : Rs} (h : okL β z x) : okL β z (nxR β z x) ∧ x.1 ≤ (nxR β z x).2.2.1 := ⟨okL_nx (okL_at h).2, (skpG_le β z 161 x.1 (okL_at h).2).1⟩
theorem okL_wr {β : Nat → Int32} {z : Nat} {x : Rs} (h : okL β z x) (c : Int32) : okL β z (wrR c x) := h
/-- what reads on -/
def moL (β : Nat → Int32) (z : Nat) (f : Rf) : Prop := ∀ x, okL β z x → okL β z (f x).2 ∧ x.2.2.1 ≤ (f x).2.2.2.1
theorem mo_nx {β : Nat → Int32} {z : Nat} {f : Rf} (hf : moL β z f) {x : Rs} (h : okL β z x) : okL β z (f (nxR β z x)).2 ∧ x.2.2.1 ≤ (f (nxR β z x)).2.2.2.1 ∧ (¬ x.2.1 = 0 → x.2.2.1 + 1 ≤ (f (nxR β z x)).2.2.2.1) := by
  obtain ⟨h1, h2⟩ := okL_nx2 h
  obtain ⟨h3, h4⟩ := hf _ h1
  have h5 := (okL_at h).1
  exact ⟨h3, by omega, fun ht => by have := (okL_adv h ht).2; omega⟩
theorem mo_tok {β : Nat → Int32} {z : Nat} {v : Int32} : moL β z (tokR β z v) := fun x h => by
  unfold tokR
  split
  · obtain ⟨h1, h2⟩ := okL_nx2 h
    exact ⟨h1, by have := (okL_at h).1; show x.2.2.1 ≤ (nxR β z x).2.2.1; omega⟩
  · exact ⟨h, Nat.le_refl _⟩
theorem mo_row0 {β : Nat → Int32} {z : Nat} {f : Rf} (hf : moL β z f) (op : Int32 → Option Int32) : ∀ (w : Nat) (r : Bool × Rs), okL β z r.2 → okL β z (rowR β z f op w r).2 ∧ r.2.2.2.1 ≤ (rowR β z f op w r).2.2.2.1
  | 0, r, h => ⟨h, Nat.le_refl _⟩
  | w + 1, r, h => by
    unfold rowR
    split
    · split
      · next c _ =>
        obtain ⟨h1, h2, _⟩ := mo_nx hf h
        obtain ⟨h3, h4⟩ := mo_row0 hf op w ((f (nxR β z r.2)).1, wrR c (f (nxR β z r.2)).2) h1
        exact ⟨h3, Nat.le_trans h2 h4⟩
      · exact ⟨h, Nat.le_refl _⟩
    · exact ⟨h, Nat.le_refl _⟩
theorem mo_row {β : Nat → Int32} {z : Nat} {f : Rf} (hf : moL β z f) (op : Int32 → Option Int32) (w : Nat) : moL β z (fun x => rowR β z f op w (f x)) := fun x h => by
  obtain ⟨h1, h2⟩ := hf x h
  obtain ⟨h3, h4⟩ := mo_row0 hf op w (f x) h1
  exact ⟨h3, Nat.le_trans h2 h4⟩
def moLo (β : Nat → Int32) (z : Nat) (lo : Rlo) : Prop := ∀ d, lo = some d → moL β z d.1 ∧ moL β z d.2.1 ∧ moL β z d.2.2
theorem mo_one {β : Nat → Int32} {z : Nat} {lo : Rlo} (h : moLo β z lo) : moL β z (oneR β z lo) := fun x hx => by
  have hn := okL_nx2 hx
  have ha := (okL_at hx).1
  unfold oneR
  split
  · exact ⟨okL_nx (okL_at hx).2, by show x.2.2.1 ≤ (nxR β z x).2.2.1; omega⟩
  · split
    · exact ⟨hx, Nat.le_refl _⟩
    · next d =>
      obtain ⟨h1, h2, h3⟩ := h d rfl
      split
      · obtain ⟨a1, a2, _⟩ := mo_nx h3 hx
        split
        · obtain ⟨b1, b2⟩ := mo_tok (v := 41) _ a1
          exact ⟨b1, Nat.le_trans a2 b2⟩
        · exact ⟨a1, a2⟩
      · split
        · obtain ⟨a1, a2, _⟩ := mo_nx h1 hx
          exact ⟨a1, a2⟩
        · exact ⟨hx, Nat.le_refl _⟩
theorem mo_term {β : Nat → Int32} {z : Nat} {lo : Rlo} (h : moLo β z lo) : moL β z (termR β z lo) := mo_row (mo_one h) _ _
theorem mo_sum {β : Nat → Int32} {z : Nat} {lo : Rlo} (h : moLo β z lo) : moL β z (sumR β z lo) := mo_row (mo_term h) _ _
theorem mo_not {β : Nat → Int32} {z : Nat} {lo : Rlo} (h : moLo β z lo) : moL β z (notR β z lo) := fun x hx => by
  obtain ⟨s1, s2⟩ := mo_sum h x hx
  unfold notR
  split
  · split
    · exact ⟨hx, Nat.le_refl _⟩
    · next d =>
      obtain ⟨a1, a2, _⟩ := mo_nx (h d rfl).2.1 hx
      exact ⟨a1, a2⟩
  · split
    · obtain ⟨a1, a2, _⟩ := mo_nx (mo_sum h) s1
      exact ⟨a1, Nat.le_trans s2 a2⟩
    · exact ⟨s1, s2⟩
theorem mo_and {β : Nat → Int32} {z : Nat} {lo : Rlo} (h : moLo β z lo) : moL β z (andR β z lo) := mo_row (mo_not h) _ _
theorem mo_or {β : Nat → Int32} {z : Nat} {lo : Rlo} (h : moLo β z lo) : moL β z (orR β z lo) := mo_row (mo_and h) _ _
theorem mo_lo (β : Nat → Int32) (z : Nat) : ∀ d, moLo β z (loR β z d)
  | 0 => fun d h => by cases h
  | d + 1 => fun e h => by
    have hd := mo_lo β z d
    cases h
    exact ⟨mo_one hd, mo_not hd, mo_or hd⟩
/-! the machine -/
def rkN (s : Nat) : Nat := if s = 0 then 0 else if s = 11 then 1 else if s = 12 then 2 else if s = 13 then 3 else if s ≤ 15 then 4 else if s ≤ 17 then 5 else if s = 18 then 6 else 7
def cdX (s : Nat) : Int32 := if s = 11 then -7 else if s = 12 then -8 else if s = 13 then -9 else if s = 14 then -13 else if s = 15 then -14 else if s = 16 then -15 else if s = 17 then -16 else if s = 18 then -17 else -18
def sgM (k : Int32) : Nat := if k = -7 then 11 else if k = -8 then 12 else if k = 60 then 14 else if k = 61 then 15 else if k = 43 then 16 else if k = 45 then 17 else if k = 42 then 18 else 0
def popU (r : Nat) : List Nat → Rs → List Nat × Rs
  | [], x => ([], x)
  | s :: H, x => if r ≤ rkN s then popU r H (wrR (cdX s) x) else (s :: H, x)
def opN : List Nat → Nat
  | [] => 0
  | s :: H => (if s = 0 ∨ s = 13 ∨ s = 19 then 1 else 0) + opN H
def topR : List Nat → Nat
  | [] => 0
  | s :: _ => rkN s
def wrA : List Nat → Rs → Rs
  | [], x => x
  | s :: P, x => wrA P (wrR (cdX s) x)
def nnC (x : Rs) : Int32 := if x.2.1 = 2 then x.2.2.2.1 else x.2.1
def mR (β : Nat → Int32) (z : Nat) : Nat → Bool → Bool → List Nat → Rs → Option (Bool × Rs)
  | 0, _, _, _, _ => none
  | f + 1, w, mn, H, x =>
    if w = true then
      if isNN x then mR β z f false false (popU 7 H (wrR (nnC x) x)).1 (nxR β z (popU 7 H (wrR (nnC x) x)).2)
      else if x.2.1 = -9 ∧ mn = true then (if opN H = 5 then some (false, x) else mR β z f true mn (13 :: H) (nxR β z x))
      else if x.2.1 = 45 then (if opN H = 5 then some (false, x) else mR β z f true false (19 :: H) (nxR β z x))
      else if x.2.1 = 40 then (if opN H = 5 then some (false, x) else mR β z f true true (0 :: H) (nxR β z x))
      else some (false, x)
    else if x.2.1 = 59 then (if (popU 1 H x).1 = [] then some (true, (popU 1 H x).2) else some (false, x))
    else if x.2.1 = 41 then (if (popU 1 H x).1 = [] then some (false, x) else mR β z f false false (popU 7 (popU 1 H x).1.tail (popU 1 H x).2).1 (nxR β z (popU 7 (popU 1 H x).1.tail (popU 1 H x).2).2))
    else if sgM x.2.1 = 0 then some (false, x)
    else if rkN (sgM x.2.1) = 4 ∧ topR (popU (if rkN (sgM x.2.1) = 4 then 5 else rkN (sgM x.2.1)) H x).1 = 4 then some (false, x)
    else mR β z f true (decide (sgM x.2.1 ≤ 12)) (sgM x.2.1 :: (popU (if rkN (sgM x.2.1) = 4 then 5 else rkN (sgM x.2.1)) H x).1) (nxR β z (popU (if rkN (sgM x.2.1) = 4 then 5 else rkN (sgM x.2.1)) H x).2)
/-! popping -/
theorem popU_nx (β : Nat → Int32) (z r : Nat) : ∀ (H : List Nat) (x : Rs), popU r H (nxR β z x) = ((popU r H x).1, nxR β z (popU r H x).2)
  | [], x => rfl
  | s :: H, x => by
    unfold popU
    by_cases h : r ≤ rkN s
    · rw [if_pos h, if_pos h]; exact popU_nx β z r H (wrR (cdX s) x)
    · rw [if_neg h, if_neg h]
theorem popU_stop {r : Nat} {H : List Nat} {x : Rs} (h : topR H < r) : popU r H x = (H, x) := by
  cases H with
  | nil => rfl
  | cons s H => unfold popU; rw [if_neg (by simp only [topR] at h; omega)]
theorem popU_app {r : Nat} : ∀ (P H : List Nat) (x : Rs), (∀ s ∈ P, r ≤ rkN s) → topR H < r → popU r (P ++ H) x = (H, wrA P x)
  | [], H, x, _, ht => popU_stop ht
  | s :: P, H, x, hp, ht => by
    show popU r (s :: (P ++ H)) x = _
    unfold popU
    rw [if_pos (hp s (by simp))]
    exact popU_app P H _ (fun q hq => hp q (by simp [hq])) ht
theorem popU_pre {r : Nat} : ∀ (P H : List Nat) (x : Rs), (∀ s ∈ P, r ≤ rkN s) → popU r (P ++ H) x = popU r H (wrA P x)
  | [], H, x, _ => rfl
  | s :: P, H, x, hp => by
    show popU r (s :: (P ++ H)) x = _
    rw [popU, if_pos (hp s (by simp))]
    exact popU_pre P H _ (fun q hq => hp q (by simp [hq]))
theorem wrA_app : ∀ (P Q : List Nat) (x : Rs), wrA (P ++ Q) x = wrA Q (wrA P x)
  | [], _, _ => rfl
  | s :: P, Q, x => wrA_app P Q (wrR (cdX s) x)
theorem wrA_fst : ∀ (P : List Nat) (x : Rs), (wrA P x).1 = x.1 ∧ (wrA P x).2.1 = x.2.1 ∧ (wrA P x).2.2.1 = x.2.2.1
  | [], _ => ⟨rfl, rfl, rfl⟩
  | s :: P, x => wrA_fst P (wrR (cdX s) x)
theorem popU_fst (r : Nat) : ∀ (H : List Nat) (x : Rs), (popU r H x).2.2.2.1 = x.2.2.1
  | [], _ => rfl
  | s :: H, x => by
    unfold popU
    split
    · exact popU_fst r H (wrR (cdX s) x)
    · rfl
/-! one state leads to another -/
def MGo (β : Nat → Int32) (z : Nat) (w mn : Bool) (H : List Nat) (x : Rs) (w2 mn2 : Bool) (H2 : List Nat) (x2 : Rs) : Prop := ∀ (R : Bool × Rs) (f : Nat), mR β z f w2 mn2 H2 x2 = some R → ∃ g, mR β z g w mn H x = some R
def MFa (β : Nat → Int32) (z : Nat) (w mn : Bool) (H : List Nat) (x : Rs) (t : Nat) : Prop := ∃ (f : Nat) (y : Rs), mR β z f w mn H x = some (false, y) ∧ y.2.2.1 = t
theorem MGo.trans {β : Nat → Int32} {z : Nat} {w mn : Bool} {H : List Nat} {x : Rs} {w2 mn2 : Bool} {H2 : List Nat} {x2 : Rs} {w3 mn3 : Bool} {H3 : List Nat} {x3 : Rs} (h : MGo β z w mn H x w2 mn2 H2 x2) (h' : MGo β z w2 mn2 H2 x2 w3 mn3 H3 x3) : MGo β z w mn H x w3 mn3 H3 x3 := fun R f hf => by
  obtain ⟨g, hg⟩ := h' R f hf
  exact h R g hg
theorem MGo.fails {β : Nat → Int32} {z : Nat} {w mn : Bool} {H : List Nat} {x : Rs} {w2 mn2 : Bool} {H2 : List Nat} {x2 : Rs} {t : Nat} (h : MGo β z w mn H x w2 mn2 H2 x2) (h' : MFa β z w2 mn2 H2 x2 t) : MFa β z w mn H x t := by
  obtain ⟨f, y, hf, ht⟩ := h'
  obtain ⟨g, hg⟩ := h _ f hf
  exact ⟨g, y, hg, ht⟩
section STEPS
variable {β : Nat → Int32} {z : Nat} {mn : Bool} {H : List Nat} {x : Rs}
theorem g_num (h : isNN x) : MGo β z true mn H x false false (popU 7 H (wrR (nnC x) x)).1 (nxR β z (popU 7 H (wrR (nnC x) x)).2) := fun R f hf => ⟨f + 1, by rw [mR, if_pos rfl, if_pos h]; exact hf⟩
theorem nn_9 (h : x.2.1 = -9) : ¬ isNN x := fun q => by rcases q with q | q <;> rw [h] at q <;> exact absurd q (by decide)
theorem nn_45 (h : x.2.1 = 45) : ¬ isNN x := fun q => by rcases q with q | q <;> rw [h] at q <;> exact absurd q (by decide)
theorem nn_40 (h : x.2.1 = 40) : ¬ isNN x := fun q => by rcases q with q | q <;> rw [h] at q <;> exact absurd q (by decide)
theorem g_not (h : x.2.1 = -9) (ho : ¬ opN H = 5) : MGo β z true true H x true true (13 :: H) (nxR β z x) := fun R f hf => ⟨f + 1, by rw [mR, if_pos rfl, if_neg (nn_9 h), if_pos ⟨h, rfl⟩, if_neg ho]; exact hf⟩
theorem g_neg (h : x.2.1 = 45) (ho : ¬ opN H = 5) : MGo β z true mn H x true false (19 :: H) (nxR β z x) := fun R f hf => ⟨f + 1, by rw [mR, if_pos rfl, if_neg (nn_45 h), if_neg (fun q => absurd (h.symm.trans q.1) (by decide)), if_pos h, if_neg ho]; exact hf⟩
theorem g_par (h : x.2.1 = 40) (ho : ¬ opN H = 5) : MGo β z true mn H x true true (0 :: H) (nxR β z x) := fun R f hf => ⟨f + 1, by rw [mR, if_pos rfl, if_neg (nn_40 h), if_neg (fun q => absurd (h.symm.trans q.1) (by decide)), if_neg (fun q => absurd (h.symm.trans q) (by decide)), if_pos h, if_neg ho]; exact hf⟩
theorem f_full (h : ¬ isNN x) (ho : opN H = 5) : MFa β z true mn H x x.2.2.1 := by
  refine ⟨1, x, ?_, rfl⟩
  rw [mR, if_pos rfl, if_neg h]
  by_cases h1 : x.2.1 = -9 ∧ mn = true
  · rw [if_pos h1, if_pos ho]
  · rw [if_neg h1]
    by_cases h2 : x.2.1 = 45
    · rw [if_pos h2, if_pos ho]
    · rw [if_neg h2]
      by_cases h3 : x.2.1 = 40
      · rw [if_pos h3, if_pos ho]
      · rw [if_neg h3]
theorem f_els (h : ¬ isNN x) (h9 : mn = true → ¬ x.2.1 = -9) (h1 : ¬ x.2.1 = 45) (h2 : ¬ x.2.1 = 40) : MFa β z true mn H x x.2.2.1 := by
  refine ⟨1, x, ?_, rfl⟩
  rw [mR, if_pos rfl, if_neg h, if_neg (fun q => h9 q.2 q.1), if_neg h1, if_neg h2]
theorem g_close {P K : List Nat} {s : Nat} (h : x.2.1 = 41) (hp : ∀ s ∈ P, 1 ≤ rkN s) : MGo β z false mn (P ++ 0 :: K) x false false (popU 7 K (wrA P x)).1 (nxR β z (popU 7 K (wrA P x)).2) := fun R f hf => ⟨f + 1, by
  have e := popU_app (r := 1) P (0 :: K) x hp (show rkN 0 < 1 by decide)
  rw [mR, if_neg (by decide), if_neg (fun q => absurd (h.symm.trans q) (by decide)), if_pos h, e, if_neg (by simp)]; exact hf⟩
theorem f_close {P : List Nat} (h : x.2.1 = 41) (hp : ∀ s ∈ P, 1 ≤ rkN s) : MFa β z false mn P x x.2.2.1 := by
  have e := popU_app (r := 1) P [] x hp (by decide)
  rw [List.append_nil] at e
  refine ⟨1, x, ?_, rfl⟩
  rw [mR, if_neg (by decide), if_neg (fun q => absurd (h.symm.trans q) (by decide)), if_pos h, e, if_pos rfl]
theorem g_done {P : List Nat} (h : x.2.1 = 59) (hp : ∀ s ∈ P, 1 ≤ rkN s) : mR β z 1 false mn P x = some (true, wrA P x) := by
  have e := popU_app (r := 1) P [] x hp (by decide)
  rw [List.append_nil] at e
  rw [mR, if_neg (by decide), if_pos h, e, if_pos rfl]
theorem f_done {P K : List Nat} (h : x.2.1 = 59) (hp : ∀ s ∈ P, 1 ≤ rkN s) : MFa β z false mn (P ++ 0 :: K) x x.2.2.1 := by
  have e := popU_app (r := 1) P (0 :: K) x hp (show rkN 0 < 1 by decide)
  refine ⟨1, x, ?_, rfl⟩
  rw [mR, if_neg (by decide), if_pos h, e, if_neg (by simp)]
theorem f_none (h1 : ¬ x.2.1 = 59) (h2 : ¬ x.2.1 = 41) (h3 : sgM x.2.1 = 0) : MFa β z false mn H x x.2.2.1 := by
  refine ⟨1, x, ?_, rfl⟩
  rw [mR, if_neg (by decide), if_neg h1, if_neg h2, if_pos h3]
theorem f_cmp {A B : List Nat} {s : Nat} (h : x.2.1 = 60 ∨ x.2.1 = 61) (hA : ∀ s ∈ A, 5 ≤ rkN s) (hs : rkN s = 4) : MFa β z false mn (A ++ s :: B) x x.2.2.1 := by
  have e := popU_app (r := 5) A (s :: B) x hA (by simp only [topR]; omega)
  have hk : rkN (sgM x.2.1) = 4 ∧ ¬ sgM x.2.1 = 0 := by rcases h with h | h <;> rw [h] <;> decide
  refine ⟨1, x, ?_, rfl⟩
  rw [mR, if_neg (by decide), if_neg (by rcases h with h | h <;> rw [h] <;> decide), if_neg (by rcases h with h | h <;> rw [h] <;> decide), if_neg hk.2, if_pos hk.1, e, if_pos ⟨hk.1, hs⟩]
theorem g_op {P K : List Nat} {s : Nat} (h : sgM x.2.1 = s) (hs : s ≠ 0) (h4 : rkN s ≠ 4) (hp : ∀ q ∈ P, rkN s ≤ rkN q) (ht : topR K < rkN s) : MGo β z false mn (P ++ K) x true (decide (s ≤ 12)) (s :: K) (nxR β z (wrA P x)) := fun R f hf => ⟨f + 1, by
  have e := popU_app (r := rkN s) P K x hp ht
  have h59 : ¬ x.2.1 = 59 := fun q => hs (by rw [← h, q]; rfl)
  have h41 : ¬ x.2.1 = 41 := fun q => hs (by rw [← h, q]; rfl)
  rw [mR, if_neg (by decide), if_neg h59, if_neg h41, h, if_neg hs, if_neg h4, e, if_neg (fun q => h4 q.1)]; exact hf⟩
theorem g_cmp {P K : List Nat} {s : Nat} (h : sgM x.2.1 = s) (hs : s = 14 ∨ s = 15) (hp : ∀ q ∈ P, 5 ≤ rkN q) (ht : topR K < 4) : MGo β z false mn (P ++ K) x true false (s :: K) (nxR β z (wrA P x)) := fun R f hf => ⟨f + 1, by
  have e := popU_app (r := 5) P K x hp (by omega)
  have hk : rkN s = 4 ∧ ¬ s = 0 ∧ decide (s ≤ 12) = false := by rcases hs with rfl | rfl <;> decide
  have h59 : ¬ x.2.1 = 59 := fun q => hk.2.1 (by rw [← h, q]; rfl)
  have h41 : ¬ x.2.1 = 41 := fun q => hk.2.1 (by rw [← h, q]; rfl)
  rw [mR, if_neg (by decide), if_neg h59, if_neg h41, h, if_neg hk.2.1, if_pos hk.1, e, if_neg (fun q => by have := q.2; simp only at this; omega), hk.2.2]; exact hf⟩
end STEPS
/-! levels -/
def CF (P : List Nat) (k : Int32) : Prop := (k = 60 ∨ k = 61) → ∃ A s B, P = A ++ s :: B ∧ (∀ q ∈ A, 5 ≤ rkN q) ∧ rkN s = 4
theorem CF.app {P : List Nat} {k : Int32} (h : CF P k) (Q : List Nat) : CF (P ++ Q) k := fun hk => by
  obtain ⟨A, s, B, e, h1, h2⟩ := h hk
  exact ⟨A, s, B ++ Q, by rw [e, List.append_assoc]; rfl, h1, h2⟩
/-- a level of the first reader, as the second one goes through it: d opens left, the sign held before it binds by tp at most, its own by r at least -/
def LvR (β : Nat → Int32) (z d tp r : Nat) (mc : Bool → Int32 → Prop) (NF : List Nat → Int32 → Prop) (f : Rf) : Prop :=
  ∀ (H : List Nat) (x : Rs) (mn : Bool), okL β z x → topR H ≤ tp → opN H + d = 5 → mc mn x.2.1 →
    ((f x).1 = true → ∃ (P : List Nat) (y : Rs), (∀ s ∈ P, r ≤ rkN s) ∧ wrA P y = (f x).2 ∧ MGo β z true mn H x false false (P ++ H) y ∧ NF P (f x).2.2.1) ∧
    ((f x).1 = false → MFa β z true mn H x (f x).2.2.2.1)
theorem row_lv {β : Nat → Int32} {z d tp tr r ρ : Nat} {mc : Bool → Int32 → Prop} {NF : List Nat → Int32 → Prop} {f : Rf} {op : Int32 → Option Int32} (hz1 : z ≤ 160) (hf : LvR β z d tp r mc NF f) (hm : moL β z f) (hNF : ∀ P Q k, NF P k → NF (P ++ Q) k)
    (hop : ∀ k c, op k = some c → ¬ k = 0 ∧ ∃ s, sgM k = s ∧ s ≠ 0 ∧ rkN s = ρ ∧ cdX s = c ∧ (∀ K, opN (s :: K) = opN K) ∧ ∀ t, mc (decide (s ≤ 12)) t) (h4 : ρ ≠ 4) (h1 : tr < ρ) (h2 : ρ ≤ tp) (h3 : ρ ≤ r) :
    LvR β z d tr ρ mc (fun P k => NF P k ∧ op k = none) (fun x => rowR β z f op 160 (f x)) := by
  intro H x mn hx hH hd hmc
  have key : ∀ (w : Nat) (R : Bool × Rs) (P : List Nat) (y : Rs), okL β z R.2 → z ≤ w + R.2.2.2.1 → R.1 = true → (∀ s ∈ P, ρ ≤ rkN s) → wrA P y = R.2 → MGo β z true mn H x false false (P ++ H) y → NF P R.2.2.1 →
      ((rowR β z f op w R).1 = true → ∃ (P : List Nat) (y : Rs), (∀ s ∈ P, ρ ≤ rkN s) ∧ wrA P y = (rowR β z f op w R).2 ∧ MGo β z true mn H x false false (P ++ H) y ∧ NF P (rowR β z f op w R).2.2.1 ∧ op (rowR β z f op w R).2.2.1 = none) ∧ ((rowR β z f op w R).1 = false → MFa β z true mn H x (rowR β z f op w R).2.2.2.1) := by
    intro w
    induction w with
    | zero =>
      intro R P y hR hw ht hP hwr hg hn
      rw [row_0]
      refine ⟨fun _ => ⟨P, y, hP, hwr, hg, hn, ?_⟩, fun q => absurd (ht.symm.trans q) (by decide)⟩
      have e0 := okL_end hR (by omega)
      cases ho : op R.2.2.1 with
      | none => rfl
      | some c => exact absurd e0 (hop _ _ ho).1
    | succ w ih =>
      intro R P y hR hw ht hP hwr hg hn
      cases ho : op R.2.2.1 with
      | none =>
        rw [row_n ho]
        exact ⟨fun _ => ⟨P, y, hP, hwr, hg, hn, ho⟩, fun q => absurd (ht.symm.trans q) (by decide)⟩
      | some c =>
        obtain ⟨h0, s, e1, e2, e3, e4, e5, e6⟩ := hop _ _ ho
        rw [row_s ht ho]
        obtain ⟨a1, a2, a3⟩ := mo_nx hm hR
        have a3 := a3 h0
        have hty : y.2.1 = R.2.2.1 := by rw [← hwr]; exact (wrA_fst P y).2.1.symm
        have g1 := g_op (β := β) (z := z) (mn := false) (P := P) (K := H) (x := y) (s := s) (by rw [hty]; exact e1) e2 (by rw [e3]; exact h4) (fun q hq => by rw [e3]; exact hP q hq) (by rw [e3]; omega)
        rw [hwr] at g1
        obtain ⟨b1, b2⟩ := hf (s :: H) (nxR β z R.2) (decide (s ≤ 12)) (okL_nx2 hR).1 (by simp only [topR]; omega) (by rw [e5]; exact hd) (e6 _)
        cases hfr : (f (nxR β z R.2)).1 with
        | false =>
          rw [row_f rfl]
          exact ⟨fun q => ft q, fun _ => (hg.trans g1).fails (b2 hfr)⟩
        | true =>
          obtain ⟨P', y', c1, c2, c3, c4⟩ := b1 hfr
          refine ih (true, wrR c (f (nxR β z R.2)).2) (P' ++ [s]) y' a1 ?_ rfl (fun q hq => ?_) ?_ ?_ (hNF _ _ _ c4)
          · show z ≤ w + (f (nxR β z R.2)).2.2.2.1
            omega
          · rcases List.mem_append.mp hq with hq | hq
            · have := c1 q hq; omega
            · rw [List.mem_singleton] at hq; rw [hq, e3]; exact Nat.le_refl _
          · rw [wrA_app, c2, ← e4]; rfl
          · rw [List.append_assoc]; exact (hg.trans g1).trans c3
  obtain ⟨m1, m2⟩ := hm x hx
  obtain ⟨f1, f2⟩ := hf H x mn hx (by omega) hd hmc
  show ((rowR β z f op 160 (f x)).1 = true → ∃ (P : List Nat) (y : Rs), (∀ s ∈ P, ρ ≤ rkN s) ∧ wrA P y = (rowR β z f op 160 (f x)).2 ∧ MGo β z true mn H x false false (P ++ H) y ∧ NF P (rowR β z f op 160 (f x)).2.2.1 ∧ op (rowR β z f op 160 (f x)).2.2.1 = none) ∧ ((rowR β z f op 160 (f x)).1 = false → MFa β z true mn H x (rowR β z f op 160 (f x)).2.2.2.1)
  cases hfx : (f x).1 with
  | false =>
    rw [row_f hfx]
    exact ⟨fun q => absurd (hfx.symm.trans q) (by decide), fun _ => f2 hfx⟩
  | true =>
    obtain ⟨P, y, c1, c2, c3, c4⟩ := f1 hfx
    exact key 160 (f x) P y m1 (by omega) hfx (fun s hs => by have := c1 s hs; omega) c2 c3 c4
def mcS (mn : Bool) (k : Int32) : Prop := mn = true → ¬ k = -9
def mcN (mn : Bool) (_ : Int32) : Prop := mn = true
abbrev NFt : List Nat → Int32 → Prop := fun _ k => True ∧ isOp 42 (-17) k = none
abbrev NFs : List Nat → Int32 → Prop := fun P k => NFt P k ∧ sumOp k = none
abbrev NFn : List Nat → Int32 → Prop := fun P k => NFs P k ∧ CF P k
abbrev NFa : List Nat → Int32 → Prop := fun P k => NFn P k ∧ isOp (-8) (-8) k = none
abbrev NFo : List Nat → Int32 → Prop := fun P k => NFa P k ∧ isOp (-7) (-7) k = none
theorem isOp_some {a b k c : Int32} (h : isOp a b k = some c) : k = a ∧ b = c := by
  unfold isOp at h
  by_cases q : k = a
  · rw [if_pos q] at h; exact ⟨q, Option.some.inj h⟩
  · rw [if_neg q] at h; cases h
theorem isOp_none {a b k : Int32} (h : isOp a b k = none) : ¬ k = a := fun q => by
  unfold isOp at h; rw [if_pos q] at h; cases h
theorem sumOp_none {k : Int32} (h : sumOp k = none) : ¬ k = 43 ∧ ¬ k = 45 := by
  unfold sumOp at h
  by_cases q : k = 43
  · rw [if_pos q] at h; cases h
  · rw [if_neg q] at h
    by_cases q2 : k = 45
    · rw [if_pos q2] at h; cases h
    · exact ⟨q, q2⟩
theorem opN_op {s : Nat} (h : s = 11 ∨ s = 12 ∨ s = 14 ∨ s = 15 ∨ s = 16 ∨ s = 17 ∨ s = 18) (K : List Nat) : opN (s :: K) = opN K := by
  show (if s = 0 ∨ s = 13 ∨ s = 19 then 1 else 0) + opN K = opN K
  rw [if_neg (by omega), Nat.zero_add]
theorem opN_un {s : Nat} (h : s = 0 ∨ s = 13 ∨ s = 19) (K : List Nat) : opN (s :: K) = 1 + opN K := by
  show (if s = 0 ∨ s = 13 ∨ s = 19 then 1 else 0) + opN K = 1 + opN K
  rw [if_pos h]
/-- a one, before anything held -/
def OnR (β : Nat → Int32) (z d : Nat) (f : Rf) : Prop :=
  ∀ (H : List Nat) (x : Rs) (mn : Bool), okL β z x → opN H + d = 5 → mcS mn x.2.1 →
    ((f x).1 = true → MGo β z true mn H x false false (popU 7 H (f x).2).1 (popU 7 H (f x).2).2) ∧ ((f x).1 = false → MFa β z true mn H x (f x).2.2.2.1)
theorem on_lv {β : Nat → Int32} {z d : Nat} {f : Rf} (h : OnR β z d f) : LvR β z d 6 6 mcS (fun _ _ => True) f := by
  intro H x mn hx hH hd hmc
  obtain ⟨h1, h2⟩ := h H x mn hx hd hmc
  refine ⟨fun hf => ⟨[], (f x).2, (fun s hs => by cases hs), rfl, ?_, trivial⟩, h2⟩
  have := h1 hf
  rw [popU_stop (by omega)] at this
  exact this
section LEVELS
variable {β : Nat → Int32} {z d : Nat} {lo : Rlo}
theorem lv_term (hz1 : z ≤ 160) (hl : moLo β z lo) (h : OnR β z d (oneR β z lo)) : LvR β z d 5 6 mcS NFt (termR β z lo) :=
  row_lv hz1 (on_lv h) (mo_one hl) (fun _ _ _ h => h) (fun k c hk => by
    obtain ⟨rfl, rfl⟩ := isOp_some hk
    exact ⟨by decide, 18, by decide, by decide, by decide, by decide, opN_op (by omega), fun t => by intro q; exact absurd q (by decide)⟩) (by decide) (by decide) (by decide) (by decide)
theorem lv_sum (hz1 : z ≤ 160) (hl : moLo β z lo) (h : OnR β z d (oneR β z lo)) : LvR β z d 4 5 mcS NFs (sumR β z lo) :=
  row_lv hz1 (lv_term hz1 hl h) (mo_term hl) (fun _ _ _ h => h) (fun k c hk => by
    unfold sumOp at hk
    by_cases q : k = 43
    · rw [if_pos q] at hk; obtain rfl := Option.some.inj hk; subst q
      exact ⟨by decide, 16, by decide, by decide, by decide, by decide, opN_op (by omega), fun t => by intro q; exact absurd q (by decide)⟩
    · rw [if_neg q] at hk
      by_cases q2 : k = 45
      · rw [if_pos q2] at hk; obtain rfl := Option.some.inj hk; subst q2
        exact ⟨by decide, 17, by decide, by decide, by decide, by decide, opN_op (by omega), fun t => by intro q; exact absurd q (by decide)⟩
      · rw [if_neg q2] at hk; cases hk) (by decide) (by decide) (by decide) (by decide)
theorem not_els {x : Rs} (h9 : ¬ x.2.1 = -9) (h : ¬ ((sumR β z lo x).1 = true ∧ ((sumR β z lo x).2.2.1 = 60 ∨ (sumR β z lo x).2.2.1 = 61))) : notR β z lo x = sumR β z lo x := by
  unfold notR; rw [if_neg h9, if_neg h]
theorem not_cmp {x : Rs} (h9 : ¬ x.2.1 = -9) (h : (sumR β z lo x).1 = true ∧ ((sumR β z lo x).2.2.1 = 60 ∨ (sumR β z lo x).2.2.1 = 61)) : notR β z lo x = ((sumR β z lo (nxR β z (sumR β z lo x).2)).1, wrR (if (sumR β z lo x).2.2.1 = 60 then -13 else -14) (sumR β z lo (nxR β z (sumR β z lo x).2)).2) := by
  unfold notR; rw [if_neg h9, if_pos h]
theorem lv_not (hz1 : z ≤ 160) (hl : moLo β z lo) (h : OnR β z d (oneR β z lo)) (h0 : d = 0 → lo = none) (hs : ∀ e, d = e + 1 → ∃ q : Rf × Rf × Rf, lo = some q ∧ LvR β z e 3 3 mcN NFn q.2.1) : LvR β z d 3 3 mcN NFn (notR β z lo) := by
  intro H x mn hx hH hd hmc
  have hmn : mn = true := hmc
  subst hmn
  have hS := lv_sum hz1 hl h
  by_cases h9 : x.2.1 = -9
  · rcases Nat.eq_zero_or_pos d with e0 | e0
    · have hn : notR β z lo x = (false, x) := by unfold notR; rw [if_pos h9, h0 e0]
      rw [hn]
      exact ⟨fun q => ft q, fun _ => f_full (nn_9 h9) (by omega)⟩
    · obtain ⟨e, rfl⟩ : ∃ e, d = e + 1 := ⟨d - 1, by omega⟩
      obtain ⟨q, hq, hL⟩ := hs e rfl
      have hn : notR β z lo x = ((q.2.1 (nxR β z x)).1, wrR (-9) (q.2.1 (nxR β z x)).2) := by unfold notR; rw [if_pos h9, hq]
      rw [hn]
      have g1 := g_not (β := β) (z := z) (H := H) h9 (by omega)
      obtain ⟨b1, b2⟩ := hL (13 :: H) (nxR β z x) true (okL_nx2 hx).1 (by show rkN 13 ≤ 3; decide) (by rw [opN_un (by omega)]; omega) rfl
      refine ⟨fun hf => ?_, fun hf => g1.fails (b2 hf)⟩
      obtain ⟨P, y, c1, c2, c3, c4⟩ := b1 hf
      refine ⟨P ++ [13], y, fun s hs => ?_, by rw [wrA_app, c2]; rfl, by rw [List.append_assoc]; exact g1.trans c3, c4.1, c4.2.app _⟩
      rcases List.mem_append.mp hs with hs | hs
      · exact c1 s hs
      · rw [List.mem_singleton] at hs; rw [hs]; decide
  · obtain ⟨a1, a2⟩ := hS H x true hx (by omega) hd (fun _ => h9)
    by_cases hc : (sumR β z lo x).1 = true ∧ ((sumR β z lo x).2.2.1 = 60 ∨ (sumR β z lo x).2.2.1 = 61)
    · rw [not_cmp h9 hc]
      obtain ⟨P, y, c1, c2, c3, c4⟩ := a1 hc.1
      have hty : y.2.1 = (sumR β z lo x).2.2.1 := by rw [← c2]; exact (wrA_fst P y).2.1.symm
      obtain ⟨s, hsg, hs2, hcd⟩ : ∃ s, sgM (sumR β z lo x).2.2.1 = s ∧ (s = 14 ∨ s = 15) ∧ cdX s = (if (sumR β z lo x).2.2.1 = 60 then -13 else -14) := by
        rcases hc.2 with e | e
        · rw [e]; exact ⟨14, by decide, Or.inl rfl, by decide⟩
        · rw [e]; exact ⟨15, by decide, Or.inr rfl, by decide⟩
      have hk : rkN s = 4 := by rcases hs2 with rfl | rfl <;> decide
      have g1 := g_cmp (β := β) (z := z) (mn := false) (P := P) (K := H) (x := y) (s := s) (by rw [hty]; exact hsg) hs2 c1 (by omega)
      rw [c2] at g1
      have m1 := (mo_sum hl x hx).1
      obtain ⟨b1, b2⟩ := hS (s :: H) (nxR β z (sumR β z lo x).2) false (okL_nx2 m1).1 (by simp only [topR]; omega) (by rw [opN_op (by omega)]; exact hd) (fun q => ft q)
      refine ⟨fun hf => ?_, fun hf => (c3.trans g1).fails (b2 hf)⟩
      obtain ⟨P', y', d1, d2, d3, d4⟩ := b1 hf
      refine ⟨P' ++ [s], y', fun q hq => ?_, by rw [wrA_app, d2, ← hcd]; rfl, by rw [List.append_assoc]; exact (c3.trans g1).trans d3, d4, fun _ => ⟨P', s, [], rfl, d1, hk⟩⟩
      rcases List.mem_append.mp hq with hq | hq
      · have := d1 q hq; omega
      · rw [List.mem_singleton] at hq; rw [hq, hk]; decide
    · rw [not_els h9 hc]
      refine ⟨fun hf => ?_, a2⟩
      obtain ⟨P, y, c1, c2, c3, c4⟩ := a1 hf
      exact ⟨P, y, fun s hs => by have := c1 s hs; omega, c2, c3, c4, fun hk => absurd ⟨hf, hk⟩ hc⟩
theorem lv_and (hz1 : z ≤ 160) (hl : moLo β z lo) (h : LvR β z d 3 3 mcN NFn (notR β z lo)) : LvR β z d 1 2 mcN NFa (andR β z lo) :=
  row_lv hz1 h (mo_not hl) (fun _ Q _ h => ⟨h.1, h.2.app Q⟩) (fun k c hk => by
    obtain ⟨rfl, rfl⟩ := isOp_some hk
    exact ⟨by decide, 12, by decide, by decide, by decide, by decide, opN_op (by omega), fun t => rfl⟩) (by decide) (by decide) (by decide) (by decide)
theorem lv_or (hz1 : z ≤ 160) (hl : moLo β z lo) (h : LvR β z d 1 2 mcN NFa (andR β z lo)) : LvR β z d 0 1 mcN NFo (orR β z lo) :=
  row_lv hz1 h (mo_and hl) (fun _ Q _ h => ⟨⟨h.1.1, h.1.2.app Q⟩, h.2⟩) (fun k c hk => by
    obtain ⟨rfl, rfl⟩ := isOp_some hk
    exact ⟨by decide, 11, by decide, by decide, by decide, by decide, opN_op (by omega), fun t => rfl⟩) (by decide) (by decide) (by decide) (by decide)
/-- what no row takes, and no end: a fault -/
theorem f_stop {P K : List Nat} {k : Int32} {x : Rs} (hk : x.2.1 = k) (h : NFo P k) (h1 : ¬ k = 59) (h2 : ¬ k = 41) : MFa β z false false (P ++ K) x x.2.2.1 := by
  obtain ⟨⟨⟨⟨⟨_, n1⟩, n2⟩, n3⟩, n4⟩, n5⟩ := h
  by_cases hc : k = 60 ∨ k = 61
  · obtain ⟨A, s, B, e, a1, a2⟩ := n3 hc
    rw [e, List.append_assoc]
    exact f_cmp (by rw [hk]; exact hc) a1 a2
  · refine f_none (by rw [hk]; exact h1) (by rw [hk]; exact h2) ?_
    rw [hk]
    unfold sgM
    rw [if_neg (isOp_none n5), if_neg (isOp_none n4), if_neg (fun q => hc (Or.inl q)), if_neg (fun q => hc (Or.inr q)), if_neg (sumOp_none n2).1, if_neg (sumOp_none n2).2, if_neg (isOp_none n1)]
theorem on_one (h0 : d = 0 → lo = none) (hs : ∀ e, d = e + 1 → ∃ q : Rf × Rf × Rf, lo = some q ∧ OnR β z e q.1 ∧ LvR β z e 0 1 mcN NFo q.2.2) (hl : moLo β z lo) : OnR β z d (oneR β z lo) := by
  intro H x mn hx hd hmc
  by_cases hn : isNN x
  · have e : oneR β z lo x = (true, nxR β z (wrR (nnC x) x)) := if_pos hn
    rw [e]
    refine ⟨fun _ => ?_, fun q => ft (Eq.symm q)⟩
    rw [popU_nx]
    exact g_num hn
  · rcases Nat.eq_zero_or_pos d with e0 | e0
    · rw [h0 e0, one_none hn]
      exact ⟨fun q => ft q, fun _ => f_full hn (by omega)⟩
    · obtain ⟨e, rfl⟩ : ∃ e, d = e + 1 := ⟨d - 1, by omega⟩
      obtain ⟨q, hq, hO, hR⟩ := hs e rfl
      by_cases h40 : x.2.1 = 40
      · have g1 := g_par (β := β) (z := z) (mn := mn) (H := H) h40 (by omega)
        obtain ⟨b1, b2⟩ := hR (0 :: H) (nxR β z x) true (okL_nx2 hx).1 (by show rkN 0 ≤ 0; decide) (by rw [opN_un (by omega)]; omega) rfl
        cases hor : (q.2.2 (nxR β z x)).1 with
        | false =>
          rw [one_par0 hn hq h40 hor]
          exact ⟨fun w => absurd (hor.symm.trans w) (by decide), fun _ => g1.fails (b2 hor)⟩
        | true =>
          rw [one_par1 hn hq h40 hor]
          obtain ⟨P, y, c1, c2, c3, c4⟩ := b1 hor
          obtain ⟨w1, w2, w3⟩ := wrA_fst P y
          rw [c2] at w1 w2 w3
          unfold tokR
          by_cases h41 : (q.2.2 (nxR β z x)).2.2.1 = 41
          · rw [if_pos h41]
            refine ⟨fun _ => ?_, fun w => ft (Eq.symm w)⟩
            rw [popU_nx]
            have g2 := g_close (β := β) (z := z) (mn := false) (P := P) (K := H) (s := 0) (x := y) (w2.symm.trans h41) c1
            rw [c2] at g2
            exact (g1.trans c3).trans g2
          · rw [if_neg h41]
            refine ⟨fun w => ft w, fun _ => (g1.trans c3).fails ?_⟩
            show MFa β z false false (P ++ 0 :: H) y (q.2.2 (nxR β z x)).2.2.2.1
            rw [w3]
            by_cases h59 : (q.2.2 (nxR β z x)).2.2.1 = 59
            · exact f_done (w2.symm.trans h59) c1
            · exact f_stop w2.symm c4 h59 h41
      · by_cases h45 : x.2.1 = 45
        · rw [one_min hn hq h40 h45]
          have g1 := g_neg (β := β) (z := z) (mn := mn) (H := H) h45 (by omega)
          obtain ⟨b1, b2⟩ := hO (19 :: H) (nxR β z x) false (okL_nx2 hx).1 (by rw [opN_un (by omega)]; omega) (fun w => ft w)
          refine ⟨fun hf => ?_, fun hf => g1.fails (b2 hf)⟩
          have g2 := b1 hf
          have e19 : popU 7 (19 :: H) (q.1 (nxR β z x)).2 = popU 7 H (wrR (-18) (q.1 (nxR β z x)).2) := if_pos (by decide)
          rw [e19] at g2
          exact g1.trans g2
        · rw [one_els hn h40 h45]
          exact ⟨fun w => ft w, fun _ => f_els hn hmc h45 h40⟩
end LEVELS
/-- all levels -/
theorem lv_all (β : Nat → Int32) {z : Nat} (hz1 : z ≤ 160) : ∀ d, OnR β z d (oneR β z (loR β z d)) ∧ LvR β z d 3 3 mcN NFn (notR β z (loR β z d)) ∧ LvR β z d 0 1 mcN NFo (orR β z (loR β z d))
  | 0 => by
    have hl := mo_lo β z 0
    have h1 := on_one (β := β) (z := z) (d := 0) (lo := loR β z 0) (fun _ => rfl) (fun e h => absurd h (by omega)) hl
    have h2 := lv_not hz1 hl h1 (fun _ => rfl) (fun e h => absurd h (by omega))
    exact ⟨h1, h2, lv_or hz1 hl (lv_and hz1 hl h2)⟩
  | d + 1 => by
    obtain ⟨i1, i2, i3⟩ := lv_all β hz1 d
    have hl := mo_lo β z (d + 1)
    have h1 := on_one (β := β) (z := z) (d := d + 1) (lo := loR β z (d + 1)) (fun h => absurd h (by omega)) (fun e h => by obtain rfl : d = e := (by omega); exact ⟨_, rfl, i1, i3⟩) hl
    have h2 := lv_not hz1 hl h1 (fun h => absurd h (by omega)) (fun e h => by obtain rfl : d = e := (by omega); exact ⟨_, rfl, i2⟩)
    exact ⟨h1, h2, lv_or hz1 hl (lv_and hz1 hl h2)⟩
/-- an expression up to its ';' -/
theorem m_read (β : Nat → Int32) {z : Nat} (hz1 : z ≤ 160) {x : Rs} (hx : okL β z x) : ∃ f y, mR β z f true true [] x = some (((orR β z (loR β z 5) x).1 && decide ((orR β z (loR β z 5) x).2.2.1 = 59)), y) ∧ y.2.2.1 = (orR β z (loR β z 5) x).2.2.2.1 ∧ ((orR β z (loR β z 5) x).1 = true → (orR β z (loR β z 5) x).2.2.1 = 59 → y = (orR β z (loR β z 5) x).2) := by
  obtain ⟨b1, b2⟩ := (lv_all β hz1 5).2.2 [] x true hx (Nat.zero_le _) rfl rfl
  cases hor : (orR β z (loR β z 5) x).1 with
  | false =>
    obtain ⟨f, y, hf, ht⟩ := b2 hor
    exact ⟨f, y, by rw [hf, Bool.false_and], ht, fun q => ft q⟩
  | true =>
    obtain ⟨P, y, c1, c2, c3, c4⟩ := b1 hor
    obtain ⟨w1, w2, w3⟩ := wrA_fst P y
    rw [c2] at w1 w2 w3
    rw [List.append_nil] at c3
    by_cases h59 : (orR β z (loR β z 5) x).2.2.1 = 59
    · obtain ⟨g, hg⟩ := c3 _ 1 (g_done (w2.symm.trans h59) c1)
      exact ⟨g, wrA P y, by rw [hg, h59]; rfl, by rw [c2], fun _ _ => c2⟩
    · have hF : MFa β z false false P y y.2.2.1 := by
        by_cases h41 : (orR β z (loR β z 5) x).2.2.1 = 41
        · exact f_close (w2.symm.trans h41) c1
        · have := f_stop (β := β) (z := z) (K := []) w2.symm c4 h59 h41
          rw [List.append_nil] at this
          exact this
      obtain ⟨f, v, hf, ht⟩ := c3.fails hF
      exact ⟨f, v, by rw [hf, decide_eq_false h59]; rfl, ht.trans w3.symm, fun _ q => absurd q h59⟩
