/-! ===== the start ===== -/
theorem GW.keep {D : va_G} {tys : List (ClassId × FieldType)} {N N2 : Nat} {ad ad2 : Nat → Nat} {f : Nat → va_E} {A : Nat → Prop} {s : State} {H0 H H1 : Heap} {locs locs1 : List Loc} (hW : GW D tys N ad f A s H0 H locs) (hk : ∀ x : Nat, x < H.size → ¬ gw_A N2 ad2 H.size x → H1[x]? = H[x]?) (hap : ∀ i j, i < N2 → j < N → ad2 i ≠ ad j) (hS : va_S A H0 H1 locs1) : GW D tys N ad f A s H0 H1 locs1 := by
  refine ⟨hW.1.kept (fun k q hq => ?_), hW.2.1, hW.2.2.1, hS, hW.2.2.2.2⟩
  have hl := (hW.1 k q hq).lt
  obtain ⟨hkN, rfl⟩ := gw_inv hq
  refine hk _ hl (fun z => ?_)
  rcases z with ⟨o, ho, e⟩ | z
  · exact hap o k ho hkN e.symm
  · exact absurd hl (Nat.not_lt.mpr z)
theorem lw_split {D : va_G} {tys : List (ClassId × FieldType)} {w1 w2 : va_W} {A : Nat → Prop} {s : State} {H0 H : Heap} {locs : List Loc} (hW : LWd D tys (w1 ++ w2) A s H0 H locs) : LWd D tys w1 A s H0 H locs ∧ LWd D tys w2 A s H0 H locs ∧ ∀ (i j : Nat) (x y : Nat × va_E), w1[i]? = some x → w2[j]? = some y → x.1 ≠ y.1 := by
  have e1 : ∀ (i : Nat) (x : Nat × va_E), w1[i]? = some x → (w1 ++ w2)[i]? = some x := fun i x hx => by
    have hl := (List.getElem?_eq_some_iff.mp hx).1
    rw [List.getElem?_append_left hl]; exact hx
  have e2 : ∀ (i : Nat) (x : Nat × va_E), w2[i]? = some x → (w1 ++ w2)[w1.length + i]? = some x := fun i x hx => by
    rw [List.getElem?_append_right (by omega), show w1.length + i - w1.length = i by omega]; exact hx
  obtain ⟨hP, hK, hD, hS, hA⟩ := hW
  refine ⟨⟨fun k q hq => hP k q (e1 k q hq), hK, ⟨fun i j x z hi hj he => hD.1 i j x z (e1 i x hi) (e1 j z hj) he, fun k x hk => hD.2 k x (e1 k x hk)⟩, hS, hA⟩, ⟨fun k q hq => hP _ q (e2 k q hq), hK, ⟨fun i j x z hi hj he => ?_, fun k x hk => hD.2 _ x (e2 k x hk)⟩, hS, hA⟩, fun i j x y hi hj he => ?_⟩
  · have := hD.1 _ _ x z (e2 i x hi) (e2 j z hj) he
    omega
  · have := hD.1 _ _ x y (e1 i x hi) (e2 j y hj) he
    have hl := (List.getElem?_eq_some_iff.mp hi).1
    omega
def zz3 : Nat → Nat → Nat → Int32 := fun _ _ _ => 0
def stτ : Nat → Nat → Nat → Int32 := fun _ row => if row = 0 then upd (upd (upd (fun _ => 0) 0 99) 1 1) 2 1 else if row = 1 then upd (upd (upd (upd (fun _ => 0) 0 0) 1 1) 2 2) 3 3 else fun k => if k = 1 then 3 else 0
def stσ : Nat → Nat → Int32 := fun o => if o = 0 then (fun k => if k = 4 then 1 else 0) else if o < 34 then (fun _ => 0) else if o < 38 then (fun k => if k = 1 then -1 else 0) else fun _ => 0
def stP : List Nat := [0, 1, 2, 3, 4, 5, 6, 7, 8, 12, 13, 14, 15, 16, 17, 18, 19, 20, 21, 22, 23, 24, 25, 26, 27, 28, 29, 30, 31, 32, 33, 34, 35, 36, 37, 39, 41, 43, 38, 40, 42, 44, 11, 9, 10]
theorem stP_inj : ∀ i, i < 45 → ∀ j, j < 45 → stP.getD i 0 = stP.getD j 0 → i = j := by decide +kernel
set_option maxHeartbeats 4000000 in
set_option maxRecDepth 100000 in
theorem x_start {D : va_G} {A : Nat → Prop} {s : State} {H0 H : Heap} {locs : List Loc} {h0 q_1 q_2 q_4 q_5 q_6 q_8 q_9 q_11 q_14 q_16 q_13 q_18 q_19 q_20 q_21 q_22 q_23 q_24 q_25 q_27 q_28 q_29 q_30 q_31 q_32 q_33 q_34 q_36 q_37 q_38 q_39 q_40 q_41 q_42 q_43 q_45 q_48 q_49 q_52 q_53 q_56 q_57 q_60 q_61 : Nat} {c_3 cA_12 c_26 cA_46 : ClassId} (hW : LWd D [(c_3, .int), (c_26, .object RX0), (cA_12, .object RX6), (cA_46, .object RX3)] [(h0, .inr (7, [.ref q_1, .ref q_4, .ref q_8, .ref q_11, .int 1, .ref q_18, .ref q_27, .ref q_36, .int 0, .ref q_45])), (q_1, .inr (5, [.ref q_2, .int 0, .int 0, .int 0, .int 0, .int 0])), (q_2, .inl (c_3, 160, .inl (fun _ => 0))), (q_4, .inr (2, [.ref q_1, .ref q_5, .ref q_6, .int 0])), (q_5, .inl (c_3, 160, .inl (fun _ => 0))), (q_6, .inl (c_3, 4, .inl (fun _ => 0))), (q_8, .inr (1, [.ref q_9, .int 0])), (q_9, .inl (c_3, 64, .inl (fun _ => 0))), (q_11, .inl (cA_12, 6, .inr (.inr (.inr (.inr (va_up (fun _ => none) 0 (some q_13))))))), (q_14, .inl (c_3, 3, .inl (upd (upd (upd (fun _ => 0) 0 99) 1 1) 2 1))), (q_16, .inl (c_3, 4, .inl (upd (upd (upd (upd (fun _ => 0) 0 0) 1 1) 2 2) 3 3))), (q_13, .inr (6, [.int 0, .ref q_14, .ref q_16, .ref q_8])), (q_18, .inr (4, [.ref q_19, .int 0, .int 0, .ref q_13])), (q_19, .inl (c_26, 6, .inr (.inr (.inr (.inr (va_up (va_up (va_up (va_up (va_up (va_up (fun _ => none) 0 (some q_20)) 1 (some q_21)) 2 (some q_22)) 3 (some q_23)) 4 (some q_24)) 5 (some q_25))))))), (q_20, .inr (0, [.int 0, .int 0, .int 0, .int 0, .int 0, .int 0, .int 0])), (q_21, .inr (0, [.int 0, .int 0, .int 0, .int 0, .int 0, .int 0, .int 0])), (q_22, .inr (0, [.int 0, .int 0, .int 0, .int 0, .int 0, .int 0, .int 0])), (q_23, .inr (0, [.int 0, .int 0, .int 0, .int 0, .int 0, .int 0, .int 0])), (q_24, .inr (0, [.int 0, .int 0, .int 0, .int 0, .int 0, .int 0, .int 0])), (q_25, .inr (0, [.int 0, .int 0, .int 0, .int 0, .int 0, .int 0, .int 0])), (q_27, .inr (4, [.ref q_28, .int 0, .int 0, .ref q_13])), (q_28, .inl (c_26, 6, .inr (.inr (.inr (.inr (va_up (va_up (va_up (va_up (va_up (va_up (fun _ => none) 0 (some q_29)) 1 (some q_30)) 2 (some q_31)) 3 (some q_32)) 4 (some q_33)) 5 (some q_34))))))), (q_29, .inr (0, [.int 0, .int 0, .int 0, .int 0, .int 0, .int 0, .int 0])), (q_30, .inr (0, [.int 0, .int 0, .int 0, .int 0, .int 0, .int 0, .int 0])), (q_31, .inr (0, [.int 0, .int 0, .int 0, .int 0, .int 0, .int 0, .int 0])), (q_32, .inr (0, [.int 0, .int 0, .int 0, .int 0, .int 0, .int 0, .int 0])), (q_33, .inr (0, [.int 0, .int 0, .int 0, .int 0, .int 0, .int 0, .int 0])), (q_34, .inr (0, [.int 0, .int 0, .int 0, .int 0, .int 0, .int 0, .int 0])), (q_36, .inr (4, [.ref q_37, .int 0, .int 0, .ref q_13])), (q_37, .inl (c_26, 6, .inr (.inr (.inr (.inr (va_up (va_up (va_up (va_up (va_up (va_up (fun _ => none) 0 (some q_38)) 1 (some q_39)) 2 (some q_40)) 3 (some q_41)) 4 (some q_42)) 5 (some q_43))))))), (q_38, .inr (0, [.int 0, .int 0, .int 0, .int 0, .int 0, .int 0, .int 0])), (q_39, .inr (0, [.int 0, .int 0, .int 0, .int 0, .int 0, .int 0, .int 0])), (q_40, .inr (0, [.int 0, .int 0, .int 0, .int 0, .int 0, .int 0, .int 0])), (q_41, .inr (0, [.int 0, .int 0, .int 0, .int 0, .int 0, .int 0, .int 0])), (q_42, .inr (0, [.int 0, .int 0, .int 0, .int 0, .int 0, .int 0, .int 0])), (q_43, .inr (0, [.int 0, .int 0, .int 0, .int 0, .int 0, .int 0, .int 0])), (q_45, .inl (cA_46, 4, .inr (.inr (.inr (.inr (va_up (va_up (va_up (va_up (fun _ => none) 0 (some q_48)) 1 (some q_52)) 2 (some q_56)) 3 (some q_60))))))), (q_48, .inr (3, [.ref q_49, .int (-1), .int 0])), (q_49, .inl (c_3, 40, .inl (fun _ => 0))), (q_52, .inr (3, [.ref q_53, .int (-1), .int 0])), (q_53, .inl (c_3, 40, .inl (fun _ => 0))), (q_56, .inr (3, [.ref q_57, .int (-1), .int 0])), (q_57, .inl (c_3, 40, .inl (fun _ => 0))), (q_60, .inr (3, [.ref q_61, .int (-1), .int 0])), (q_61, .inl (c_3, 40, .inl (fun _ => 0)))] A s H0 H locs) : ∃ (ad : Nat → Nat) (cs : Nat → ClassId), ad 0 = h0 ∧ (∀ k, k < 45 → ∃ e, ([(h0, .inr (7, [.ref q_1, .ref q_4, .ref q_8, .ref q_11, .int 1, .ref q_18, .ref q_27, .ref q_36, .int 0, .ref q_45])), (q_1, .inr (5, [.ref q_2, .int 0, .int 0, .int 0, .int 0, .int 0])), (q_2, .inl (c_3, 160, .inl (fun _ => 0))), (q_4, .inr (2, [.ref q_1, .ref q_5, .ref q_6, .int 0])), (q_5, .inl (c_3, 160, .inl (fun _ => 0))), (q_6, .inl (c_3, 4, .inl (fun _ => 0))), (q_8, .inr (1, [.ref q_9, .int 0])), (q_9, .inl (c_3, 64, .inl (fun _ => 0))), (q_11, .inl (cA_12, 6, .inr (.inr (.inr (.inr (va_up (fun _ => none) 0 (some q_13))))))), (q_14, .inl (c_3, 3, .inl (upd (upd (upd (fun _ => 0) 0 99) 1 1) 2 1))), (q_16, .inl (c_3, 4, .inl (upd (upd (upd (upd (fun _ => 0) 0 0) 1 1) 2 2) 3 3))), (q_13, .inr (6, [.int 0, .ref q_14, .ref q_16, .ref q_8])), (q_18, .inr (4, [.ref q_19, .int 0, .int 0, .ref q_13])), (q_19, .inl (c_26, 6, .inr (.inr (.inr (.inr (va_up (va_up (va_up (va_up (va_up (va_up (fun _ => none) 0 (some q_20)) 1 (some q_21)) 2 (some q_22)) 3 (some q_23)) 4 (some q_24)) 5 (some q_25))))))), (q_20, .inr (0, [.int 0, .int 0, .int 0, .int 0, .int 0, .int 0, .int 0])), (q_21, .inr (0, [.int 0, .int 0, .int 0, .int 0, .int 0, .int 0, .int 0])), (q_22, .inr (0, [.int 0, .int 0, .int 0, .int 0, .int 0, .int 0, .int 0])), (q_23, .inr (0, [.int 0, .int 0, .int 0, .int 0, .int 0, .int 0, .int 0])), (q_24, .inr (0, [.int 0, .int 0, .int 0, .int 0, .int 0, .int 0, .int 0])), (q_25, .inr (0, [.int 0, .int 0, .int 0, .int 0, .int 0, .int 0, .int 0])), (q_27, .inr (4, [.ref q_28, .int 0, .int 0, .ref q_13])), (q_28, .inl (c_26, 6, .inr (.inr (.inr (.inr (va_up (va_up (va_up (va_up (va_up (va_up (fun _ => none) 0 (some q_29)) 1 (some q_30)) 2 (some q_31)) 3 (some q_32)) 4 (some q_33)) 5 (some q_34))))))), (q_29, .inr (0, [.int 0, .int 0, .int 0, .int 0, .int 0, .int 0, .int 0])), (q_30, .inr (0, [.int 0, .int 0, .int 0, .int 0, .int 0, .int 0, .int 0])), (q_31, .inr (0, [.int 0, .int 0, .int 0, .int 0, .int 0, .int 0, .int 0])), (q_32, .inr (0, [.int 0, .int 0, .int 0, .int 0, .int 0, .int 0, .int 0])), (q_33, .inr (0, [.int 0, .int 0, .int 0, .int 0, .int 0, .int 0, .int 0])), (q_34, .inr (0, [.int 0, .int 0, .int 0, .int 0, .int 0, .int 0, .int 0])), (q_36, .inr (4, [.ref q_37, .int 0, .int 0, .ref q_13])), (q_37, .inl (c_26, 6, .inr (.inr (.inr (.inr (va_up (va_up (va_up (va_up (va_up (va_up (fun _ => none) 0 (some q_38)) 1 (some q_39)) 2 (some q_40)) 3 (some q_41)) 4 (some q_42)) 5 (some q_43))))))), (q_38, .inr (0, [.int 0, .int 0, .int 0, .int 0, .int 0, .int 0, .int 0])), (q_39, .inr (0, [.int 0, .int 0, .int 0, .int 0, .int 0, .int 0, .int 0])), (q_40, .inr (0, [.int 0, .int 0, .int 0, .int 0, .int 0, .int 0, .int 0])), (q_41, .inr (0, [.int 0, .int 0, .int 0, .int 0, .int 0, .int 0, .int 0])), (q_42, .inr (0, [.int 0, .int 0, .int 0, .int 0, .int 0, .int 0, .int 0])), (q_43, .inr (0, [.int 0, .int 0, .int 0, .int 0, .int 0, .int 0, .int 0])), (q_45, .inl (cA_46, 4, .inr (.inr (.inr (.inr (va_up (va_up (va_up (va_up (fun _ => none) 0 (some q_48)) 1 (some q_52)) 2 (some q_56)) 3 (some q_60))))))), (q_48, .inr (3, [.ref q_49, .int (-1), .int 0])), (q_49, .inl (c_3, 40, .inl (fun _ => 0))), (q_52, .inr (3, [.ref q_53, .int (-1), .int 0])), (q_53, .inl (c_3, 40, .inl (fun _ => 0))), (q_56, .inr (3, [.ref q_57, .int (-1), .int 0])), (q_57, .inl (c_3, 40, .inl (fun _ => 0))), (q_60, .inr (3, [.ref q_61, .int (-1), .int 0])), (q_61, .inl (c_3, 40, .inl (fun _ => 0)))] : va_W)[stP.getD k 0]? = some (ad k, e)) ∧ XW D cs ad 1 zz2 zz3 stτ stσ A s H0 H locs := by
  obtain ⟨ad, had⟩ : ∃ z : Nat → Nat, z = fun k => ([h0, q_1, q_2, q_4, q_5, q_6, q_8, q_9, q_11, q_18, q_19, q_20, q_21, q_22, q_23, q_24, q_25, q_27, q_28, q_29, q_30, q_31, q_32, q_33, q_34, q_36, q_37, q_38, q_39, q_40, q_41, q_42, q_43, q_45, q_48, q_52, q_56, q_60, q_49, q_53, q_57, q_61, q_13, q_14, q_16] : List Nat).getD k 0 := ⟨_, rfl⟩
  obtain ⟨cs, hcs⟩ : ∃ z : Nat → ClassId, z = fun k => if k = 0 then c_3 else if k = 1 then c_26 else if k = 2 then cA_12 else cA_46 := ⟨_, rfl⟩
  have key : ∀ k, k < 45 → ∃ e, ([(h0, .inr (7, [.ref q_1, .ref q_4, .ref q_8, .ref q_11, .int 1, .ref q_18, .ref q_27, .ref q_36, .int 0, .ref q_45])), (q_1, .inr (5, [.ref q_2, .int 0, .int 0, .int 0, .int 0, .int 0])), (q_2, .inl (c_3, 160, .inl (fun _ => 0))), (q_4, .inr (2, [.ref q_1, .ref q_5, .ref q_6, .int 0])), (q_5, .inl (c_3, 160, .inl (fun _ => 0))), (q_6, .inl (c_3, 4, .inl (fun _ => 0))), (q_8, .inr (1, [.ref q_9, .int 0])), (q_9, .inl (c_3, 64, .inl (fun _ => 0))), (q_11, .inl (cA_12, 6, .inr (.inr (.inr (.inr (va_up (fun _ => none) 0 (some q_13))))))), (q_14, .inl (c_3, 3, .inl (upd (upd (upd (fun _ => 0) 0 99) 1 1) 2 1))), (q_16, .inl (c_3, 4, .inl (upd (upd (upd (upd (fun _ => 0) 0 0) 1 1) 2 2) 3 3))), (q_13, .inr (6, [.int 0, .ref q_14, .ref q_16, .ref q_8])), (q_18, .inr (4, [.ref q_19, .int 0, .int 0, .ref q_13])), (q_19, .inl (c_26, 6, .inr (.inr (.inr (.inr (va_up (va_up (va_up (va_up (va_up (va_up (fun _ => none) 0 (some q_20)) 1 (some q_21)) 2 (some q_22)) 3 (some q_23)) 4 (some q_24)) 5 (some q_25))))))), (q_20, .inr (0, [.int 0, .int 0, .int 0, .int 0, .int 0, .int 0, .int 0])), (q_21, .inr (0, [.int 0, .int 0, .int 0, .int 0, .int 0, .int 0, .int 0])), (q_22, .inr (0, [.int 0, .int 0, .int 0, .int 0, .int 0, .int 0, .int 0])), (q_23, .inr (0, [.int 0, .int 0, .int 0, .int 0, .int 0, .int 0, .int 0])), (q_24, .inr (0, [.int 0, .int 0, .int 0, .int 0, .int 0, .int 0, .int 0])), (q_25, .inr (0, [.int 0, .int 0, .int 0, .int 0, .int 0, .int 0, .int 0])), (q_27, .inr (4, [.ref q_28, .int 0, .int 0, .ref q_13])), (q_28, .inl (c_26, 6, .inr (.inr (.inr (.inr (va_up (va_up (va_up (va_up (va_up (va_up (fun _ => none) 0 (some q_29)) 1 (some q_30)) 2 (some q_31)) 3 (some q_32)) 4 (some q_33)) 5 (some q_34))))))), (q_29, .inr (0, [.int 0, .int 0, .int 0, .int 0, .int 0, .int 0, .int 0])), (q_30, .inr (0, [.int 0, .int 0, .int 0, .int 0, .int 0, .int 0, .int 0])), (q_31, .inr (0, [.int 0, .int 0, .int 0, .int 0, .int 0, .int 0, .int 0])), (q_32, .inr (0, [.int 0, .int 0, .int 0, .int 0, .int 0, .int 0, .int 0])), (q_33, .inr (0, [.int 0, .int 0, .int 0, .int 0, .int 0, .int 0, .int 0])), (q_34, .inr (0, [.int 0, .int 0, .int 0, .int 0, .int 0, .int 0, .int 0])), (q_36, .inr (4, [.ref q_37, .int 0, .int 0, .ref q_13])), (q_37, .inl (c_26, 6, .inr (.inr (.inr (.inr (va_up (va_up (va_up (va_up (va_up (va_up (fun _ => none) 0 (some q_38)) 1 (some q_39)) 2 (some q_40)) 3 (some q_41)) 4 (some q_42)) 5 (some q_43))))))), (q_38, .inr (0, [.int 0, .int 0, .int 0, .int 0, .int 0, .int 0, .int 0])), (q_39, .inr (0, [.int 0, .int 0, .int 0, .int 0, .int 0, .int 0, .int 0])), (q_40, .inr (0, [.int 0, .int 0, .int 0, .int 0, .int 0, .int 0, .int 0])), (q_41, .inr (0, [.int 0, .int 0, .int 0, .int 0, .int 0, .int 0, .int 0])), (q_42, .inr (0, [.int 0, .int 0, .int 0, .int 0, .int 0, .int 0, .int 0])), (q_43, .inr (0, [.int 0, .int 0, .int 0, .int 0, .int 0, .int 0, .int 0])), (q_45, .inl (cA_46, 4, .inr (.inr (.inr (.inr (va_up (va_up (va_up (va_up (fun _ => none) 0 (some q_48)) 1 (some q_52)) 2 (some q_56)) 3 (some q_60))))))), (q_48, .inr (3, [.ref q_49, .int (-1), .int 0])), (q_49, .inl (c_3, 40, .inl (fun _ => 0))), (q_52, .inr (3, [.ref q_53, .int (-1), .int 0])), (q_53, .inl (c_3, 40, .inl (fun _ => 0))), (q_56, .inr (3, [.ref q_57, .int (-1), .int 0])), (q_57, .inl (c_3, 40, .inl (fun _ => 0))), (q_60, .inr (3, [.ref q_61, .int (-1), .int 0])), (q_61, .inl (c_3, 40, .inl (fun _ => 0)))] : va_W)[stP.getD k 0]? = some (ad k, e) ∧ va_same e (xent ad cs 1 zz2 zz3 stτ stσ k) := by
    subst had; subst hcs; intro k hk
    rcases k with _ | _ | _ | _ | _ | _ | _ | _ | _ | _ | _ | _ | _ | _ | _ | _ | _ | _ | _ | _ | _ | _ | _ | _ | _ | _ | _ | _ | _ | _ | _ | _ | _ | _ | _ | _ | _ | _ | _ | _ | _ | _ | _ | _ | _ | k
    · exact ⟨_, rfl, va_same.rf rfl⟩
    · exact ⟨_, rfl, va_same.rf rfl⟩
    · exact ⟨_, rfl, va_same.rf rfl⟩
    · exact ⟨_, rfl, va_same.rf rfl⟩
    · exact ⟨_, rfl, va_same.rf rfl⟩
    · exact ⟨_, rfl, va_same.rf rfl⟩
    · exact ⟨_, rfl, va_same.rf rfl⟩
    · exact ⟨_, rfl, va_same.rf rfl⟩
    · exact ⟨_, rfl, va_same.refs (fun i hi => by rcases i with _ | _ | _ | _ | _ | _ | i <;> first | rfl | omega)⟩
    · exact ⟨_, rfl, va_same.rf rfl⟩
    · exact ⟨_, rfl, va_same.refs (fun i hi => by rcases i with _ | _ | _ | _ | _ | _ | i <;> first | rfl | omega)⟩
    · exact ⟨_, rfl, va_same.rf rfl⟩
    · exact ⟨_, rfl, va_same.rf rfl⟩
    · exact ⟨_, rfl, va_same.rf rfl⟩
    · exact ⟨_, rfl, va_same.rf rfl⟩
    · exact ⟨_, rfl, va_same.rf rfl⟩
    · exact ⟨_, rfl, va_same.rf rfl⟩
    · exact ⟨_, rfl, va_same.rf rfl⟩
    · exact ⟨_, rfl, va_same.refs (fun i hi => by rcases i with _ | _ | _ | _ | _ | _ | i <;> first | rfl | omega)⟩
    · exact ⟨_, rfl, va_same.rf rfl⟩
    · exact ⟨_, rfl, va_same.rf rfl⟩
    · exact ⟨_, rfl, va_same.rf rfl⟩
    · exact ⟨_, rfl, va_same.rf rfl⟩
    · exact ⟨_, rfl, va_same.rf rfl⟩
    · exact ⟨_, rfl, va_same.rf rfl⟩
    · exact ⟨_, rfl, va_same.rf rfl⟩
    · exact ⟨_, rfl, va_same.refs (fun i hi => by rcases i with _ | _ | _ | _ | _ | _ | i <;> first | rfl | omega)⟩
    · exact ⟨_, rfl, va_same.rf rfl⟩
    · exact ⟨_, rfl, va_same.rf rfl⟩
    · exact ⟨_, rfl, va_same.rf rfl⟩
    · exact ⟨_, rfl, va_same.rf rfl⟩
    · exact ⟨_, rfl, va_same.rf rfl⟩
    · exact ⟨_, rfl, va_same.rf rfl⟩
    · exact ⟨_, rfl, va_same.refs (fun i hi => by rcases i with _ | _ | _ | _ | i <;> first | rfl | omega)⟩
    · exact ⟨_, rfl, va_same.rf rfl⟩
    · exact ⟨_, rfl, va_same.rf rfl⟩
    · exact ⟨_, rfl, va_same.rf rfl⟩
    · exact ⟨_, rfl, va_same.rf rfl⟩
    · exact ⟨_, rfl, va_same.rf rfl⟩
    · exact ⟨_, rfl, va_same.rf rfl⟩
    · exact ⟨_, rfl, va_same.rf rfl⟩
    · exact ⟨_, rfl, va_same.rf rfl⟩
    · exact ⟨_, rfl, va_same.rf rfl⟩
    · exact ⟨_, rfl, va_same.rf rfl⟩
    · exact ⟨_, rfl, va_same.rf rfl⟩
    · omega
  have hW2 : LWd D (xtys cs) [(h0, .inr (7, [.ref q_1, .ref q_4, .ref q_8, .ref q_11, .int 1, .ref q_18, .ref q_27, .ref q_36, .int 0, .ref q_45])), (q_1, .inr (5, [.ref q_2, .int 0, .int 0, .int 0, .int 0, .int 0])), (q_2, .inl (c_3, 160, .inl (fun _ => 0))), (q_4, .inr (2, [.ref q_1, .ref q_5, .ref q_6, .int 0])), (q_5, .inl (c_3, 160, .inl (fun _ => 0))), (q_6, .inl (c_3, 4, .inl (fun _ => 0))), (q_8, .inr (1, [.ref q_9, .int 0])), (q_9, .inl (c_3, 64, .inl (fun _ => 0))), (q_11, .inl (cA_12, 6, .inr (.inr (.inr (.inr (va_up (fun _ => none) 0 (some q_13))))))), (q_14, .inl (c_3, 3, .inl (upd (upd (upd (fun _ => 0) 0 99) 1 1) 2 1))), (q_16, .inl (c_3, 4, .inl (upd (upd (upd (upd (fun _ => 0) 0 0) 1 1) 2 2) 3 3))), (q_13, .inr (6, [.int 0, .ref q_14, .ref q_16, .ref q_8])), (q_18, .inr (4, [.ref q_19, .int 0, .int 0, .ref q_13])), (q_19, .inl (c_26, 6, .inr (.inr (.inr (.inr (va_up (va_up (va_up (va_up (va_up (va_up (fun _ => none) 0 (some q_20)) 1 (some q_21)) 2 (some q_22)) 3 (some q_23)) 4 (some q_24)) 5 (some q_25))))))), (q_20, .inr (0, [.int 0, .int 0, .int 0, .int 0, .int 0, .int 0, .int 0])), (q_21, .inr (0, [.int 0, .int 0, .int 0, .int 0, .int 0, .int 0, .int 0])), (q_22, .inr (0, [.int 0, .int 0, .int 0, .int 0, .int 0, .int 0, .int 0])), (q_23, .inr (0, [.int 0, .int 0, .int 0, .int 0, .int 0, .int 0, .int 0])), (q_24, .inr (0, [.int 0, .int 0, .int 0, .int 0, .int 0, .int 0, .int 0])), (q_25, .inr (0, [.int 0, .int 0, .int 0, .int 0, .int 0, .int 0, .int 0])), (q_27, .inr (4, [.ref q_28, .int 0, .int 0, .ref q_13])), (q_28, .inl (c_26, 6, .inr (.inr (.inr (.inr (va_up (va_up (va_up (va_up (va_up (va_up (fun _ => none) 0 (some q_29)) 1 (some q_30)) 2 (some q_31)) 3 (some q_32)) 4 (some q_33)) 5 (some q_34))))))), (q_29, .inr (0, [.int 0, .int 0, .int 0, .int 0, .int 0, .int 0, .int 0])), (q_30, .inr (0, [.int 0, .int 0, .int 0, .int 0, .int 0, .int 0, .int 0])), (q_31, .inr (0, [.int 0, .int 0, .int 0, .int 0, .int 0, .int 0, .int 0])), (q_32, .inr (0, [.int 0, .int 0, .int 0, .int 0, .int 0, .int 0, .int 0])), (q_33, .inr (0, [.int 0, .int 0, .int 0, .int 0, .int 0, .int 0, .int 0])), (q_34, .inr (0, [.int 0, .int 0, .int 0, .int 0, .int 0, .int 0, .int 0])), (q_36, .inr (4, [.ref q_37, .int 0, .int 0, .ref q_13])), (q_37, .inl (c_26, 6, .inr (.inr (.inr (.inr (va_up (va_up (va_up (va_up (va_up (va_up (fun _ => none) 0 (some q_38)) 1 (some q_39)) 2 (some q_40)) 3 (some q_41)) 4 (some q_42)) 5 (some q_43))))))), (q_38, .inr (0, [.int 0, .int 0, .int 0, .int 0, .int 0, .int 0, .int 0])), (q_39, .inr (0, [.int 0, .int 0, .int 0, .int 0, .int 0, .int 0, .int 0])), (q_40, .inr (0, [.int 0, .int 0, .int 0, .int 0, .int 0, .int 0, .int 0])), (q_41, .inr (0, [.int 0, .int 0, .int 0, .int 0, .int 0, .int 0, .int 0])), (q_42, .inr (0, [.int 0, .int 0, .int 0, .int 0, .int 0, .int 0, .int 0])), (q_43, .inr (0, [.int 0, .int 0, .int 0, .int 0, .int 0, .int 0, .int 0])), (q_45, .inl (cA_46, 4, .inr (.inr (.inr (.inr (va_up (va_up (va_up (va_up (fun _ => none) 0 (some q_48)) 1 (some q_52)) 2 (some q_56)) 3 (some q_60))))))), (q_48, .inr (3, [.ref q_49, .int (-1), .int 0])), (q_49, .inl (c_3, 40, .inl (fun _ => 0))), (q_52, .inr (3, [.ref q_53, .int (-1), .int 0])), (q_53, .inl (c_3, 40, .inl (fun _ => 0))), (q_56, .inr (3, [.ref q_57, .int (-1), .int 0])), (q_57, .inl (c_3, 40, .inl (fun _ => 0))), (q_60, .inr (3, [.ref q_61, .int (-1), .int 0])), (q_61, .inl (c_3, 40, .inl (fun _ => 0)))] A s H0 H locs := by subst hcs; exact hW
  exact ⟨ad, cs, by rw [had]; rfl, fun k hk => (key k hk).imp (fun e h => h.1), lw_perm (N := 42 + 3 * 1) hW2 (fun k => stP.getD k 0) (fun i j hi hj he => stP_inj i hi j hj he) key⟩
theorem st_Lx : ∀ pt, pt < 3 → xLx 1 stτ 0 pt = [([99, 1, 1] : List Int32).getD pt 0] := by decide +kernel
theorem st_tau : (stτ 0 2 1).toNatClampNeg ≤ 160 ∧ (∀ i, i < 4 → stτ 0 1 i = nI (stN stτ 0 i) ∧ stN stτ 0 i ≤ (stτ 0 2 1).toNatClampNeg) ∧ (∀ i, i < 3 → stN stτ 0 i ≤ stN stτ 0 (i + 1)) ∧ ∀ pt, pt < 3 → runD (xLd stτ 0 (stN stτ 0 pt) (stN stτ 0 (pt + 1))) 0 = some 1 := by decide +kernel
theorem st_okT : okT 1 (zz3 0) := ⟨by decide, by decide, by decide, by decide, fun q hq => absurd hq (by rw [show seatsN (zz3 0) = 0 from by decide]; exact Nat.not_lt_zero q)⟩
theorem st_runs : ∀ pt, pt < 3 → runD [([99, 1, 1] : List Int32).getD pt 0] 0 = some 1 := by decide +kernel
theorem st_codes : ∀ pt, pt < 3 → ∃ j, j < 10000 ∧ ([99, 1, 1] : List Int32).getD pt 0 = nI j := fun pt h => by
  rcases (show pt = 0 ∨ pt = 1 ∨ pt = 2 by omega) with rfl | rfl | rfl
  · exact ⟨99, by decide, rfl⟩
  · exact ⟨1, by decide, rfl⟩
  · exact ⟨1, by decide, rfl⟩
/-- both sides, made -/
theorem sim_0 {σM : Nat → Nat → Int32} (h : M0P σM) : SIM 1 0 (zz3 0) (zz3 2) stτ stσ zz2 σM := by
  obtain ⟨h9, h6, h11, hwd, hst, hcd, hsh, hc⟩ := h
  have hm : ∀ k, k < 4 → mst σM 0 k = k := fun k hk => by
    unfold mst
    rw [Nat.mul_zero, Nat.zero_add, hst k hk]
    exact nI_clamp (by omega)
  refine ⟨⟨by decide, by decide, st_okT, fun t ht => ?_, rfl, fun t ht => ?_, fun j hj => ?_, by decide, ⟨0, by decide, rfl⟩⟩, EqT.rf, ⟨⟨by decide, fun t ht => ?_⟩, h9, hwd⟩, ⟨Nat.zero_le _, rfl, h6, fun j hj => absurd hj (Nat.not_lt_zero j)⟩, fun j hj => ?_, Or.inl ⟨rfl, h11⟩⟩
  · obtain rfl : t = 0 := by omega
    exact st_tau
  · obtain rfl : t = 0 := by omega
    rfl
  · refine ⟨0, by decide, ?_⟩
    rcases (show j = 0 ∨ j = 1 ∨ j = 2 ∨ j = 3 by omega) with rfl | rfl | rfl | rfl <;> rfl
  · obtain rfl : t = 0 := by omega
    refine ⟨fun k hk => ?_, fun k hk => ?_, fun pt hpt => ?_⟩
    · rw [hm k hk, Nat.mul_zero, Nat.zero_add]; exact ⟨hst k hk, by omega⟩
    · rw [hm k (by omega), hm (k + 1) (by omega)]; omega
    · rw [st_Lx pt hpt, hm pt (by omega), hm (pt + 1) (by omega)]
      refine ⟨by show 1 = pt + 1 - pt; omega, fun j hj => ?_, st_runs pt hpt, fun c hc => ?_⟩
      · have hj : j < 1 := hj
        obtain rfl : j = 0 := by omega
        rw [Nat.mul_zero, Nat.zero_add, Nat.add_zero]
        exact hcd pt hpt
      · rw [List.mem_singleton] at hc
        rw [hc]; exact Or.inl (st_codes pt hpt)
  · obtain ⟨a, b⟩ := hsh j hj
    rcases (show j = 0 ∨ j = 1 ∨ j = 2 ∨ j = 3 by omega) with rfl | rfl | rfl | rfl
    all_goals exact ⟨a.symm, b.symm, fun k _ => (hc _).symm⟩
