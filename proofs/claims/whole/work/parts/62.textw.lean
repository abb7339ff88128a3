/-! ===== text(), walked ===== -/
def XT (n : Nat) (ad : Nat → Nat) (sz : Nat) (adK adV : Nat → Nat) : State → Prop := fun U => XS n ad sz adK adV U ∧ CT U
theorem XT_E {n : Nat} {ad : Nat → Nat} {sz : Nat} {adK adV : Nat → Nat} : gw_E (XT n ad sz adK adV) := fun U g mk a h => ⟨XS_E U g mk a h.1, h.2⟩
/-- what text() leaves: how many texts, addresses, tables, texts, all else -/
abbrev TxU : Type := Nat × (Nat → Nat) × (Nat → Nat → Nat → Int32) × (Nat → Nat → Nat → Int32) × (Nat → Nat → Int32)
def txA (σ : Nat → Nat → Int32) (n' : Nat) (σ' : Nat → Nat → Int32) : Prop := σ' 0 4 = nI n' ∧ (∀ k, k ≠ 4 → σ' 0 k = σ 0 k) ∧ σ' 1 1 = 0 ∧ σ' 2 = σ 2 ∧ ∀ o, 33 ≤ o → σ' o = σ o
/-- the code that was read -/
def txL (σ : Nat → Nat → Int32) (z : Nat) : List Int32 := (thR (σ 2) z (σ 1 5) 3).2.2.2.2.2
def txN (n : Nat) (ad : Nat → Nat) (TT τ : Nat → Nat → Nat → Int32) (σ : Nat → Nat → Int32) (z : Nat) (u : TxU) : Prop :=
  u.1 = n + 1 ∧ u.2.2.1 0 = TT 0 ∧ u.2.2.1 2 = TT 2 ∧ (∀ t, t < n → u.2.2.2.1 t = τ t) ∧ u.2.2.2.1 n 2 0 = nI n ∧ u.2.2.2.1 n 2 1 = nI (txL σ z).length ∧ (∀ j, j < (txL σ z).length → u.2.2.2.1 n 0 j = (txL σ z).getD j 0) ∧ (∀ k, k < 4 → u.2.2.2.1 n 1 k = stR (σ 2) z (σ 1 5) k) ∧ txA σ (n + 1) u.2.2.2.2 ∧ u.2.1 0 = ad 0
def textP (n : Nat) (ad : Nat → Nat) (TT τ : Nat → Nat → Nat → Int32) (σ : Nat → Nat → Int32) (z : Nat) (r : Int32) (u : TxU) : Prop :=
  (6 ≤ n ∧ r = -4 ∧ u = (n, ad, TT, τ, σ)) ∨ (n < 6 ∧ ¬ fauP (σ 2) z (σ 1 5) = -1 ∧ r = -100 - fauP (σ 2) z (σ 1 5) ∧ u.1 = n ∧ u.2.1 = ad ∧ u.2.2.1 = TT ∧ u.2.2.2.1 = τ ∧ txA σ n u.2.2.2.2) ∨ (n < 6 ∧ fauP (σ 2) z (σ 1 5) = -1 ∧ r = nI n ∧ txN n ad TT τ σ z u)
/-- what next and write keep, the whole reader keeps -/
def kgR (I : Rs → Prop) (f : Rf) : Prop := ∀ x, I x → I (f x).2
section KG
variable {β : Nat → Int32} {z : Nat} {I : Rs → Prop} {lo : Rlo}
theorem kg_row (hn : ∀ x, I x → I (nxR β z x)) (hw : ∀ x c, I x → I (wrR c x)) {f : Rf} (hf : kgR I f) (op : Int32 → Option Int32) : ∀ (w : Nat) (r : Bool × Rs), I r.2 → I (rowR β z f op w r).2
  | 0, r, h => h
  | w + 1, r, h => by
    unfold rowR
    split
    · split
      · exact kg_row hn hw hf op w _ (hw _ _ (hf _ (hn _ h)))
      · exact h
    · exact h
theorem kg_tok (hn : ∀ x, I x → I (nxR β z x)) {v : Int32} : kgR I (tokR β z v) := fun x h => by
  unfold tokR
  split
  · exact hn _ h
  · exact h
def kgLo (I : Rs → Prop) (lo : Rlo) : Prop := ∀ d, lo = some d → kgR I d.1 ∧ kgR I d.2.1 ∧ kgR I d.2.2
theorem kg_one (hn : ∀ x, I x → I (nxR β z x)) (hw : ∀ x c, I x → I (wrR c x)) (h : kgLo I lo) : kgR I (oneR β z lo) := fun x hx => by
  unfold oneR
  split
  · exact hn _ (hw _ _ hx)
  · split
    · exact hx
    · next d =>
      obtain ⟨h1, h2, h3⟩ := h d rfl
      split
      · split
        · exact kg_tok hn _ (h3 _ (hn _ hx))
        · exact h3 _ (hn _ hx)
      · split
        · exact hw _ _ (h1 _ (hn _ hx))
        · exact hx
theorem kg_term (hn : ∀ x, I x → I (nxR β z x)) (hw : ∀ x c, I x → I (wrR c x)) (h : kgLo I lo) : kgR I (termR β z lo) := fun x hx => kg_row hn hw (kg_one hn hw h) _ _ _ (kg_one hn hw h x hx)
theorem kg_sum (hn : ∀ x, I x → I (nxR β z x)) (hw : ∀ x c, I x → I (wrR c x)) (h : kgLo I lo) : kgR I (sumR β z lo) := fun x hx => kg_row hn hw (kg_term hn hw h) _ _ _ (kg_term hn hw h x hx)
theorem kg_not (hn : ∀ x, I x → I (nxR β z x)) (hw : ∀ x c, I x → I (wrR c x)) (h : kgLo I lo) : kgR I (notR β z lo) := fun x hx => by
  unfold notR
  split
  · split
    · exact hx
    · next d => exact hw _ _ ((h d rfl).2.1 _ (hn _ hx))
  · split
    · exact hw _ _ (kg_sum hn hw h _ (hn _ (kg_sum hn hw h x hx)))
    · exact kg_sum hn hw h x hx
theorem kg_and (hn : ∀ x, I x → I (nxR β z x)) (hw : ∀ x c, I x → I (wrR c x)) (h : kgLo I lo) : kgR I (andR β z lo) := fun x hx => kg_row hn hw (kg_not hn hw h) _ _ _ (kg_not hn hw h x hx)
theorem kg_or (hn : ∀ x, I x → I (nxR β z x)) (hw : ∀ x c, I x → I (wrR c x)) (h : kgLo I lo) : kgR I (orR β z lo) := fun x hx => kg_row hn hw (kg_and hn hw h) _ _ _ (kg_and hn hw h x hx)
theorem kg_lo (hn : ∀ x, I x → I (nxR β z x)) (hw : ∀ x c, I x → I (wrR c x)) : ∀ d, kgLo I (loR β z d)
  | 0 => fun d h => by cases h
  | d + 1 => fun e h => by
    have hd := kg_lo hn hw d
    cases h
    exact ⟨kg_one hn hw hd, kg_not hn hw hd, kg_or hn hw hd⟩
theorem kg_part (hn : ∀ x, I x → I (nxR β z x)) (hw : ∀ x c, I x → I (wrR c x)) {key : Int32} : kgR I (partR β z key) := fun x h => by
  unfold partR
  split
  · split
    · exact kg_tok hn _ (kg_or hn hw (kg_lo hn hw 5) _ (kg_tok hn _ h))
    · exact kg_or hn hw (kg_lo hn hw 5) _ (kg_tok hn _ h)
  · exact kg_tok hn _ h
theorem kg_th (hn : ∀ x, I x → I (nxR β z x)) (hw : ∀ x c, I x → I (wrR c x)) {m0 : Int32} (h0 : I (rs0 β z m0)) : ∀ k, I (thR β z m0 k).2
  | 0 => h0
  | k + 1 => by
    rw [thR]
    split
    · exact kg_part hn hw _ (kg_th hn hw h0 k)
    · exact kg_th hn hw h0 k
end KG
def okA (z : Nat) (x : Rs) : Prop := okR z x ∧ x.2.2.1 ≤ z
theorem okA_nx {β : Nat → Int32} {z : Nat} (x : Rs) (h : okA z x) : okA z (nxR β z x) := ⟨okR_nx h.1, (skpG_le β z 161 x.1 h.1.1).2⟩
theorem okA_wr {z : Nat} (x : Rs) (c : Int32) (h : okA z x) : okA z (wrR c x) := ⟨okR_wr h.1 c, h.2⟩
theorem th_at {β : Nat → Int32} {z : Nat} {m0 : Int32} (k : Nat) : (thR β z m0 k).2.2.2.1 ≤ z := (kg_th okA_nx okA_wr (okA_nx (0, 0, 0, m0, []) ⟨⟨Nat.zero_le _, Nat.zero_le _⟩, Nat.zero_le _⟩) k).2
theorem fau_good {β : Nat → Int32} {z : Nat} {m0 : Int32} (hz : z ≤ 160) (h : fauP β z m0 = -1) : (thR β z m0 3).1 = true := by
  cases hb : (thR β z m0 3).1 with
  | true => rfl
  | false =>
    rw [fau_0 hb] at h
    have h1 := th_at (β := β) (z := z) (m0 := m0) 3
    exact absurd (h ▸ (by decide : (-1 : Int32) < 0)) (nI_pos (by omega))
theorem fau_end {β : Nat → Int32} {z : Nat} {m0 : Int32} (hz : z ≤ 160) (h : fauP β z m0 = -1) : (thR β z m0 3).2.2.1 = 0 := by
  by_cases h0 : (thR β z m0 3).2.2.1 = 0
  · exact h0
  · rw [fau_1 (fau_good hz h) h0] at h
    have h1 := th_at (β := β) (z := z) (m0 := m0) 3
    exact absurd (h ▸ (by decide : (-1 : Int32) < 0)) (nI_pos (by omega))
theorem gl_iret {p : Program} {l : Launch} {e : Env} {R : Room} {s : State} {m : MethodId} {args : Array Value} {below : List Frame} {meth : Method} {c : Code} {H : Heap} {locs : List Loc} {cells slots : Nat} {cc : ByteArray} {pc nL : Nat} {ls : Array Slot} {A : Nat → Prop} {own : String} {S : Type} {post : Int32 → S → Prop} {B : S → State → Prop} {v : Int32} {ty : FieldType} (F : CallFix p m c cc nL s args TBL own) (hr : meth.sig.returnType = some ty) (hlk : meth.locks = false) (hn : narrow ty (.int v) = .int v) (hS : va_S A s.heap H locs) (u : S) (hp : post v u) (hB : ∀ t : State, t.heap = H → B u t) (hdg : decode cc pc = .ok (.ireturn, 1)) : W p l e R s m args below meth c H locs cells slots (MQ below (va_Qi post B A) args s cells slots A) (F0 m pc ls [.int v]) :=
  W.zret F.1 F.2.1 hr hn (fun t ht _ => ⟨⟨v, u, rfl, hp, hB t ht⟩, hS.F ht⟩) hS.2.2 hdg hlk
theorem gl_C {N : Nat} {ad : Nat → Nat} {f : Nat → va_E} {c1 c2 c3 : Nat × va_E} : [N + 1].map (fun i => (gw_L N ad f ++ [c1, c2, c3])[i]?) = [c2].map some := congrArg (fun q => [q]) (gl_new (news := [c1, c2, c3]) 1)
theorem gl_n1 (k : Nat) : va_nd [k] = true := by simp [va_nd]
theorem gl_dis (N : Nat) : ∀ i ∈ List.range N ++ [N, N + 2], i ∉ [N + 1] := by
  intro i hi hc
  rw [List.mem_singleton] at hc
  rcases List.mem_append.mp hi with h | h
  · rw [List.mem_range] at h; omega
  · simp at h; omega
/-- the memory behind the reader, tape empty -/
def tx1 (σ : Nat → Nat → Int32) (z : Nat) (w5 : Nat → Int32) : Nat → Nat → Int32 := upR (rsS (va_up σ 5 w5) (thR (σ 2) z (σ 1 5) 3).2) 1 1 0
theorem tx1_o {σ : Nat → Nat → Int32} {z : Nat} {w5 : Nat → Int32} {o : Nat} (h : o ≠ 1) (h3 : o ≠ 3) (h4 : o ≠ 4) (h5 : o ≠ 5) : tx1 σ z w5 o = σ o := by
  unfold tx1
  rw [up_ne2 h]
  unfold rsS
  rw [tp_ne h]
  unfold rdS
  rw [up_ne2 h3, va_up_ne _ _ h4, va_up_ne _ _ h5]
theorem tx1_A {σ : Nat → Nat → Int32} {z n : Nat} {w5 : Nat → Int32} (hc : σ 0 4 = nI n) : txA σ n (tx1 σ z w5) :=
  ⟨by rw [tx1_o (by decide) (by decide) (by decide) (by decide)]; exact hc, fun k _ => by rw [tx1_o (by decide) (by decide) (by decide) (by decide)], by unfold tx1; rw [upR_self]; exact pk_us, tx1_o (by decide) (by decide) (by decide) (by decide), fun o ho => tx1_o (by omega) (by omega) (by omega) (by omega)⟩
abbrev rm_yX7_text : Room := { frames := 48, cells := 3, slots := 168, locals := 1160 }
set_option maxHeartbeats 4000000 in
set_option maxRecDepth 100000 in
theorem kX7_text {l : Launch} {D : va_G} {cs : Nat → ClassId} {ad : Nat → Nat} {n : Nat} {ρ σ : Nat → Nat → Int32} {TT τ : Nat → Nat → Nat → Int32} {sz z : Nat} {adK adV : Nat → Nat} (hz : σ 1 1 = nI z) (hz1 : z ≤ 160) (hn6 : n ≤ 6) (hc : σ 0 4 = nI n) (h0 : lawN (TT 0) < n) (h2 : lawN (TT 2) < n) : Met l yX7_text (WSm yX7_text cX7_text 3 (some .int)) rm_yX7_text (va_Pc [.ref (ad 0)] (gw_B D (xtys cs) (42 + 3 * n) ad (xent ad cs n ρ TT τ σ) sz (XT n ad sz adK adV))) (va_Qi (textP n ad TT τ σ z) (fun u t => va_P D vwCl (gw_L (42 + 3 * u.1) u.2.1 (xent u.2.1 cs u.1 ρ u.2.2.1 u.2.2.2.1 u.2.2.2.2)) t.heap ∧ va_D (gw_A (42 + 3 * n) ad sz) (gw_L (42 + 3 * u.1) u.2.1 (xent u.2.1 cs u.1 ρ u.2.2.1 u.2.2.2.1 u.2.2.2.2))) (gw_A (42 + 3 * n) ad sz)) 3 168 (gw_A (42 + 3 * n) ad sz) := by
  refine gw_startG (own := RX7) (by decide +kernel) rfl (Nat.le_of_ble_eq_true rfl) ?_
  intro p e s m below meth c F hr hlk hE hsz hW ls hl
  obtain ⟨hx, hb, hml, hown, hts⟩ := id F
  have hl : lv_has ls 3 [(0, .ref (ad 0))] := hl
  have hW : XW D cs ad n ρ TT τ σ (gw_A (42 + 3 * n) ad sz) s s.heap s.heap [] := hW
  refine lv_aload_n hx hb dX7_text_0 rfl (lv_at hl 0 rfl) ?_
  refine xr_O F hW 4 (by decide) rfl fl_RX7_41 dX7_text_1 ?_
  refine lv_as (z := nI n) hc ?_
  refine lv_bipush (v := 6) hx hb dX7_text_4 (by decide) ?_
  refine lv_icmp_lt (tgt := 12) hx hb dX7_text_6 (by decide) (fun c_1 => ?_) (fun c_1 => ?_)
  · have hn : n < 6 := mi_lt (b := 6) c_1 (by omega) (by decide)
    refine lv_aload_n hx hb dX7_text_12 rfl (lv_at hl 0 rfl) ?_
    refine xr_O F hW 1 (by decide) rfl fl_RX7_21 dX7_text_13 ?_
    refine gw_callVi (rm := rm_yX2_faultPlace) (As := []) (rest := []) F hl.1 hW (xs_hE hE.1 (fun _ h => h) hsz hW) XS_E (by omega) xe_3 rfl (kX2_faultPlace (adK := adK) (adV := adV) hz hz1) pd_yX2_faultPlace ml_RX7_101 im_yX2_faultPlace se_yX2_faultPlace ini_RX2 cd_yX2_faultPlace ⟨rfl, rfl⟩ ⟨Nat.le_of_ble_eq_true rfl, Nat.le_of_ble_eq_true rfl⟩ rfl rfl (Nat.le_of_ble_eq_true rfl) ⟨Nat.zero_le _, Nat.zero_le _⟩ dX7_text_16 (fun r σ0 H locs hp hW _ _ => ?_)
    obtain ⟨hrf, w5, hu, hw5⟩ := hp
    subst hu
    refine lv_istore_n (lv' := [(1, .int r), (0, .ref (ad 0))]) hx hb dX7_text_19 rfl hl (by decide) rfl (fun ls hl => ?_)
    refine lv_aload_n hx hb dX7_text_20 rfl (lv_at hl 1 rfl) ?_
    refine xr_O F hW 0 (by decide) rfl fl_RX7_10 dX7_text_21 ?_
    refine lv_iconst (v := 0) hx hb dX7_text_24 (by decide) ?_
    refine xw_P F hW 1 (by decide) fl_RX7_90 rfl (ty := .int) rfl rfl rfl rfl dX7_text_25 (fun H locs hW => ?_)
    have hW : XW D cs ad n ρ TT τ (tx1 σ z w5) (gw_A (42 + 3 * n) ad sz) s s.heap H locs := hW
    refine lv_iload_n hx hb dX7_text_28 rfl (lv_at hl 0 rfl) ?_
    refine lv_iconst (v := (-1)) hx hb dX7_text_29 (by decide) ?_
    refine lv_icmp_eq (tgt := 38) hx hb dX7_text_30 (by decide) (fun c_2 => ?_) (fun c_2 => ?_)
    · have hgood := fau_good hz1 (hrf ▸ c_2)
      have hlen : (txL σ z).length ≤ 160 := (th_ok (β := σ 2) (z := z) (m0 := σ 1 5) 3).2
      refine lv_aload_n hx hb dX7_text_38 rfl (lv_at hl 1 rfl) ?_
      refine xr_O F hW 1 (by decide) rfl fl_RX7_21 dX7_text_39 ?_
      refine xr_D F hW 1 (by decide) rfl fl_RX7_104 dX7_text_42 ?_
      refine lv_aload_n hx hb dX7_text_45 rfl (lv_at hl 1 rfl) ?_
      refine xr_O F hW 1 (by decide) rfl fl_RX7_21 dX7_text_46 ?_
      refine xr_D F hW 3 (by decide) rfl fl_RX7_108 dX7_text_49 ?_
      refine lv_as (z := nI (txL σ z).length) (rs_len (va_up σ 5 w5) (thR (σ 2) z (σ 1 5) 3).2) ?_
      refine va_callr (va_runS (As := [.ref (ad 4), .int (nI (txL σ z).length)]) (rest := []) F (kJ7_copyOf hlen) ⟨callB_of (Ts := TBL) 2 F.2.2.2.2 (good_WSm cd_yJ7_copyOf_59c91) rfl rfl rfl (by rw [pd_yJ7_copyOf_59c91.1]; exact hts _ ini_RJ7) (hts _ ml_RX7_111) pd_yJ7_copyOf_59c91.2 ⟨Nat.le_of_ble_eq_true rfl, Nat.le_of_ble_eq_true rfl⟩, hts _ st_yJ7_copyOf_59c91⟩ ⟨gw_blind CT_E, gw_pre hW (fun _ _ hw => va_Nw.warmC hw hE.2)⟩ rfl rfl hl.1 rfl (lv_room (Nat.le_of_ble_eq_true rfl)) dX7_text_52 ⟨Nat.le_of_ble_eq_true rfl, Nat.le_of_ble_eq_true rfl⟩) hW.2.2.2.1 (fun x _ h => hW.free x h) hW.free (fun g q1 t H1 locs1 ht _ hp hB hz hk hS => ?_)
      obtain ⟨hP1, hD1⟩ := hB
      rw [ht] at hP1
      have hW : LWd D (xtys cs) (gw_L (42 + 3 * n) ad (xent ad cs n ρ TT τ (tx1 σ z w5)) ++ [(q1, .inl (cs 0, (txL σ z).length, .inl g))]) (gw_A (42 + 3 * n) ad sz) s s.heap H1 locs1 := ⟨hP1, hW.2.1, hD1.weaken (fun _ _ _ h => hW.free _ h), hS, hW.2.2.2.2⟩
      refine lv_astore_n (lv' := [(2, .ref q1), (1, .int r), (0, .ref (ad 0))]) hx hb dX7_text_55 rfl hl (by decide) rfl (fun ls hl => ?_)
      have hs0 : (tx1 σ z w5) 0 4 = nI n := (tx1_A hc).1
      refine lv_aload_n hx hb dX7_text_56 rfl (lv_at hl 2 rfl) ?_
      refine lw_get (ci := 7) (fs := x0_fs ad (tx1 σ z w5 0)) F hW 0 (gl_old (by omega)) (C := RX7) (T := TX7) (n := 10) rfl in_RX7 3 (by decide) fl_RX7_34 rfl dX7_text_57 ?_
      refine lv_aload_n hx hb dX7_text_60 rfl (lv_at hl 2 rfl) ?_
      refine lw_get (ci := 7) (fs := x0_fs ad (tx1 σ z w5 0)) F hW 0 (gl_old (by omega)) (C := RX7) (T := TX7) (n := 10) rfl in_RX7 4 (by decide) fl_RX7_41 rfl dX7_text_61 ?_
      refine lv_as (z := nI n) hs0 ?_
      refine lw_new (c2 := 2) (s2 := 164) (ci := 6) (fs := [.int 0, .null, .null, .null]) (C := RX6) (T := TX6) (n := 4) F hW rfl in_RX6 tyX6 tyX6_ok cl_RX7_32 inst_RX6_4 ini_RX6 (fun j hj => by rcases j with _ | _ | _ | _ | j <;> first | rfl | omega) rfl rfl ⟨Nat.le_of_ble_eq_true rfl, Nat.le_of_ble_eq_true rfl⟩ dX7_text_64 (fun q2 H hW => ?_)
      have hW : LWd D (xtys cs) (gw_L (42 + 3 * n) ad (xent ad cs n ρ TT τ (tx1 σ z w5)) ++ [(q1, .inl (cs 0, (txL σ z).length, .inl g)), (q2, .inr (6, [.int 0, .null, .null, .null]))]) (gw_A (42 + 3 * n) ad sz) s s.heap H locs1 := by rw [List.append_assoc] at hW; exact hW
      refine lv_dup hx hb dX7_text_67 rfl ?_
      refine lv_aload_n hx hb dX7_text_68 rfl (lv_at hl 2 rfl) ?_
      refine lw_get (ci := 7) (fs := x0_fs ad (tx1 σ z w5 0)) F hW 0 (gl_old (by omega)) (C := RX7) (T := TX7) (n := 10) rfl in_RX7 4 (by decide) fl_RX7_41 rfl dX7_text_69 ?_
      refine lv_as (z := nI n) hs0 ?_
      refine lv_aload_n hx hb dX7_text_72 rfl (lv_at hl 0 rfl) ?_
      refine lv_aload_n hx hb dX7_text_73 rfl (lv_at hl 2 rfl) ?_
      refine lw_get (ci := 7) (fs := x0_fs ad (tx1 σ z w5 0)) F hW 0 (gl_old (by omega)) (C := RX7) (T := TX7) (n := 10) rfl in_RX7 1 (by decide) fl_RX7_21 rfl dX7_text_74 ?_
      refine lw_get (ci := 2) (fs := x3_fs ad (tx1 σ z w5 3)) F hW 3 (gl_old (by omega)) (C := RX2) (T := TX2) (n := 4) rfl in_RX2 2 (by decide) fl_RX7_117 rfl dX7_text_77 ?_
      refine lw_clone (ixx := 0) (c2 := 3) (s2 := 168) (n := 4) (f := tx1 σ z w5 5) (cA := cs 0) F hl.1 hW 5 0 (gl_old (by omega)) rfl hE.2 ml_RX7_120 ⟨Nat.le_of_ble_eq_true rfl, Nat.le_of_ble_eq_true rfl⟩ (Nat.le_of_ble_eq_true rfl) rfl rfl ⟨Nat.le_of_ble_eq_true rfl, Nat.le_of_ble_eq_true rfl⟩ dX7_text_80 (fun q3 H hW => ?_)
      have hW : LWd D (xtys cs) (gw_L (42 + 3 * n) ad (xent ad cs n ρ TT τ (tx1 σ z w5)) ++ [(q1, .inl (cs 0, (txL σ z).length, .inl g)), (q2, .inr (6, [.int 0, .null, .null, .null])), (q3, .inl (cs 0, 4, .inl (tx1 σ z w5 5)))]) (gw_A (42 + 3 * n) ad sz) s s.heap H locs1 := by rw [List.append_assoc] at hW; exact hW
      refine va_castA hx hb hown (hts _ cl_RX7_121) hW.1 (42 + 3 * n + 2) (gl_new 2) (hW.2.1.2 0 _ rfl).2 dX7_text_83 ?_
      refine lv_aload_n hx hb dX7_text_86 rfl (lv_at hl 2 rfl) ?_
      refine lw_get (ci := 7) (fs := x0_fs ad (tx1 σ z w5 0)) F hW 0 (gl_old (by omega)) (C := RX7) (T := TX7) (n := 10) rfl in_RX7 2 (by decide) fl_RX7_28 rfl dX7_text_87 ?_
      refine lw_callI (c2 := 3) (s2 := 168) (As := [.int (nI n), .ref q1, .ref q3, .ref (ad 6)]) (rest := [.ref q2, .int (nI n), .ref (ad 8)]) (wc := [(q2, .inr (6, [.int 0, .null, .null, .null]))]) (wr := gw_L (42 + 3 * n) ad (xent ad cs n ρ TT τ (tx1 σ z w5)) ++ [(q1, .inl (cs 0, (txL σ z).length, .inl g)), (q3, .inl (cs 0, 4, .inl (tx1 σ z w5 5)))]) (tc := []) F hl.1 hW (fun _ _ _ => trivial) gw_T_E [42 + 3 * n + 1] (List.range (42 + 3 * n) ++ [42 + 3 * n, 42 + 3 * n + 2]) [] gl_C gl_R (gl_n1 _) (gl_nd _) (gl_dis _) rfl (kX6_init (l := l) (D := D) (h0 := q2) (sz := H.size) (n0 := nI n) (a1 := q1) (a2 := q3) (a3 := ad 6)) pd_yX6_init ml_RX7_38 im_yX6_init ini_RX6 cd_yX6_init rfl ⟨rfl, rfl⟩ ⟨Nat.le_of_ble_eq_true rfl, Nat.le_of_ble_eq_true rfl⟩ rfl rfl (Nat.le_of_ble_eq_true rfl) rfl rfl ⟨Nat.le_of_ble_eq_true rfl, Nat.le_of_ble_eq_true rfl⟩ dX7_text_90 (fun u H locs _ hW => ?_)
      obtain ⟨⟩ := u
      have hW : LWd D (xtys cs) (gw_L (42 + 3 * n) ad (xent ad cs n ρ TT τ (tx1 σ z w5)) ++ [(q1, .inl (cs 0, (txL σ z).length, .inl g)), (q3, .inl (cs 0, 4, .inl (tx1 σ z w5 5))), (q2, .inr (6, [.int (nI n), .ref q1, .ref q3, .ref (ad 6)]))]) (gw_A (42 + 3 * n) ad sz) s s.heap H locs := by rw [List.append_assoc, List.append_nil] at hW; exact hW
      refine lw_aast (t0 := 2) (qk := 42 + 3 * n + 2) (ci := 6) (r := (RX6, TX6, 4)) (f := fun i => if i < n then some (ad (42 + 3 * i)) else none) F hW 8 (gl_old (by omega)) rfl (gl_new 2) rfl (vp_in_nI hn (by decide)) dX7_text_93 (fun H locs hW => ?_)
      rw [nI_clamp (by omega), gl_set (by omega)] at hW
      refine lv_aload_n hx hb dX7_text_94 rfl (lv_at hl 2 rfl) ?_
      refine lv_dup hx hb dX7_text_95 rfl ?_
      refine lw_get (ci := 7) (fs := x0_fs ad (tx1 σ z w5 0)) F hW 0 (gl_old (by omega)) (C := RX7) (T := TX7) (n := 10) rfl in_RX7 4 (by decide) fl_RX7_41 rfl dX7_text_96 ?_
      refine lv_as (z := nI n) hs0 ?_
      refine lv_iconst (v := 1) hx hb dX7_text_99 (by decide) ?_
      refine lv_iadd hx hb dX7_text_100 ?_
      refine lv_as (z := nI (n + 1)) (nI_1 n) ?_
      refine lw_put0 (ci := 7) (fs := x0_fs ad (tx1 σ z w5 0)) F hW 0 (gl_old (by omega)) (C := RX7) (T := TX7) (n := 10) rfl in_RX7 tyX7 tyX7_ok nmX7 4 (by decide) fl_RX7_41 rfl rfl rfl rfl (show 4 < 10 by decide) dX7_text_101 (fun H locs hW => ?_)
      rw [gl_set (by omega)] at hW
      refine lv_aload_n hx hb dX7_text_104 rfl (lv_at hl 2 rfl) ?_
      refine lw_get (ci := 7) (fs := (x0_fs ad (tx1 σ z w5 0)).set 4 (.int (nI (n + 1)))) F hW 0 (gl_old (by omega)) (C := RX7) (T := TX7) (n := 10) rfl in_RX7 4 (by decide) fl_RX7_41 rfl dX7_text_105 ?_
      refine lv_iconst (v := 1) hx hb dX7_text_108 (by decide) ?_
      refine lv_isub hx hb dX7_text_109 ?_
      refine lv_as (z := nI n) (by rw [← nI_1]; exact Int32.add_sub_cancel _ _) ?_
      have hG := grow_world (q2 := q2) (q1 := q1) (q3 := q3) hn hlen h0 h2 rfl hW
      refine gl_iret F hr hlk rfl hG.2.2.2.1 (n + 1, grA ad n q2 q1 q3 (lawN (TT 1)), grT n TT, grτ n τ g (tx1 σ z w5 5) (txL σ z).length, upR (tx1 σ z w5) 0 4 (nI (n + 1))) (Or.inr (Or.inr ⟨hn, hrf ▸ c_2, rfl, rfl, grT_ne (by decide), grT_ne (by decide), fun t ht => grτ_lo (by omega), ?_, ?_, fun j hj => ?_, fun k hk => ?_, ?_, grA_lo (by omega)⟩)) (fun t ht => by rw [ht]; exact ⟨hG.1, hG.2.2.1⟩) dX7_text_110
      · show grτ n τ g (tx1 σ z w5 5) (txL σ z).length n 2 0 = nI n
        unfold grτ; rw [va_up_self]; rfl
      · show grτ n τ g (tx1 σ z w5 5) (txL σ z).length n 2 1 = nI (txL σ z).length
        unfold grτ; rw [va_up_self]; rfl
      · show grτ n τ g (tx1 σ z w5 5) (txL σ z).length n 0 j = (txL σ z).getD j 0
        unfold grτ; rw [va_up_self]
        show g j = _
        rw [hp j hj]
        show lstR (va_up σ 5 w5 4) (txL σ z) j = _
        unfold lstR
        rw [if_pos hj]
      · show grτ n τ g (tx1 σ z w5 5) (txL σ z).length n 1 k = _
        unfold grτ; rw [va_up_self]
        show w5 k = _
        exact hw5 hgood k hk
      · have hA := tx1_A (z := z) (w5 := w5) hc
        refine ⟨by show upR (tx1 σ z w5) 0 4 (nI (n + 1)) 0 4 = _; rw [upR_self]; exact pk_us, fun k hk => ?_, ?_, ?_, fun o ho => ?_⟩
        · show upR (tx1 σ z w5) 0 4 (nI (n + 1)) 0 k = _
          rw [upR_self, pk_un hk]; exact hA.2.1 k hk
        · show upR (tx1 σ z w5) 0 4 (nI (n + 1)) 1 1 = 0
          rw [up_ne2 (by decide)]; exact hA.2.2.1
        · show upR (tx1 σ z w5) 0 4 (nI (n + 1)) 2 = _
          rw [up_ne2 (by decide)]; exact hA.2.2.2.1
        · show upR (tx1 σ z w5) 0 4 (nI (n + 1)) o = _
          rw [up_ne2 (by omega)]; exact hA.2.2.2.2 o ho
    · refine lv_bipush (v := (-100)) hx hb dX7_text_33 (by decide) ?_
      refine lv_iload_n hx hb dX7_text_35 rfl (lv_at hl 0 rfl) ?_
      refine lv_isub hx hb dX7_text_36 ?_
      refine W.widen (k := 3) (n := 168) (Nat.zero_le _) (Nat.zero_le _) ?_
      exact gl_iret F hr hlk rfl hW.2.2.2.1 (n, ad, TT, τ, tx1 σ z w5) (Or.inr (Or.inl ⟨hn, hrf ▸ c_2, by rw [hrf], rfl, rfl, rfl, rfl, tx1_A hc⟩)) (fun t ht => by rw [ht]; exact ⟨hW.1, hW.2.2.1⟩) dX7_text_37
  · refine lv_bipush (v := (-4)) hx hb dX7_text_9 (by decide) ?_
    refine W.widen (k := 3) (n := 168) (Nat.zero_le _) (Nat.zero_le _) ?_
    exact gl_iret F hr hlk rfl hW.2.2.2.1 (n, ad, TT, τ, σ) (Or.inl ⟨mi_nlt (b := 6) c_1 (by omega) (by decide), rfl, rfl⟩) (fun t ht => by rw [ht]; exact ⟨hW.1, hW.2.2.1⟩) dX7_text_11
