/-! ===== kinds above a kind: the class's static array ===== -/
def kaN (k : Nat) : Int32 := if k = 0 then -1 else if k = 3 then 1 else if k = 4 then 2 else 0
def XZ (n : Nat) (ad : Nat → Nat) (sz tk : Nat) : State → Prop := fun U => XE U ∧ va_Z RX7 "KIND_ABOVE" "[I" (.ref tk) (gw_A (42 + 3 * n) ad sz) U U.heap ∧ va_T .int tk 6 (fun j => .int (kaN j)) (gw_A (42 + 3 * n) ad sz) U U.heap
theorem XZ_E {n : Nat} {ad : Nat → Nat} {sz tk : Nat} : gw_E (XZ n ad sz tk) := fun U g mk a h => ⟨h.1, va_Z.moved (u := U) (U := U.calling g mk a) (Vm.Alike.refl U.vm) h.2.1, va_T.moved (u := U) (U := U.calling g mk a) (Vm.Alike.refl U.vm) h.2.2⟩
theorem xz_hE {D : va_G} {cs : Nat → ClassId} {n : Nat} {ad : Nat → Nat} {ρ σ : Nat → Nat → Int32} {TT τ : Nat → Nat → Nat → Int32} {A : Nat → Prop} {sz tk : Nat} {s : State} {H : Heap} {locs : List Loc} (h : XZ n ad sz tk s) (hA : ∀ q, A q → gw_A (42 + 3 * n) ad sz q) (hz : s.heap.size = sz) (hW : XW D cs ad n ρ TT τ σ A s s.heap H locs) : ∀ U : State, U.heap = H → s.WarmedH U.vm → XZ n ad H.size tk U := by
  intro U hU hw
  subst hU
  have hS := hW.2.2.2.1
  have hk : ∀ a : Nat, a < s.heap.size → ¬ gw_A (42 + 3 * n) ad sz a → U.heap[a]? = s.heap[a]? := fun a ha hg => hS.2.1 a ha (fun z => hg (hA a z))
  have hn : ∀ q, gw_A (42 + 3 * n) ad U.heap.size q → gw_A (42 + 3 * n) ad sz q := fun q hq => hq.elim (fun z => Or.inl z) (fun z => Or.inr (by have := hS.1; omega))
  exact ⟨va_Nw.warmM hw h.1, va_Z.moved hw.alike (va_Z.narrow (va_Z.kept h.2.1 hk) hn), va_T.moved hw.alike (va_T.narrow (va_T.kept h.2.2 hk) hn)⟩
abbrev XZi {S : Type} (l : Launch) (y : MethodName) (cc : ByteArray) (nL : Nat) (ty : FieldType) (rm : Room) (As : List Value) (D : va_G) (cs : Nat → ClassId) (ad : Nat → Nat) (n : Nat) (ρ : Nat → Nat → Int32) (TT τ : Nat → Nat → Nat → Int32) (σ : Nat → Nat → Int32) (sz tk : Nat) (post : Int32 → S → Prop) (Ff : S → Nat → va_E) : Prop := Met l y (WSm y cc nL (some ty)) rm (va_Pc As (gw_B D (xtys cs) (42 + 3 * n) ad (xent ad cs n ρ TT τ σ) sz (XZ n ad sz tk))) (va_Qi post (fun u t => va_P D vwCl (gw_L (42 + 3 * n) ad (Ff u)) t.heap) (gw_A (42 + 3 * n) ad sz)) 0 0 (gw_A (42 + 3 * n) ad sz)
theorem gw_stIz {l : Launch} {cc : ByteArray} {N sz : Nat} {As : List Value} {D : va_G} {tys : List (ClassId × FieldType)} {ad : Nat → Nat} {f : Nat → va_E} {own : String} {y : MethodName} {rm : Room} {E : State → Prop} {n : Nat} {ty : FieldType} {S : Type} {post : Int32 → S → Prop} {Ff : S → Nat → va_E} (hy : plainName y.cls = true) (ho : y.cls = own) (hlen : (lg_sl As).length ≤ n)
    (body : ∀ (p : Program) (e : Env) (s : State) (m : MethodId) (a : Array Value) (below : List Frame) (meth : Method) (c : Code) (A : Nat → Prop) (Q : State → Prop), CallFix p m c cc n s a TBL own → E s → s.heap.size = sz → (∀ q, A q → gw_A N ad sz q) → GW D tys N ad f A s s.heap s.heap [] →
      (∀ (v : Int32) (u : S) (H : Heap) (locs : List Loc) (pc : Nat) (ls : Array Slot) (g : Nat → va_E), GW D tys N ad g A s s.heap H locs → Ff u = g → narrow ty (.int v) = .int v → post v u → decode cc pc = .ok (.ireturn, 1) → W p l e rm s m a below meth c H locs 0 0 Q (F0 m pc ls [.int v])) →
      ∀ ls : Array Slot, lv_has ls n (lv_args 0 As) → W p l e rm s m a below meth c s.heap [] 0 0 Q (F0 m 0 ls [])) :
    Met l y (WSm y cc n (some ty)) rm (va_Pc As (gw_B D tys N ad f sz E)) (va_Qi post (fun u t => va_P D vwCl (gw_L N ad (Ff u)) t.heap) (gw_A N ad sz)) 0 0 (gw_A N ad sz) :=
  gw_start hy ho hlen fun p e s m below meth c F hr hk hE hsz hG ls hl => body p e s m As.toArray below meth c _ _ F hE hsz (fun _ h => h) hG (fun v u H locs pc ls g hG hf hn hp hd => gw_iret F hr hk hn hG u hf hp hd) ls hl
def kindF (w : Int32) : Nat → Int32 → Int32
  | 0, _ => 0
  | f + 1, x => if x < 0 then 0 else if 6 ≤ x then 0 else if x = w then 1 else kindF w f (kaN (iN x))
def takenP (T : Tb) (i w : Int32) : Int32 := if w < 0 then -2 else if 6 < w then -2 else if i < 0 then -12 else if 12 ≤ i then -12 else if oneP T (remS i 6) = 0 then -11 else if i < 6 then (if w = 6 then -13 else if kindF w 6 (T (iN (remS i 6)) 0) = 0 then -13 else i) else if w = 6 then (if T (iN (remS i 6)) 6 = 0 then 0 else 1) else -13
abbrev rm_yX7_isOfKind : Room := { frames := 0, cells := 0, slots := 0, locals := 0 }
set_option maxHeartbeats 800000 in
set_option maxRecDepth 100000 in
theorem kX7_isOfKind {l : Launch} {D : va_G} {cs : Nat → ClassId} {ad : Nat → Nat} {n : Nat} {ρ σ : Nat → Nat → Int32} {TT τ : Nat → Nat → Nat → Int32} {sz : Nat} {tk : Nat} {v0 w0 : Int32}  : XZi l yX7_isOfKind cX7_isOfKind 4 FieldType.boolean rm_yX7_isOfKind [.int v0, .int w0] D cs ad n ρ TT τ σ sz tk (fun (r : Int32) (u : Unit) => r = kindF w0 6 v0) (fun u : Unit => xent ad cs n ρ TT τ σ) := by
  refine gw_stIz (Ff := fun u : Unit => xent ad cs n ρ TT τ σ) (own := RX7) (by decide +kernel) rfl (Nat.le_of_ble_eq_true rfl) ?_
  intro p e s m ar below meth c A Q F hE hsz hA hW hret ls hl
  obtain ⟨hx, hb, hml, hown, hts⟩ := id F
  have hl : lv_has ls 4 [(0, .int v0), (1, .int w0)] := hl
  refine lv_iload_n hx hb dX7_isOfKind_0 rfl (lv_at hl 0 rfl) ?_
  refine lv_istore_n (lv' := [(2, .int v0), (0, .int v0), (1, .int w0)]) hx hb dX7_isOfKind_1 rfl hl (by decide) rfl (fun ls hl => ?_)
  refine lv_iconst (v := 0) hx hb dX7_isOfKind_2 (by decide) ?_
  refine lv_istore_n (lv' := [(3, .int 0), (2, .int v0), (0, .int v0), (1, .int w0)]) hx hb dX7_isOfKind_3 rfl hl (by decide) rfl (fun ls hl => ?_)
  generalize hR0 : kindF w0 6 v0 = RES
  have L4 : ∀ (k : Nat) (i f : Nat) (x : Int32), (i + f = 6) → (7 ≤ i + k) → (kindF w0 f x = RES) → ∀ (H : Heap) (locs : List Loc) (ls : Array Slot), XW D cs ad n ρ TT τ σ A s s.heap H locs → lv_has ls 4 [(3, .int (nI i)), (2, .int x), (0, .int v0), (1, .int w0)] → W p l e rm_yX7_isOfKind s m ar below meth c H locs 0 0 Q (F0 m 4 ls []) := by
    intro k
    induction k with
    | zero => intro i f x h1 h2 hRR; exact absurd h2 (by omega)
    | succ k ih4 =>
      intro i f x h1 h2 hRR H locs ls hW hl
      refine lv_iload_n hx hb dX7_isOfKind_4 rfl (lv_at hl 0 rfl) ?_
      refine lv_bipush (v := 6) hx hb dX7_isOfKind_5 (by decide) ?_
      refine lv_icmp_ge (tgt := 39) hx hb dX7_isOfKind_7 (by decide) (fun c_1 => ?_) (fun c_1 => ?_)
      ·
        obtain rfl : f = 0 := by have := mi_le (a := 6) (b := i) c_1 (by decide) (by omega); omega
        refine lv_iconst (v := 0) hx hb dX7_isOfKind_39 (by decide) ?_
        exact hret 0 () _ _ _ _ _ hW rfl rfl (by rw [hR0, ← hRR]; rfl) dX7_isOfKind_40
      ·
        have hlt : i < 6 := mi_nle (a := 6) (b := i) c_1 (by decide) (by omega); obtain ⟨f', rfl⟩ : ∃ z, f = z + 1 := ⟨f - 1, by omega⟩
        refine lv_iload_n hx hb dX7_isOfKind_10 rfl (lv_at hl 1 rfl) ?_
        refine lv_if_lt (tgt := 39) hx hb dX7_isOfKind_11 (by decide) (fun c_2 => ?_) (fun c_2 => ?_)
        ·
          refine lv_iconst (v := 0) hx hb dX7_isOfKind_39 (by decide) ?_
          exact hret 0 () _ _ _ _ _ hW rfl rfl (by rw [hR0, ← hRR]; exact (if_pos c_2).symm) dX7_isOfKind_40
        ·
          refine lv_iload_n hx hb dX7_isOfKind_14 rfl (lv_at hl 1 rfl) ?_
          refine lv_bipush (v := 6) hx hb dX7_isOfKind_15 (by decide) ?_
          refine lv_icmp_ge (tgt := 39) hx hb dX7_isOfKind_17 (by decide) (fun c_3 => ?_) (fun c_3 => ?_)
          ·
            refine lv_iconst (v := 0) hx hb dX7_isOfKind_39 (by decide) ?_
            exact hret 0 () _ _ _ _ _ hW rfl rfl (by rw [hR0, ← hRR]; exact ((if_neg c_2).trans (if_pos c_3)).symm) dX7_isOfKind_40
          ·
            obtain ⟨xj, hxj, rfl⟩ := ge_nat (N := 6) c_2 c_3 (by decide)
            refine lv_iload_n hx hb dX7_isOfKind_20 rfl (lv_at hl 1 rfl) ?_
            refine lv_iload_n hx hb dX7_isOfKind_21 rfl (lv_at hl 3 rfl) ?_
            refine lv_icmp_ne (tgt := 27) hx hb dX7_isOfKind_22 (by decide) (fun c_4 => ?_) (fun c_4 => ?_)
            ·
              refine va_gets hx hb (va_Z.narrow hE.2.1 hA) hW.2.2.2.1 hown (hts _ fl_RX7_300) (fun _ h => h) dX7_isOfKind_27 ?_
              refine lv_iload_n hx hb dX7_isOfKind_30 rfl (lv_at hl 1 rfl) ?_
              refine va_ti hx hb (va_T.narrow hE.2.2 hA) hW.2.2.2.1 (vp_in_nI (by omega) (by decide)) (v := .int (kaN (iN (nI xj)))) rfl dX7_isOfKind_31 ?_
              refine lv_topi (fun v_5 ev_5 => ?_)
              refine lv_istore_n (lv' := [(2, .int v_5), (3, .int (nI i)), (0, .int v0), (1, .int w0)]) hx hb dX7_isOfKind_32 rfl hl (by decide) rfl (fun ls hl => ?_)
              refine lv_iinc (v := nI (i + 1)) (lv' := [(3, .int (nI (i + 1))), (2, .int v_5), (0, .int v0), (1, .int w0)]) hx hb dX7_isOfKind_33 hl (k := 1) rfl (nI_1 i) (by decide) rfl (fun ls hl => ?_)
              refine lv_goto (tgt := 4) hx hb dX7_isOfKind_36 (by decide) ?_
              exact ih4 (i + 1) f' _ (by omega) (by omega) (by rw [ev_5, ← hRR]; exact ((if_neg c_2).trans ((if_neg c_3).trans (if_neg c_4))).symm) _ _ _ hW (lv_sub hl [0, 1, 2, 3] rfl)
            ·
              refine lv_iconst (v := 1) hx hb dX7_isOfKind_25 (by decide) ?_
              exact hret 1 () _ _ _ _ _ hW rfl rfl (by rw [hR0, ← hRR]; exact ((if_neg c_2).trans ((if_neg c_3).trans (if_pos c_4))).symm) dX7_isOfKind_26
  exact L4 7 0 6 v0 (by omega) (by omega) (hR0) _ _ _ hW (lv_sub hl [0, 1, 2, 3] rfl)
abbrev rm_yX7_taken : Room := { frames := 1, cells := 0, slots := 0, locals := 23 }
set_option maxHeartbeats 800000 in
set_option maxRecDepth 100000 in
theorem kX7_taken {l : Launch} {D : va_G} {cs : Nat → ClassId} {ad : Nat → Nat} {n : Nat} {ρ σ : Nat → Nat → Int32} {TT τ : Nat → Nat → Nat → Int32} {sz : Nat} {tk : Nat} {i0 w0 : Int32} (hO : okO n TT τ σ) : XZi l yX7_taken cX7_taken 4 FieldType.int rm_yX7_taken [.ref (ad 0), .int i0, .int w0] D cs ad n ρ TT τ σ sz tk (fun (r : Int32) (u : Unit) => r = takenP (TT 0) i0 w0) (fun u : Unit => xent ad cs n ρ TT τ σ) := by
  refine gw_stIz (Ff := fun u : Unit => xent ad cs n ρ TT τ σ) (own := RX7) (by decide +kernel) rfl (Nat.le_of_ble_eq_true rfl) ?_
  intro p e s m ar below meth c A Q F hE hsz hA hW hret ls hl
  obtain ⟨hx, hb, hml, hown, hts⟩ := id F
  have hl : lv_has ls 4 [(0, .ref (ad 0)), (1, .int i0), (2, .int w0)] := hl
  obtain ⟨hn1, hn6, hT, hX, hc, hnum⟩ := hO
  have hs6 := hT.1
  have hsN := hT.2.1
  have ht0 : (TT 0 6 3).toNatClampNeg < n := hT.2.2.1
  refine lv_iload_n hx hb dX7_taken_0 rfl (lv_at hl 2 rfl) ?_
  refine lv_if_lt (tgt := 10) hx hb dX7_taken_1 (by decide) (fun c_1 => ?_) (fun c_1 => ?_)
  ·
    refine lv_bipush (v := (-2)) hx hb dX7_taken_10 (by decide) ?_
    exact hret (-2) () _ _ _ _ _ hW rfl rfl (by unfold takenP; rw [if_pos c_1]) dX7_taken_12
  ·
    refine lv_iload_n hx hb dX7_taken_4 rfl (lv_at hl 2 rfl) ?_
    refine lv_bipush (v := 6) hx hb dX7_taken_5 (by decide) ?_
    refine lv_icmp_le (tgt := 13) hx hb dX7_taken_7 (by decide) (fun c_2 => ?_) (fun c_2 => ?_)
    ·
      refine lv_iload_n hx hb dX7_taken_13 rfl (lv_at hl 1 rfl) ?_
      refine lv_if_lt (tgt := 23) hx hb dX7_taken_14 (by decide) (fun c_3 => ?_) (fun c_3 => ?_)
      ·
        refine lv_bipush (v := (-12)) hx hb dX7_taken_23 (by decide) ?_
        exact hret (-12) () _ _ _ _ _ hW rfl rfl (by unfold takenP; rw [if_neg c_1, if_neg (Int32.not_lt.mpr c_2), if_pos c_3]) dX7_taken_25
      ·
        refine lv_iload_n hx hb dX7_taken_17 rfl (lv_at hl 1 rfl) ?_
        refine lv_bipush (v := 12) hx hb dX7_taken_18 (by decide) ?_
        refine lv_icmp_lt (tgt := 26) hx hb dX7_taken_20 (by decide) (fun c_4 => ?_) (fun c_4 => ?_)
        ·
          refine lv_aload_n hx hb dX7_taken_26 rfl (lv_at hl 0 rfl) ?_
          refine xr_O F hW 5 (by decide) rfl fl_RX7_50 dX7_taken_27 ?_
          refine lv_iload_n hx hb dX7_taken_30 rfl (lv_at hl 1 rfl) ?_
          refine lv_bipush (v := 6) hx hb dX7_taken_31 (by decide) ?_
          refine lv_irem hx hb dX7_taken_33 (by decide) ?_
          refine lv_as (z := remS i0 6) rfl ?_
          refine gw_callVi (As := [.int (remS i0 6)]) (rest := []) F hl.1 hW (fun _ _ hw => va_Nw.warmM hw hE.1) XE_E (by omega) (xe_T (b := 0) (by decide)) rfl (kX4_seatsOne (b := 0) (by decide)) pd_yX4_seatsOne ml_RX7_125 im_yX4_seatsOne se_yX4_seatsOne ini_RX4 cd_yX4_seatsOne ⟨rfl, rfl⟩ ⟨Nat.le_of_ble_eq_true rfl, Nat.le_of_ble_eq_true rfl⟩ rfl rfl (Nat.le_of_ble_eq_true rfl) ⟨Nat.zero_le _, Nat.zero_le _⟩ dX7_taken_34 (fun r u H locs hp hW _ _ => ?_)
          subst hp
          refine lv_as (z := oneP (TT 0) (remS i0 6)) rfl ?_
          refine lv_if_ne (tgt := 43) hx hb dX7_taken_37 (by decide) (fun c_5 => ?_) (fun c_5 => ?_)
          ·
            obtain ⟨q, hq, hqe⟩ := one_nat hT c_5; have hq6 : q < 6 := seats_le hT hq; have hiq : iN (remS i0 6) = q := (congrArg iN hqe).trans (iN_nI (by omega))
            refine lv_aload_n hx hb dX7_taken_43 rfl (lv_at hl 0 rfl) ?_
            refine xr_O F hW 5 (by decide) rfl fl_RX7_50 dX7_taken_44 ?_
            refine xr_Tg (b := 0) F hW (by decide) fl_RX7_128 dX7_taken_47 ?_
            refine lv_iload_n hx hb dX7_taken_50 rfl (lv_at hl 1 rfl) ?_
            refine lv_bipush (v := 6) hx hb dX7_taken_51 (by decide) ?_
            refine lv_irem hx hb dX7_taken_53 (by decide) ?_
            refine xr_Rn (b := 0) (q := q) hqe (by omega) F hW (by decide) dX7_taken_54 ?_
            refine lv_astore_n (lv' := [(3, .ref (ad (9 + 8 * 0 + 1 + 1 + q))), (0, .ref (ad 0)), (1, .int i0), (2, .int w0)]) hx hb dX7_taken_55 rfl hl (by decide) rfl (fun ls hl => ?_)
            refine lv_iload_n hx hb dX7_taken_56 rfl (lv_at hl 2 rfl) ?_
            refine lv_bipush (v := 6) hx hb dX7_taken_57 (by decide) ?_
            refine lv_icmp_lt (tgt := 86) hx hb dX7_taken_59 (by decide) (fun c_6 => ?_) (fun c_6 => ?_)
            ·
              refine lv_iload_n hx hb dX7_taken_86 rfl (lv_at hl 3 rfl) ?_
              refine lv_bipush (v := 6) hx hb dX7_taken_87 (by decide) ?_
              refine lv_icmp_eq (tgt := 107) hx hb dX7_taken_89 (by decide) (fun c_7 => ?_) (fun c_7 => ?_)
              ·
                refine lv_bipush (v := (-13)) hx hb dX7_taken_107 (by decide) ?_
                exact hret (-13) () _ _ _ _ _ hW rfl rfl (by unfold takenP; rw [if_neg c_1, if_neg (Int32.not_lt.mpr c_2), if_neg c_3, if_neg (Int32.not_le.mpr c_4), if_neg c_5, hiq, if_pos c_6, if_pos c_7]) dX7_taken_109
              ·
                refine lv_aload_n hx hb dX7_taken_92 rfl (lv_at hl 0 rfl) ?_
                refine xr_G (b := 0) (q := q) F hW (by decide) (by omega) 0 (by decide) fl_RX7_152 dX7_taken_93 ?_
                refine lv_iload_n hx hb dX7_taken_96 rfl (lv_at hl 3 rfl) ?_
                refine gw_callSi (As := [.int (TT 0 q 0), .int w0]) (rest := []) F hl.1 hW (xz_hE hE hA hsz hW) XZ_E (kX7_isOfKind (tk := tk)) pd_yX7_isOfKind ml_RX7_289 st_yX7_isOfKind ini_RX7 cd_yX7_isOfKind ⟨rfl, rfl⟩ ⟨Nat.le_of_ble_eq_true rfl, Nat.le_of_ble_eq_true rfl⟩ rfl rfl (Nat.le_of_ble_eq_true rfl) ⟨Nat.zero_le _, Nat.zero_le _⟩ dX7_taken_97 (fun r u H locs hp hW _ _ => ?_)
                subst hp
                refine lv_as (z := kindF w0 6 (TT 0 q 0)) rfl ?_
                refine lv_if_eq (tgt := 107) hx hb dX7_taken_100 (by decide) (fun c_8 => ?_) (fun c_8 => ?_)
                ·
                  refine lv_bipush (v := (-13)) hx hb dX7_taken_107 (by decide) ?_
                  exact hret (-13) () _ _ _ _ _ hW rfl rfl (by unfold takenP; rw [if_neg c_1, if_neg (Int32.not_lt.mpr c_2), if_neg c_3, if_neg (Int32.not_le.mpr c_4), if_neg c_5, hiq, if_pos c_6, if_neg c_7, if_pos c_8]) dX7_taken_109
                ·
                  refine lv_iload_n hx hb dX7_taken_103 rfl (lv_at hl 2 rfl) ?_
                  refine lv_goto (tgt := 109) hx hb dX7_taken_104 (by decide) ?_
                  exact hret i0 () _ _ _ _ _ hW rfl rfl (by unfold takenP; rw [if_neg c_1, if_neg (Int32.not_lt.mpr c_2), if_neg c_3, if_neg (Int32.not_le.mpr c_4), if_neg c_5, hiq, if_pos c_6, if_neg c_7, if_neg c_8]) dX7_taken_109
            ·
              refine lv_iload_n hx hb dX7_taken_62 rfl (lv_at hl 3 rfl) ?_
              refine lv_bipush (v := 6) hx hb dX7_taken_63 (by decide) ?_
              refine lv_icmp_eq (tgt := 73) hx hb dX7_taken_65 (by decide) (fun c_9 => ?_) (fun c_9 => ?_)
              ·
                refine lv_aload_n hx hb dX7_taken_73 rfl (lv_at hl 0 rfl) ?_
                refine xr_G (b := 0) (q := q) F hW (by decide) (by omega) 6 (by decide) fl_RX7_228 dX7_taken_74 ?_
                refine lv_if_eq (tgt := 84) hx hb dX7_taken_77 (by decide) (fun c_10 => ?_) (fun c_10 => ?_)
                ·
                  refine lv_iconst (v := 0) hx hb dX7_taken_84 (by decide) ?_
                  exact hret 0 () _ _ _ _ _ hW rfl rfl (by unfold takenP; rw [if_neg c_1, if_neg (Int32.not_lt.mpr c_2), if_neg c_3, if_neg (Int32.not_le.mpr c_4), if_neg c_5, hiq, if_neg c_6, if_pos c_9, if_pos c_10]) dX7_taken_85
                ·
                  refine lv_iconst (v := 1) hx hb dX7_taken_80 (by decide) ?_
                  refine lv_goto (tgt := 85) hx hb dX7_taken_81 (by decide) ?_
                  exact hret 1 () _ _ _ _ _ hW rfl rfl (by unfold takenP; rw [if_neg c_1, if_neg (Int32.not_lt.mpr c_2), if_neg c_3, if_neg (Int32.not_le.mpr c_4), if_neg c_5, hiq, if_neg c_6, if_pos c_9, if_neg c_10]) dX7_taken_85
              ·
                refine lv_bipush (v := (-13)) hx hb dX7_taken_68 (by decide) ?_
                refine lv_goto (tgt := 85) hx hb dX7_taken_70 (by decide) ?_
                exact hret (-13) () _ _ _ _ _ hW rfl rfl (by unfold takenP; rw [if_neg c_1, if_neg (Int32.not_lt.mpr c_2), if_neg c_3, if_neg (Int32.not_le.mpr c_4), if_neg c_5, hiq, if_neg c_6, if_neg c_9]) dX7_taken_85
          ·
            refine lv_bipush (v := (-11)) hx hb dX7_taken_40 (by decide) ?_
            exact hret (-11) () _ _ _ _ _ hW rfl rfl (by unfold takenP; rw [if_neg c_1, if_neg (Int32.not_lt.mpr c_2), if_neg c_3, if_neg (Int32.not_le.mpr c_4), if_pos c_5]) dX7_taken_42
        ·
          refine lv_bipush (v := (-12)) hx hb dX7_taken_23 (by decide) ?_
          exact hret (-12) () _ _ _ _ _ hW rfl rfl (by unfold takenP; rw [if_neg c_1, if_neg (Int32.not_lt.mpr c_2), if_neg c_3, if_pos (Int32.not_lt.mp c_4)]) dX7_taken_25
    ·
      refine lv_bipush (v := (-2)) hx hb dX7_taken_10 (by decide) ?_
      exact hret (-2) () _ _ _ _ _ hW rfl rfl (by unfold takenP; rw [if_neg c_1, if_pos (Int32.not_le.mp c_2)]) dX7_taken_12
