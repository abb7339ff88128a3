/-! ===== the spelled words ===== -/
def lenW : List Nat := [3, 5, 3, 6, 6, 4, 2, 3, 3, 5, 4, 5]
def bytW : List (List Int32) := [[115, 104, 121], [98, 111, 114, 101, 100], [97, 116, 101], [109, 105, 110, 117, 116, 101], [119, 114, 111, 110, 103, 115], [109, 111, 114, 101], [111, 114], [97, 110, 100], [110, 111, 116], [100, 97, 114, 101, 115], [101, 97, 116, 115], [116, 101, 108, 108, 115]]
def idxW : List Nat := [49, 55, 57, 59, 61, 63, 65, 67, 69, 71, 73, 75]
def txW : List String := ["shy", "bored", "ate", "minute", "wrongs", "more", "or", "and", "not", "dares", "eats", "tells"]
def XS (n : Nat) (ad : Nat → Nat) (sz : Nat) (adK adV : Nat → Nat) : State → Prop := fun U => XE U ∧ va_Z RJ0 "COMPACT_STRINGS" "Z" (.int 1) (gw_A (42 + 3 * n) ad sz) U U.heap ∧ va_Zq RJ3 "SIOOBE_FORMATTER" "Ljava/util/function/BiFunction;" (gw_A (42 + 3 * n) ad sz) U U.heap ∧ vk_S 12 lenW bytW adK adV (gw_A (42 + 3 * n) ad sz) U U.heap ∧ ∀ i, i < 12 → vk_R RX5 (idxW.getD i 0) (txW.getD i "") (adK i) U
theorem XS_E {n : Nat} {ad : Nat → Nat} {sz : Nat} {adK adV : Nat → Nat} : gw_E (XS n ad sz adK adV) := fun U g mk a h => ⟨h.1, va_Z.moved (u := U) (U := U.calling g mk a) (Vm.Alike.refl U.vm) h.2.1, va_Zq.moved (u := U) (U := U.calling g mk a) (Vm.Alike.refl U.vm) h.2.2.1, vk_S.moved (u := U) (U := U.calling g mk a) (Vm.Alike.refl U.vm) h.2.2.2.1, fun i hi => vk_R.same (u := U) rfl (h.2.2.2.2 i hi)⟩
theorem xs_hE {D : va_G} {cs : Nat → ClassId} {n : Nat} {ad : Nat → Nat} {ρ σ : Nat → Nat → Int32} {TT τ : Nat → Nat → Nat → Int32} {A : Nat → Prop} {sz : Nat} {adK adV : Nat → Nat} {s : State} {H : Heap} {locs : List Loc} (h : XS n ad sz adK adV s) (hA : ∀ q, A q → gw_A (42 + 3 * n) ad sz q) (hz : s.heap.size = sz) (hW : XW D cs ad n ρ TT τ σ A s s.heap H locs) : ∀ U : State, U.heap = H → s.WarmedH U.vm → XS n ad H.size adK adV U := by
  intro U hU hw
  subst hU
  have hS := hW.2.2.2.1
  have hk : ∀ a : Nat, a < s.heap.size → ¬ gw_A (42 + 3 * n) ad sz a → U.heap[a]? = s.heap[a]? := fun a ha hg => hS.2.1 a ha (fun z => hg (hA a z))
  have hn : ∀ q, gw_A (42 + 3 * n) ad U.heap.size q → gw_A (42 + 3 * n) ad sz q := fun q hq => hq.elim (fun z => Or.inl z) (fun z => Or.inr (by have := hS.1; omega))
  exact ⟨va_Nw.warmM hw h.1, va_Z.moved hw.alike (va_Z.narrow (va_Z.kept h.2.1 hk) hn), va_Zq.moved hw.alike (va_Zq.narrow (va_Zq.kept h.2.2.1 hk) hn), vk_S.moved hw.alike (vk_S.narrow (vk_S.kept h.2.2.2.1 hk) hn), fun i hi => vk_R.warm hw (h.2.2.2.2 i hi)⟩
theorem gw_startF {l : Launch} {cc : ByteArray} {N sz : Nat} {As : List Value} {D : va_G} {tys : List (ClassId × FieldType)} {ad : Nat → Nat} {f : Nat → va_E} {own : String} {y : MethodName} {rm : Room} {E : State → Prop} {n : Nat} {ret : Option FieldType} {Qc : Array Value → State → Outcome → State → Prop} (hy : plainFor y = true) (ho : y.cls = own) (hlen : (lg_sl As).length ≤ n)
    (body : ∀ (p : Program) (e : Env) (s : State) (m : MethodId) (below : List Frame) (meth : Method) (c : Code), CallFix p m c cc n s As.toArray TBL own → meth.sig.returnType = ret → meth.locks = false → E s → s.heap.size = sz → GW D tys N ad f (gw_A N ad sz) s s.heap s.heap [] →
      ∀ ls : Array Slot, lv_has ls n (lv_args 0 As) → W p l e rm s m As.toArray below meth c s.heap [] 0 0 (MQ below Qc As.toArray s 0 0 (gw_A N ad sz)) (F0 m 0 ls [])) :
    Met l y (WSm y cc n ret) rm (va_Pc As (gw_B D tys N ad f sz E)) Qc 0 0 (gw_A N ad sz) := by
  refine va_MetF (cc := cc) (maxL := n) (ret := ret) hy rfl ?_
  intro p e s m args below meth c s₁ B hml hv
  obtain ⟨rfl, hsz, hP, hK, hD, hE⟩ := hv
  have hts := atoms_spec (ws := WSm y cc n ret) B.pre
  have hown : s.vm.findClass own = some m.cls := by rw [← ho]; exact findClass_of_methodNamed B.named
  rw [lg_entry_eq]
  exact body p e s m below meth c ⟨B.exec, B.bytes, hml, hown, fun w hw => hts w (List.mem_cons_of_mem _ hw)⟩ B.returns B.notSynchronized hE hsz ⟨hP, hK, gw_Dc hD (fun o ho => Or.inl ⟨o, ho, rfl⟩), va_S.rf, fun q hq => Or.inr (by rw [← hsz]; exact hq)⟩ _ (lv_entry As hlen)
theorem gw_stIs {l : Launch} {cc : ByteArray} {N sz : Nat} {As : List Value} {D : va_G} {tys : List (ClassId × FieldType)} {ad : Nat → Nat} {f : Nat → va_E} {own : String} {y : MethodName} {rm : Room} {E : State → Prop} {n : Nat} {ty : FieldType} {S : Type} {post : Int32 → S → Prop} {Ff : S → Nat → va_E} (hy : plainFor y = true) (ho : y.cls = own) (hlen : (lg_sl As).length ≤ n)
    (body : ∀ (p : Program) (e : Env) (s : State) (m : MethodId) (a : Array Value) (below : List Frame) (meth : Method) (c : Code) (A : Nat → Prop) (Q : State → Prop), CallFix p m c cc n s a TBL own → E s → s.heap.size = sz → (∀ q, A q → gw_A N ad sz q) → GW D tys N ad f A s s.heap s.heap [] →
      (∀ (v : Int32) (u : S) (H : Heap) (locs : List Loc) (pc : Nat) (ls : Array Slot) (g : Nat → va_E), GW D tys N ad g A s s.heap H locs → Ff u = g → narrow ty (.int v) = .int v → post v u → decode cc pc = .ok (.ireturn, 1) → W p l e rm s m a below meth c H locs 0 0 Q (F0 m pc ls [.int v])) →
      ∀ ls : Array Slot, lv_has ls n (lv_args 0 As) → W p l e rm s m a below meth c s.heap [] 0 0 Q (F0 m 0 ls [])) :
    Met l y (WSm y cc n (some ty)) rm (va_Pc As (gw_B D tys N ad f sz E)) (va_Qi post (fun u t => va_P D vwCl (gw_L N ad (Ff u)) t.heap) (gw_A N ad sz)) 0 0 (gw_A N ad sz) :=
  gw_startF hy ho hlen fun p e s m below meth c F hr hk hE hsz hG ls hl => body p e s m As.toArray below meth c _ _ F hE hsz (fun _ h => h) hG (fun v u H locs pc ls g hG hf hn hp hd => gw_iret F hr hk hn hG u hf hp hd) ls hl
theorem gw_stVs {l : Launch} {cc : ByteArray} {N sz : Nat} {As : List Value} {D : va_G} {tys : List (ClassId × FieldType)} {ad : Nat → Nat} {f : Nat → va_E} {own : String} {y : MethodName} {rm : Room} {E : State → Prop} {n : Nat} {S : Type} {post : S → Prop} {Ff : S → Nat → va_E} (hy : plainFor y = true) (ho : y.cls = own) (hlen : (lg_sl As).length ≤ n)
    (body : ∀ (p : Program) (e : Env) (s : State) (m : MethodId) (a : Array Value) (below : List Frame) (meth : Method) (c : Code) (A : Nat → Prop) (Q : State → Prop), CallFix p m c cc n s a TBL own → E s → s.heap.size = sz → (∀ q, A q → gw_A N ad sz q) → GW D tys N ad f A s s.heap s.heap [] →
      (∀ (u : S) (H : Heap) (locs : List Loc) (pc : Nat) (ls : Array Slot) (g : Nat → va_E), GW D tys N ad g A s s.heap H locs → Ff u = g → post u → decode cc pc = .ok (.return_, 1) → W p l e rm s m a below meth c H locs 0 0 Q (F0 m pc ls [])) →
      ∀ ls : Array Slot, lv_has ls n (lv_args 0 As) → W p l e rm s m a below meth c s.heap [] 0 0 Q (F0 m 0 ls [])) :
    Met l y (WSm y cc n none) rm (va_Pc As (gw_B D tys N ad f sz E)) (va_Qv post (fun u t => va_P D vwCl (gw_L N ad (Ff u)) t.heap) (gw_A N ad sz)) 0 0 (gw_A N ad sz) :=
  gw_startF hy ho hlen fun p e s m below meth c F hr hk hE hsz hG ls hl => body p e s m As.toArray below meth c _ _ F hE hsz (fun _ h => h) hG (fun u H locs pc ls g hG hf hp hd => gw_vret F hr hk hG u hf hp hd) ls hl
abbrev XSi {S : Type} (l : Launch) (y : MethodName) (cc : ByteArray) (nL : Nat) (ty : FieldType) (rm : Room) (As : List Value) (D : va_G) (cs : Nat → ClassId) (ad : Nat → Nat) (n : Nat) (ρ : Nat → Nat → Int32) (TT τ : Nat → Nat → Nat → Int32) (σ : Nat → Nat → Int32) (sz : Nat) (adK adV : Nat → Nat) (post : Int32 → S → Prop) (Ff : S → Nat → va_E) : Prop := Met l y (WSm y cc nL (some ty)) rm (va_Pc As (gw_B D (xtys cs) (42 + 3 * n) ad (xent ad cs n ρ TT τ σ) sz (XS n ad sz adK adV))) (va_Qi post (fun u t => va_P D vwCl (gw_L (42 + 3 * n) ad (Ff u)) t.heap) (gw_A (42 + 3 * n) ad sz)) 0 0 (gw_A (42 + 3 * n) ad sz)
abbrev XSv {S : Type} (l : Launch) (y : MethodName) (cc : ByteArray) (nL : Nat) (rm : Room) (As : List Value) (D : va_G) (cs : Nat → ClassId) (ad : Nat → Nat) (n : Nat) (ρ : Nat → Nat → Int32) (TT τ : Nat → Nat → Nat → Int32) (σ : Nat → Nat → Int32) (sz : Nat) (adK adV : Nat → Nat) (post : S → Prop) (Ff : S → Nat → va_E) : Prop := Met l y (WSm y cc nL none) rm (va_Pc As (gw_B D (xtys cs) (42 + 3 * n) ad (xent ad cs n ρ TT τ σ) sz (XS n ad sz adK adV))) (va_Qv post (fun u t => va_P D vwCl (gw_L (42 + 3 * n) ad (Ff u)) t.heap) (gw_A (42 + 3 * n) ad sz)) 0 0 (gw_A (42 + 3 * n) ad sz)
/-- a call whose receiver lies outside the world -/
theorem gw_callTi {p : Program} {l : Launch} {e : Env} {R : Room} {s : State} {m : MethodId} {args : Array Value} {below : List Frame} {meth : Method} {c : Code} {H H0 : Heap} {locs : List Loc} {cells slots : Nat} {Q : State → Prop} {cc bytes : ByteArray} {pc nL maxL idx np N : Nat} {ls : Array Slot} {rest st0 As : List Value} {D : va_G} {A : Nat → Prop} {tys : List (ClassId × FieldType)} {ad : Nat → Nat} {f : Nat → va_E} {own : String} {y : MethodName} {rm : Room} {E : State → Prop} {ty : FieldType} {S : Type} {post : Int32 → S → Prop} {Ff : S → Nat → va_E} {b : Nat} {C : String} (F : CallFix p m c cc nL s args TBL own) (hls : ls.size = nL) (hW : GW D tys N ad f A s H0 H locs) (hE : ∀ U : State, U.heap = H → s.WarmedH U.vm → E U) (hEb : gw_E E) (hrc : ∃ cell : Cell, H[b]? = some cell ∧ cell.vm.isStatics = false ∧ s.vm.findClass C = some cell.cls)
    (hM : Met l y (WSm y bytes maxL (some ty)) rm (va_Pc (.ref b :: As) (gw_B D tys N ad f H.size E)) (va_Qi post (fun u t => va_P D vwCl (gw_L N ad (Ff u)) t.heap) (gw_A N ad H.size)) 0 0 (gw_A N ad H.size))
    (hd : gw_pd y C np) (w1 : Cond.methodLink own idx y ∈ TBL) (w2 : Cond.instanceMethod y ∈ TBL) (w3 : Cond.selects C y y ∈ TBL) (w4 : Cond.initialized C ∈ TBL) (w5 : Cond.code y bytes maxL (some ty) ∈ TBL) (hrm : rm.cells = 0 ∧ rm.slots = 0) (hR : rm.frames + 1 ≤ R.frames ∧ 8 + (maxL + 11) + rm.locals ≤ R.locals)
    (hn : As.length = np) (hst : st0 = As.reverse ++ .ref b :: rest) (hcat : (rest.map fun v => v.category).sum ≤ 8) (hf : cells ≤ R.cells ∧ slots ≤ R.slots) (hdg : decode cc pc = .ok (.invokevirtual idx, 3))
    (kk : ∀ (r : Int32) (u : S) (H1 : Heap) (locs1 : List Loc), post r u → GW D tys N ad (Ff u) A s H0 H1 locs1 → H.size ≤ H1.size → (∀ x : Nat, x < H.size → ¬ gw_A N ad H.size x → H1[x]? = H[x]?) → W p l e R s m args below meth c H1 locs1 cells slots Q (F0 m (pc + 3) ls (.int r :: rest))) : W p l e R s m args below meth c H locs cells slots Q (F0 m pc ls st0) :=
  va_calli (va_runV (As := As) (rest := rest) F hM ⟨gw_cb F hd w1 w4 w5 hrm hR, F.2.2.2.2 _ w2, F.2.2.2.2 _ w3⟩ ⟨gw_blind hEb, hrc, gw_pre hW hE⟩ rfl hn hls hst (lv_room hcat) hdg hf) hW.2.2.2.1 (fun x _ h => hW.free x h) hW.free (fun r u t H1 locs1 ht _ hp hB hz hk hS => kk r u H1 locs1 hp (gw_after hW ht hB hS) hz hk)
def chW (i k : Nat) : Int32 := (bytW.getD i []).getD k 0
theorem lenW_lt : ∀ i, i < 12 → lenW.getD i 0 < 7 := by decide +kernel
theorem chW_c : ∀ i, i < 12 → ∀ k, k < 7 → ((chW i k &&& 255).toUInt32 % 65536).toInt32 = chW i k := by decide +kernel
theorem chW_n : ∀ i, i < 12 → ∀ k, k < 7 → narrow .char (.int (chW i k)) = .int (chW i k) := by decide +kernel
theorem shr_0 (x : Int32) : x >>> ((0 : Int32) &&& 31) = x := by
  rw [show (0 : Int32) &&& 31 = 0 from rfl]
  exact Int32.shiftRight_zero
abbrev rm_yJ0_coder_7d493 : Room := { frames := 0, cells := 0, slots := 0, locals := 0 }
set_option maxHeartbeats 800000 in
set_option maxRecDepth 100000 in
theorem kJ0_coder_7d493 {l : Launch} {D : va_G} {cs : Nat → ClassId} {ad : Nat → Nat} {n : Nat} {ρ σ : Nat → Nat → Int32} {TT τ : Nat → Nat → Nat → Int32} {sz : Nat} {adK adV : Nat → Nat} {i0 : Nat} (hi : i0 < 12) : XSi l yJ0_coder_7d493 cJ0_coder_7d493 1 FieldType.byte rm_yJ0_coder_7d493 [.ref (adK i0)] D cs ad n ρ TT τ σ sz adK adV (fun (r : Int32) (u : Unit) => r = 0) (fun u : Unit => xent ad cs n ρ TT τ σ) := by
  refine gw_stIs (Ff := fun u : Unit => xent ad cs n ρ TT τ σ) (own := RJ0) (by decide +kernel) rfl (Nat.le_of_ble_eq_true rfl) ?_
  intro p e s m ar below meth c A Q F hE hsz hA hW hret ls hl
  obtain ⟨hx, hb, hml, hown, hts⟩ := id F
  have hl : lv_has ls 1 [(0, .ref (adK i0))] := hl
  refine va_gets hx hb (va_Z.narrow hE.2.1 hA) hW.2.2.2.1 hown (hts _ fl_RJ0_38) (fun _ h => h) dJ0_coder_7d493_0 ?_
  refine lv_if_eq (tgt := 13) hx hb dJ0_coder_7d493_3 (by decide) (fun c_1 => ?_) (fun c_1 => ?_)
  ·
    exact absurd c_1 (by decide)
  ·
    refine lv_aload_n hx hb dJ0_coder_7d493_6 rfl (lv_at hl 0 rfl) ?_
    refine vk_getf hx hb ((vk_S.narrow hE.2.2.2.1 hA).1 i0 hi).2.1 hW.2.2.2.1 hown (hts _ fl_RJ0_15) (fun _ h => h) dJ0_coder_7d493_7 ?_
    refine lv_goto (tgt := 14) hx hb dJ0_coder_7d493_10 (by decide) ?_
    exact hret 0 () _ _ _ _ _ hW rfl rfl (rfl) dJ0_coder_7d493_14
abbrev rm_yJ0_isLatin1_aae02 : Room := { frames := 0, cells := 0, slots := 0, locals := 0 }
set_option maxHeartbeats 800000 in
set_option maxRecDepth 100000 in
theorem kJ0_isLatin1_aae02 {l : Launch} {D : va_G} {cs : Nat → ClassId} {ad : Nat → Nat} {n : Nat} {ρ σ : Nat → Nat → Int32} {TT τ : Nat → Nat → Nat → Int32} {sz : Nat} {adK adV : Nat → Nat} {i0 : Nat} (hi : i0 < 12) : XSi l yJ0_isLatin1_aae02 cJ0_isLatin1_aae02 1 FieldType.boolean rm_yJ0_isLatin1_aae02 [.ref (adK i0)] D cs ad n ρ TT τ σ sz adK adV (fun (r : Int32) (u : Unit) => r = 1) (fun u : Unit => xent ad cs n ρ TT τ σ) := by
  refine gw_stIs (Ff := fun u : Unit => xent ad cs n ρ TT τ σ) (own := RJ0) (by decide +kernel) rfl (Nat.le_of_ble_eq_true rfl) ?_
  intro p e s m ar below meth c A Q F hE hsz hA hW hret ls hl
  obtain ⟨hx, hb, hml, hown, hts⟩ := id F
  have hl : lv_has ls 1 [(0, .ref (adK i0))] := hl
  refine va_gets hx hb (va_Z.narrow hE.2.1 hA) hW.2.2.2.1 hown (hts _ fl_RJ0_38) (fun _ h => h) dJ0_isLatin1_aae02_0 ?_
  refine lv_if_eq (tgt := 17) hx hb dJ0_isLatin1_aae02_3 (by decide) (fun c_1 => ?_) (fun c_1 => ?_)
  ·
    exact absurd c_1 (by decide)
  ·
    refine lv_aload_n hx hb dJ0_isLatin1_aae02_6 rfl (lv_at hl 0 rfl) ?_
    refine vk_getf hx hb ((vk_S.narrow hE.2.2.2.1 hA).1 i0 hi).2.1 hW.2.2.2.1 hown (hts _ fl_RJ0_15) (fun _ h => h) dJ0_isLatin1_aae02_7 ?_
    refine lv_if_ne (tgt := 17) hx hb dJ0_isLatin1_aae02_10 (by decide) (fun c_2 => ?_) (fun c_2 => ?_)
    ·
      exact absurd c_2 (by decide)
    ·
      refine lv_iconst (v := 1) hx hb dJ0_isLatin1_aae02_13 (by decide) ?_
      refine lv_goto (tgt := 18) hx hb dJ0_isLatin1_aae02_14 (by decide) ?_
      exact hret 1 () _ _ _ _ _ hW rfl rfl (rfl) dJ0_isLatin1_aae02_18
abbrev rm_yJ0_length_8abf5 : Room := { frames := 1, cells := 0, slots := 0, locals := 20 }
set_option maxHeartbeats 800000 in
set_option maxRecDepth 100000 in
theorem kJ0_length_8abf5 {l : Launch} {D : va_G} {cs : Nat → ClassId} {ad : Nat → Nat} {n : Nat} {ρ σ : Nat → Nat → Int32} {TT τ : Nat → Nat → Nat → Int32} {sz : Nat} {adK adV : Nat → Nat} {i0 : Nat} (hi : i0 < 12) : XSi l yJ0_length_8abf5 cJ0_length_8abf5 1 FieldType.int rm_yJ0_length_8abf5 [.ref (adK i0)] D cs ad n ρ TT τ σ sz adK adV (fun (r : Int32) (u : Unit) => r = nI (lenW.getD i0 0)) (fun u : Unit => xent ad cs n ρ TT τ σ) := by
  refine gw_stIs (Ff := fun u : Unit => xent ad cs n ρ TT τ σ) (own := RJ0) (by decide +kernel) rfl (Nat.le_of_ble_eq_true rfl) ?_
  intro p e s m ar below meth c A Q F hE hsz hA hW hret ls hl
  obtain ⟨hx, hb, hml, hown, hts⟩ := id F
  have hl : lv_has ls 1 [(0, .ref (adK i0))] := hl
  refine lv_aload_n hx hb dJ0_length_8abf5_0 rfl (lv_at hl 0 rfl) ?_
  refine vk_getf hx hb ((vk_S.narrow hE.2.2.2.1 hA).1 i0 hi).2.2.1 hW.2.2.2.1 hown (hts _ fl_RJ0_9) (fun _ h => h) dJ0_length_8abf5_1 ?_
  refine va_tlen hx hb ((vk_S.narrow hE.2.2.2.1 hA).1 i0 hi).2.2.2 hW.2.2.2.1 rfl dJ0_length_8abf5_4 ?_
  refine lv_aload_n hx hb dJ0_length_8abf5_5 rfl (lv_at hl 0 rfl) ?_
  refine gw_callTi (As := []) (rest := [.int (nI (lenW.getD i0 0))]) F hl.1 hW (xs_hE hE hA hsz hW) XS_E (vk_recv (vk_S.narrow hE.2.2.2.1 hA) hi hW.2.2.2.1) (kJ0_coder_7d493 (adK := adK) (adV := adV) hi) pd_yJ0_coder_7d493 ml_RJ0_335 im_yJ0_coder_7d493 se_yJ0_coder_7d493 ini_RJ0 cd_yJ0_coder_7d493 ⟨rfl, rfl⟩ ⟨Nat.le_of_ble_eq_true rfl, Nat.le_of_ble_eq_true rfl⟩ rfl rfl (Nat.le_of_ble_eq_true rfl) ⟨Nat.zero_le _, Nat.zero_le _⟩ dJ0_length_8abf5_6 (fun r u H locs hp hW _ _ => ?_)
  subst hp
  refine lv_ishr hx hb dJ0_length_8abf5_9 ?_
  refine lv_as (z := nI (lenW.getD i0 0)) (shr_0 _) ?_
  exact hret (nI (lenW.getD i0 0)) () _ _ _ _ _ hW rfl rfl (rfl) dJ0_length_8abf5_10
abbrev rm_yJ3_checkIndex_8e157 : Room := { frames := 0, cells := 0, slots := 0, locals := 0 }
set_option maxHeartbeats 800000 in
set_option maxRecDepth 100000 in
theorem kJ3_checkIndex_n {l : Launch} {D : va_G} {cs : Nat → ClassId} {ad : Nat → Nat} {n : Nat} {ρ σ : Nat → Nat → Int32} {TT τ : Nat → Nat → Nat → Int32} {sz : Nat} {adK adV : Nat → Nat} {k0 N0 tk : Nat} (hk : k0 < N0) (hN : N0 < 2 ^ 31) : XSi l yJ3_checkIndex_8e157 cJ3_checkIndex_8e157 3 FieldType.int rm_yJ3_checkIndex_8e157 [.int (nI k0), .int (nI N0), .null] D cs ad n ρ TT τ σ sz adK adV (fun (r : Int32) (u : Unit) => r = nI k0) (fun u : Unit => xent ad cs n ρ TT τ σ) := by
  refine gw_stIs (Ff := fun u : Unit => xent ad cs n ρ TT τ σ) (own := RJ3) (by decide +kernel) rfl (Nat.le_of_ble_eq_true rfl) ?_
  intro p e s m ar below meth c A Q F hE hsz hA hW hret ls hl
  obtain ⟨hx, hb, hml, hown, hts⟩ := id F
  have hl : lv_has ls 3 [(0, .int (nI k0)), (1, .int (nI N0)), (2, .null)] := hl
  refine lv_iload_n hx hb dJ3_checkIndex_8e157_0 rfl (lv_at hl 0 rfl) ?_
  refine lv_if_lt (tgt := 9) hx hb dJ3_checkIndex_8e157_1 (by decide) (fun c_1 => ?_) (fun c_1 => ?_)
  ·
    exact absurd c_1 (nI_pos (by omega))
  ·
    refine lv_iload_n hx hb dJ3_checkIndex_8e157_4 rfl (lv_at hl 0 rfl) ?_
    refine lv_iload_n hx hb dJ3_checkIndex_8e157_5 rfl (lv_at hl 1 rfl) ?_
    refine lv_icmp_lt (tgt := 16) hx hb dJ3_checkIndex_8e157_6 (by decide) (fun c_2 => ?_) (fun c_2 => ?_)
    ·
      refine lv_iload_n hx hb dJ3_checkIndex_8e157_16 rfl (lv_at hl 0 rfl) ?_
      exact hret (nI k0) () _ _ _ _ _ hW rfl rfl (rfl) dJ3_checkIndex_8e157_17
    ·
      exact absurd (mi_nlt c_2 (by omega) (by omega)) (by omega)
set_option maxHeartbeats 800000 in
set_option maxRecDepth 100000 in
theorem kJ3_checkIndex_r {l : Launch} {D : va_G} {cs : Nat → ClassId} {ad : Nat → Nat} {n : Nat} {ρ σ : Nat → Nat → Int32} {TT τ : Nat → Nat → Nat → Int32} {sz : Nat} {adK adV : Nat → Nat} {k0 N0 tk : Nat} (hk : k0 < N0) (hN : N0 < 2 ^ 31) : XSi l yJ3_checkIndex_8e157 cJ3_checkIndex_8e157 3 FieldType.int rm_yJ3_checkIndex_8e157 [.int (nI k0), .int (nI N0), .ref tk] D cs ad n ρ TT τ σ sz adK adV (fun (r : Int32) (u : Unit) => r = nI k0) (fun u : Unit => xent ad cs n ρ TT τ σ) := by
  refine gw_stIs (Ff := fun u : Unit => xent ad cs n ρ TT τ σ) (own := RJ3) (by decide +kernel) rfl (Nat.le_of_ble_eq_true rfl) ?_
  intro p e s m ar below meth c A Q F hE hsz hA hW hret ls hl
  obtain ⟨hx, hb, hml, hown, hts⟩ := id F
  have hl : lv_has ls 3 [(0, .int (nI k0)), (1, .int (nI N0)), (2, .ref tk)] := hl
  refine lv_iload_n hx hb dJ3_checkIndex_8e157_0 rfl (lv_at hl 0 rfl) ?_
  refine lv_if_lt (tgt := 9) hx hb dJ3_checkIndex_8e157_1 (by decide) (fun c_1 => ?_) (fun c_1 => ?_)
  ·
    exact absurd c_1 (nI_pos (by omega))
  ·
    refine lv_iload_n hx hb dJ3_checkIndex_8e157_4 rfl (lv_at hl 0 rfl) ?_
    refine lv_iload_n hx hb dJ3_checkIndex_8e157_5 rfl (lv_at hl 1 rfl) ?_
    refine lv_icmp_lt (tgt := 16) hx hb dJ3_checkIndex_8e157_6 (by decide) (fun c_2 => ?_) (fun c_2 => ?_)
    ·
      refine lv_iload_n hx hb dJ3_checkIndex_8e157_16 rfl (lv_at hl 0 rfl) ?_
      exact hret (nI k0) () _ _ _ _ _ hW rfl rfl (rfl) dJ3_checkIndex_8e157_17
    ·
      exact absurd (mi_nlt c_2 (by omega) (by omega)) (by omega)
abbrev rm_yJ0_checkIndex_df160 : Room := { frames := 1, cells := 0, slots := 0, locals := 22 }
set_option maxHeartbeats 800000 in
set_option maxRecDepth 100000 in
theorem kJ0_checkIndex_df160 {l : Launch} {D : va_G} {cs : Nat → ClassId} {ad : Nat → Nat} {n : Nat} {ρ σ : Nat → Nat → Int32} {TT τ : Nat → Nat → Nat → Int32} {sz : Nat} {adK adV : Nat → Nat} {k0 N0 : Nat} (hk : k0 < N0) (hN : N0 < 2 ^ 31) : XSv l yJ0_checkIndex_df160 cJ0_checkIndex_df160 2 rm_yJ0_checkIndex_df160 [.int (nI k0), .int (nI N0)] D cs ad n ρ TT τ σ sz adK adV (fun (u : Unit) => True) (fun u : Unit => xent ad cs n ρ TT τ σ) := by
  refine gw_stVs (Ff := fun u : Unit => xent ad cs n ρ TT τ σ) (own := RJ0) (by decide +kernel) rfl (Nat.le_of_ble_eq_true rfl) ?_
  intro p e s m ar below meth c A Q F hE hsz hA hW hret ls hl
  obtain ⟨hx, hb, hml, hown, hts⟩ := id F
  have hl : lv_has ls 2 [(0, .int (nI k0)), (1, .int (nI N0))] := hl
  refine lv_iload_n hx hb dJ0_checkIndex_df160_0 rfl (lv_at hl 0 rfl) ?_
  refine lv_iload_n hx hb dJ0_checkIndex_df160_1 rfl (lv_at hl 1 rfl) ?_
  rcases va_Zq.narrow hE.2.2.1 hA with hz | ⟨tk, hz⟩
  ·
    refine va_gets hx hb hz hW.2.2.2.1 hown (hts _ fl_RJ0_1053) (fun _ h => h) dJ0_checkIndex_df160_2 ?_
    refine gw_callSi (As := [.int (nI k0), .int (nI N0), .null]) (rest := []) F hl.1 hW (xs_hE hE hA hsz hW) XS_E (kJ3_checkIndex_n (adK := adK) (adV := adV) (tk := 0) hk hN) pd_yJ3_checkIndex_8e157 ml_RJ0_1059 st_yJ3_checkIndex_8e157 ini_RJ3 cd_yJ3_checkIndex_8e157 ⟨rfl, rfl⟩ ⟨Nat.le_of_ble_eq_true rfl, Nat.le_of_ble_eq_true rfl⟩ rfl rfl (Nat.le_of_ble_eq_true rfl) ⟨Nat.zero_le _, Nat.zero_le _⟩ dJ0_checkIndex_df160_5 (fun r u H locs hp hW _ _ => ?_)
    subst hp
    refine lv_pop hx hb dJ0_checkIndex_df160_8 rfl ?_
    exact hret () _ _ _ _ _ hW rfl (trivial) dJ0_checkIndex_df160_9
  ·
    refine va_gets hx hb hz hW.2.2.2.1 hown (hts _ fl_RJ0_1053) (fun _ h => h) dJ0_checkIndex_df160_2 ?_
    refine gw_callSi (As := [.int (nI k0), .int (nI N0), .ref tk]) (rest := []) F hl.1 hW (xs_hE hE hA hsz hW) XS_E (kJ3_checkIndex_r (adK := adK) (adV := adV) (tk := tk) hk hN) pd_yJ3_checkIndex_8e157 ml_RJ0_1059 st_yJ3_checkIndex_8e157 ini_RJ3 cd_yJ3_checkIndex_8e157 ⟨rfl, rfl⟩ ⟨Nat.le_of_ble_eq_true rfl, Nat.le_of_ble_eq_true rfl⟩ rfl rfl (Nat.le_of_ble_eq_true rfl) ⟨Nat.zero_le _, Nat.zero_le _⟩ dJ0_checkIndex_df160_5 (fun r u H locs hp hW _ _ => ?_)
    subst hp
    refine lv_pop hx hb dJ0_checkIndex_df160_8 rfl ?_
    exact hret () _ _ _ _ _ hW rfl (trivial) dJ0_checkIndex_df160_9
abbrev rm_yJ1_charAt_3b067 : Room := { frames := 2, cells := 0, slots := 0, locals := 43 }
set_option maxHeartbeats 800000 in
set_option maxRecDepth 100000 in
theorem kJ1_charAt_3b067 {l : Launch} {D : va_G} {cs : Nat → ClassId} {ad : Nat → Nat} {n : Nat} {ρ σ : Nat → Nat → Int32} {TT τ : Nat → Nat → Nat → Int32} {sz : Nat} {adK adV : Nat → Nat} {i0 k0 : Nat} (hi : i0 < 12) (hk : k0 < lenW.getD i0 0) : XSi l yJ1_charAt_3b067 cJ1_charAt_3b067 2 FieldType.char rm_yJ1_charAt_3b067 [.ref (adV i0), .int (nI k0)] D cs ad n ρ TT τ σ sz adK adV (fun (r : Int32) (u : Unit) => r = chW i0 k0) (fun u : Unit => xent ad cs n ρ TT τ σ) := by
  refine gw_stIs (Ff := fun u : Unit => xent ad cs n ρ TT τ σ) (own := RJ1) (by decide +kernel) rfl (Nat.le_of_ble_eq_true rfl) ?_
  intro p e s m ar below meth c A Q F hE hsz hA hW hret ls hl
  obtain ⟨hx, hb, hml, hown, hts⟩ := id F
  have hl : lv_has ls 2 [(0, .ref (adV i0)), (1, .int (nI k0))] := hl
  refine lv_iload_n hx hb dJ1_charAt_3b067_0 rfl (lv_at hl 1 rfl) ?_
  refine lv_aload_n hx hb dJ1_charAt_3b067_1 rfl (lv_at hl 0 rfl) ?_
  refine va_tlen hx hb ((vk_S.narrow hE.2.2.2.1 hA).1 i0 hi).2.2.2 hW.2.2.2.1 rfl dJ1_charAt_3b067_2 ?_
  refine gw_callSv (As := [.int (nI k0), .int (nI (lenW.getD i0 0))]) (rest := []) F hl.1 hW (xs_hE hE hA hsz hW) XS_E (kJ0_checkIndex_df160 (adK := adK) (adV := adV) (k0 := k0) (N0 := lenW.getD i0 0) hk (by have := lenW_lt i0 hi; omega)) pd_yJ0_checkIndex_df160 ml_RJ1_9 st_yJ0_checkIndex_df160 ini_RJ0 cd_yJ0_checkIndex_df160 ⟨rfl, rfl⟩ ⟨Nat.le_of_ble_eq_true rfl, Nat.le_of_ble_eq_true rfl⟩ rfl rfl (Nat.le_of_ble_eq_true rfl) ⟨Nat.zero_le _, Nat.zero_le _⟩ dJ1_charAt_3b067_3 (fun u H locs hp hW _ _ => ?_)
  refine lv_aload_n hx hb dJ1_charAt_3b067_6 rfl (lv_at hl 0 rfl) ?_
  refine lv_iload_n hx hb dJ1_charAt_3b067_7 rfl (lv_at hl 1 rfl) ?_
  refine va_tb hx hb ((vk_S.narrow hE.2.2.2.1 hA).1 i0 hi).2.2.2 hW.2.2.2.1 (vp_in_nI hk (by have := lenW_lt i0 hi; omega)) (v := .int (chW i0 k0)) (by rw [nI_clamp (by have := lenW_lt i0 hi; omega)]; rfl) dJ1_charAt_3b067_8 ?_
  refine lv_sipush (v := 255) hx hb dJ1_charAt_3b067_9 (by decide) ?_
  refine lv_iand hx hb dJ1_charAt_3b067_12 ?_
  refine lv_i2c hx hb dJ1_charAt_3b067_13 (chW_c i0 hi k0 (by have := lenW_lt i0 hi; omega)) ?_
  exact hret _ () _ _ _ _ _ hW rfl (chW_n i0 hi k0 (by have := lenW_lt i0 hi; omega)) rfl dJ1_charAt_3b067_14
abbrev rm_yJ0_charAt_5068e : Room := { frames := 3, cells := 0, slots := 0, locals := 64 }
set_option maxHeartbeats 800000 in
set_option maxRecDepth 100000 in
theorem kJ0_charAt_5068e {l : Launch} {D : va_G} {cs : Nat → ClassId} {ad : Nat → Nat} {n : Nat} {ρ σ : Nat → Nat → Int32} {TT τ : Nat → Nat → Nat → Int32} {sz : Nat} {adK adV : Nat → Nat} {i0 k0 : Nat} (hi : i0 < 12) (hk : k0 < lenW.getD i0 0) : XSi l yJ0_charAt_5068e cJ0_charAt_5068e 2 FieldType.char rm_yJ0_charAt_5068e [.ref (adK i0), .int (nI k0)] D cs ad n ρ TT τ σ sz adK adV (fun (r : Int32) (u : Unit) => r = chW i0 k0) (fun u : Unit => xent ad cs n ρ TT τ σ) := by
  refine gw_stIs (Ff := fun u : Unit => xent ad cs n ρ TT τ σ) (own := RJ0) (by decide +kernel) rfl (Nat.le_of_ble_eq_true rfl) ?_
  intro p e s m ar below meth c A Q F hE hsz hA hW hret ls hl
  obtain ⟨hx, hb, hml, hown, hts⟩ := id F
  have hl : lv_has ls 2 [(0, .ref (adK i0)), (1, .int (nI k0))] := hl
  refine lv_aload_n hx hb dJ0_charAt_5068e_0 rfl (lv_at hl 0 rfl) ?_
  refine gw_callTi (As := []) (rest := []) F hl.1 hW (xs_hE hE hA hsz hW) XS_E (vk_recv (vk_S.narrow hE.2.2.2.1 hA) hi hW.2.2.2.1) (kJ0_isLatin1_aae02 (adK := adK) (adV := adV) hi) pd_yJ0_isLatin1_aae02 ml_RJ0_492 im_yJ0_isLatin1_aae02 se_yJ0_isLatin1_aae02 ini_RJ0 cd_yJ0_isLatin1_aae02 ⟨rfl, rfl⟩ ⟨Nat.le_of_ble_eq_true rfl, Nat.le_of_ble_eq_true rfl⟩ rfl rfl (Nat.le_of_ble_eq_true rfl) ⟨Nat.zero_le _, Nat.zero_le _⟩ dJ0_charAt_5068e_1 (fun r u H locs hp hW _ _ => ?_)
  subst hp
  refine lv_if_eq (tgt := 16) hx hb dJ0_charAt_5068e_4 (by decide) (fun c_1 => ?_) (fun c_1 => ?_)
  ·
    exact absurd c_1 (by decide)
  ·
    refine lv_aload_n hx hb dJ0_charAt_5068e_7 rfl (lv_at hl 0 rfl) ?_
    refine vk_getf hx hb ((vk_S.narrow hE.2.2.2.1 hA).1 i0 hi).2.2.1 hW.2.2.2.1 hown (hts _ fl_RJ0_9) (fun _ h => h) dJ0_charAt_5068e_8 ?_
    refine lv_iload_n hx hb dJ0_charAt_5068e_11 rfl (lv_at hl 1 rfl) ?_
    refine gw_callSi (As := [.ref (adV i0), .int (nI k0)]) (rest := []) F hl.1 hW (xs_hE hE hA hsz hW) XS_E (kJ1_charAt_3b067 (adK := adK) (adV := adV) hi hk) pd_yJ1_charAt_3b067 ml_RJ0_495 st_yJ1_charAt_3b067 ini_RJ1 cd_yJ1_charAt_3b067 ⟨rfl, rfl⟩ ⟨Nat.le_of_ble_eq_true rfl, Nat.le_of_ble_eq_true rfl⟩ rfl rfl (Nat.le_of_ble_eq_true rfl) ⟨Nat.zero_le _, Nat.zero_le _⟩ dJ0_charAt_5068e_12 (fun r u H locs hp hW _ _ => ?_)
    subst hp
    exact hret _ () _ _ _ _ _ hW rfl (chW_n i0 hi k0 (by have := lenW_lt i0 hi; omega)) rfl dJ0_charAt_5068e_15
