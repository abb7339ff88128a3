/-! ===== a side's world: ids 0 .. N-1, their addresses, their contents ===== -/
def gw_L (N : Nat) (ad : Nat → Nat) (f : Nat → va_E) : va_W := (List.range N).map fun o => (ad o, f o)
theorem gw_len (N : Nat) (ad : Nat → Nat) (f : Nat → va_E) : (gw_L N ad f).length = N := by simp [gw_L]
theorem gw_get {N : Nat} {ad : Nat → Nat} {f : Nat → va_E} {o : Nat} (h : o < N) : (gw_L N ad f)[o]? = some (ad o, f o) := by
  simp [gw_L, h]
theorem gw_inv {N : Nat} {ad : Nat → Nat} {f : Nat → va_E} {k : Nat} {q : Nat × va_E} (h : (gw_L N ad f)[k]? = some q) : k < N ∧ q = (ad k, f k) := by
  have hk : k < N := by
    have h1 := (List.getElem?_eq_some_iff.mp h).1
    rwa [gw_len] at h1
  rw [gw_get hk] at h
  exact ⟨hk, (Option.some.inj h).symm⟩
theorem gw_set {N : Nat} {ad : Nat → Nat} {f g : Nat → va_E} {o : Nat} {e : va_E} (h : o < N) (he : g o = e) (hn : ∀ q, q ≠ o → g q = f q) : (gw_L N ad f).set o (ad o, e) = gw_L N ad g := by
  apply List.ext_getElem?
  intro i
  by_cases hi : i = o
  · subst hi
    rw [List.getElem?_set_self (by rw [gw_len]; exact h), gw_get h, he]
  · rw [List.getElem?_set_ne (Ne.symm hi)]
    by_cases hl : i < N
    · rw [gw_get hl, gw_get hl, hn i hi]
    · rw [List.getElem?_eq_none (by rw [gw_len]; omega), List.getElem?_eq_none (by rw [gw_len]; omega)]
theorem gw_Dc {N : Nat} {ad : Nat → Nat} {f g : Nat → va_E} {A B : Nat → Prop} (h : va_D A (gw_L N ad f)) (hB : ∀ o, o < N → B (ad o)) : va_D B (gw_L N ad g) :=
  ⟨fun i j x z hi hj he => by
    obtain ⟨li, rfl⟩ := gw_inv hi
    obtain ⟨lj, rfl⟩ := gw_inv hj
    exact h.1 i j _ _ (gw_get li) (gw_get lj) he, fun k x hk => by
    obtain ⟨lk, rfl⟩ := gw_inv hk
    exact hB k lk⟩
theorem gw_in {N : Nat} {ad : Nat → Nat} {f : Nat → va_E} {A : Nat → Prop} (h : va_D A (gw_L N ad f)) {o : Nat} (ho : o < N) : A (ad o) := h.2 o _ (gw_get ho)
/-- what a method of a side may change: the side's cells, and what is new -/
def gw_A (N : Nat) (ad : Nat → Nat) (sz : Nat) : Nat → Prop := fun q => (∃ o, o < N ∧ q = ad o) ∨ sz ≤ q
def GW (D : va_G) (tys : List (ClassId × FieldType)) (N : Nat) (ad : Nat → Nat) (f : Nat → va_E) (A : Nat → Prop) (s : State) (H0 H : Heap) (locs : List Loc) : Prop :=
  va_P D vwCl (gw_L N ad f) H ∧ va_K D vwCl tys s ∧ va_D A (gw_L N ad f) ∧ va_S A H0 H locs ∧ ∀ q, H0.size ≤ q → A q
theorem GW.free {D : va_G} {tys : List (ClassId × FieldType)} {N : Nat} {ad : Nat → Nat} {f : Nat → va_E} {A : Nat → Prop} {s : State} {H0 H : Heap} {locs : List Loc} (h : GW D tys N ad f A s H0 H locs) : ∀ q, gw_A N ad H.size q → A q := by
  intro q hq
  rcases hq with ⟨o, ho, rfl⟩ | hq
  · exact gw_in h.2.2.1 ho
  · exact h.2.2.2.2 q (Nat.le_trans h.2.2.2.1.1 hq)
/-- a contract's start -/
def gw_B (D : va_G) (tys : List (ClassId × FieldType)) (N : Nat) (ad : Nat → Nat) (f : Nat → va_E) (sz : Nat) (E : State → Prop) : State → Prop := fun U =>
  U.heap.size = sz ∧ va_P D vwCl (gw_L N ad f) U.heap ∧ va_K D vwCl tys U ∧ va_D (fun _ => True) (gw_L N ad f) ∧ E U
def gw_E (E : State → Prop) : Prop := ∀ (U : State) (g : JFrame) (mk : MethodId) (a : Array Value), E U → E (U.calling g mk a)
def gw_T : State → Prop := fun _ => True
theorem gw_T_E : gw_E gw_T := fun _ _ _ _ h => h
section GWS
variable {p : Program} {l : Launch} {e : Env} {R : Room} {s : State} {m : MethodId} {args : Array Value} {below : List Frame} {meth : Method} {c : Code} {H H0 : Heap} {locs : List Loc} {cells slots : Nat} {Q : State → Prop}
variable {cc bytes : ByteArray} {pc nL maxL idx np N sz : Nat} {ls : Array Slot} {rest st0 As : List Value} {D : va_G} {A : Nat → Prop} {tys : List (ClassId × FieldType)} {ad : Nat → Nat} {f : Nat → va_E} {own : String} {y : MethodName} {rm : Room} {E : State → Prop}

theorem gw_blind (hE : gw_E E) {av : List Value} : FrameBlind (va_Pc av (gw_B D tys N ad f sz E)) := fun a U g mk q =>
  ⟨q.1, q.2.1, q.2.2.1, va_K.moved (u := U) (U := U.calling g mk a) (Vm.Alike.refl U.vm) q.2.2.2.1, q.2.2.2.2.1, hE U g mk a q.2.2.2.2.2⟩
theorem gw_pre (hW : GW D tys N ad f A s H0 H locs) (hE : ∀ U : State, U.heap = H → s.WarmedH U.vm → E U) {av : List Value} : ∀ U : State, U.heap = H → s.WarmedH U.vm → va_Pc av (gw_B D tys N ad f H.size E) av.toArray U := fun U hU hw =>
  ⟨rfl, by rw [hU], by rw [hU]; exact hW.1, va_K.moved hw.alike hW.2.1, gw_Dc hW.2.2.1 (fun _ _ => trivial), hE U hU hw⟩
/-- a method's start, out of its contract's -/
theorem gw_start {n : Nat} {ret : Option FieldType} {Qc : Array Value → State → Outcome → State → Prop} (hy : plainName y.cls = true) (ho : y.cls = own) (hlen : (lg_sl As).length ≤ n)
    (body : ∀ (p : Program) (e : Env) (s : State) (m : MethodId) (below : List Frame) (meth : Method) (c : Code), CallFix p m c cc n s As.toArray TBL own → meth.sig.returnType = ret → meth.locks = false → E s → s.heap.size = sz → GW D tys N ad f (gw_A N ad sz) s s.heap s.heap [] →
      ∀ ls : Array Slot, lv_has ls n (lv_args 0 As) → W p l e rm s m As.toArray below meth c s.heap [] 0 0 (MQ below Qc As.toArray s 0 0 (gw_A N ad sz)) (F0 m 0 ls [])) :
    Met l y (WSm y cc n ret) rm (va_Pc As (gw_B D tys N ad f sz E)) Qc 0 0 (gw_A N ad sz) := by
  refine Met.ofW (cc := cc) (maxL := n) (ret := ret) hy rfl ?_
  intro p e s m args below meth c s₁ B hml hv
  obtain ⟨rfl, hsz, hP, hK, hD, hE⟩ := hv
  have hts := atoms_spec (ws := WSm y cc n ret) B.pre
  have hown : s.vm.findClass own = some m.cls := by rw [← ho]; exact findClass_of_methodNamed B.named
  rw [lg_entry_eq]
  refine body p e s m below meth c ⟨B.exec, B.bytes, hml, hown, fun w hw => hts w (List.mem_cons_of_mem _ hw)⟩ B.returns B.notSynchronized hE hsz ⟨hP, hK, gw_Dc hD (fun o ho => Or.inl ⟨o, ho, rfl⟩), va_S.rf, fun q hq => Or.inr (by rw [← hsz]; exact hq)⟩ _ (lv_entry As hlen)
/-- a pure static method's start -/
theorem gw_startS {n : Nat} {ret : Option FieldType} {r : Int32} (hy : plainName y.cls = true) (ho : y.cls = own) (hlen : (lg_sl As).length ≤ n)
    (body : ∀ (p : Program) (e : Env) (s : State) (m : MethodId) (below : List Frame) (meth : Method) (c : Code), CallFix p m c cc n s As.toArray TBL own → meth.sig.returnType = ret → meth.locks = false →
      ∀ ls : Array Slot, lv_has ls n (lv_args 0 As) → W p l e rm s m As.toArray below meth c s.heap [] 0 0 (MQ below (QcRead r) As.toArray s 0 0 (fun _ => False)) (F0 m 0 ls [])) :
    Met l y (WSm y cc n ret) rm (fun v _ => v = As.toArray) (QcRead r) 0 0 (fun _ => False) := by
  refine Met.ofW (cc := cc) (maxL := n) (ret := ret) hy rfl ?_
  intro p e s m args below meth c s₁ B hml hv
  subst hv
  have hts := atoms_spec (ws := WSm y cc n ret) B.pre
  have hown : s.vm.findClass own = some m.cls := by rw [← ho]; exact findClass_of_methodNamed B.named
  rw [lg_entry_eq]
  exact body p e s m below meth c ⟨B.exec, B.bytes, hml, hown, fun w hw => hts w (List.mem_cons_of_mem _ hw)⟩ B.returns B.notSynchronized _ (lv_entry As hlen)
theorem gw_sret {v r : Int32} {ty : FieldType} (F : CallFix p m c cc nL s args TBL own) (hr : meth.sig.returnType = some ty) (hlocks : meth.locks = false) (hn : narrow ty (.int v) = .int v) (hv : v = r) (hdg : decode cc pc = .ok (.ireturn, 1)) :
    W p l e R s m args below meth c s.heap [] cells slots (MQ below (QcRead r) args s cells slots (fun _ => False)) (F0 m pc ls [.int v]) :=
  W.zret F.1 F.2.1 hr hn (fun t ht _ => ⟨by rw [hv], ht⟩) (fun _ h => by cases h) hdg hlocks
theorem gw_zn (b : Prop) [Decidable b] : narrow .boolean (.int (if b then 1 else 0)) = .int (if b then 1 else 0) := by split <;> rfl
theorem gw_iret {S : Type} {post : Int32 → S → Prop} {Ff : S → Nat → va_E} {v : Int32} {ty : FieldType} (F : CallFix p m c cc nL s args TBL own) (hr : meth.sig.returnType = some ty) (hlocks : meth.locks = false) (hn : narrow ty (.int v) = .int v) (hW : GW D tys N ad f A s s.heap H locs) (u : S) (hf : Ff u = f) (hp : post v u) (hdg : decode cc pc = .ok (.ireturn, 1)) :
    W p l e R s m args below meth c H locs cells slots (MQ below (va_Qi post (fun u t => va_P D vwCl (gw_L N ad (Ff u)) t.heap) A) args s cells slots A) (F0 m pc ls [.int v]) :=
  W.zret F.1 F.2.1 hr hn (fun t ht _ => ⟨⟨v, u, rfl, hp, by show va_P D vwCl (gw_L N ad (Ff u)) t.heap; rw [ht, hf]; exact hW.1⟩, hW.2.2.2.1.F ht⟩) hW.2.2.2.1.2.2 hdg hlocks
theorem gw_lret {S : Type} {post : Int64 → S → Prop} {Ff : S → Nat → va_E} {v : Int64} (F : CallFix p m c cc nL s args TBL own) (hr : meth.sig.returnType = some .long) (hlocks : meth.locks = false) (hW : GW D tys N ad f A s s.heap H locs) (u : S) (hf : Ff u = f) (hp : post v u) (hdg : decode cc pc = .ok (.lreturn, 1)) :
    W p l e R s m args below meth c H locs cells slots (MQ below (va_Ql post (fun u t => va_P D vwCl (gw_L N ad (Ff u)) t.heap) A) args s cells slots A) (F0 m pc ls [.long v]) :=
  W.lret F.1 F.2.1 hr (fun t ht _ => ⟨⟨v, u, rfl, hp, by show va_P D vwCl (gw_L N ad (Ff u)) t.heap; rw [ht, hf]; exact hW.1⟩, hW.2.2.2.1.F ht⟩) hW.2.2.2.1.2.2 hdg hlocks
theorem gw_vret {S : Type} {post : S → Prop} {Ff : S → Nat → va_E} (F : CallFix p m c cc nL s args TBL own) (hr : meth.sig.returnType = none) (hlocks : meth.locks = false) (hW : GW D tys N ad f A s s.heap H locs) (u : S) (hf : Ff u = f) (hp : post u) (hdg : decode cc pc = .ok (.return_, 1)) :
    W p l e R s m args below meth c H locs cells slots (MQ below (va_Qv post (fun u t => va_P D vwCl (gw_L N ad (Ff u)) t.heap) A) args s cells slots A) (F0 m pc ls []) :=
  W.vret F.1 F.2.1 hr (fun t ht _ => ⟨⟨u, rfl, hp, by show va_P D vwCl (gw_L N ad (Ff u)) t.heap; rw [ht, hf]; exact hW.1⟩, hW.2.2.2.1.F ht⟩) hW.2.2.2.1.2.2 hdg hlocks
theorem gw_after {S : Type} {Ff : S → Nat → va_E} {u : S} {t : State} {H1 : Heap} {locs1 : List Loc} (hW : GW D tys N ad f A s H0 H locs) (ht : t.heap = H1) (hB : va_P D vwCl (gw_L N ad (Ff u)) t.heap) (hS : va_S A H0 H1 locs1) : GW D tys N ad (Ff u) A s H0 H1 locs1 :=
  ⟨by rw [← ht]; exact hB, hW.2.1, gw_Dc hW.2.2.1 (fun _ ho => gw_in hW.2.2.1 ho), hS, hW.2.2.2.2⟩
/-- a method's name, said once: class, no handle's, how many parameters -/
def gw_pd (y : MethodName) (C : String) (np : Nat) : Prop := y.cls = C ∧ y.cls ≠ "java/lang/invoke/MethodHandle" ∧ y.cls ≠ "java/lang/invoke/VarHandle" ∧ (parseMethodDescriptor y.desc).map (fun d => d.parameters.length) = some np
theorem gw_cb {C : String} {ret : Option FieldType} (F : CallFix p m c cc nL s args TBL own) (hd : gw_pd y C np) (w1 : Cond.methodLink own idx y ∈ TBL) (w4 : Cond.initialized C ∈ TBL) (w5 : Cond.code y bytes maxL ret ∈ TBL) (hrm : rm.cells = 0 ∧ rm.slots = 0) (hR : rm.frames + 1 ≤ R.frames ∧ 8 + (maxL + 11) + rm.locals ≤ R.locals) :
    CallB R s args own idx y bytes maxL ret (WSm y bytes maxL ret) rm 0 0 np :=
  callB_of (Ts := TBL) np F.2.2.2.2 (good_WSm w5) rfl hrm.1 hrm.2 (by rw [hd.1]; exact F.2.2.2.2 _ w4) (F.2.2.2.2 _ w1) hd.2 hR
theorem gw_callVi {ty : FieldType} {S : Type} {post : Int32 → S → Prop} {Ff : S → Nat → va_E} {o ci : Nat} {fs : List Value} {q : vw_C} (F : CallFix p m c cc nL s args TBL own) (hls : ls.size = nL) (hW : GW D tys N ad f A s H0 H locs) (hE : ∀ U : State, U.heap = H → s.WarmedH U.vm → E U) (hEb : gw_E E) (ho : o < N) (he : f o = .inr (ci, fs)) (hc : vwCl[ci]? = some q)
    (hM : Met l y (WSm y bytes maxL (some ty)) rm (va_Pc (.ref (ad o) :: As) (gw_B D tys N ad f H.size E)) (va_Qi post (fun u t => va_P D vwCl (gw_L N ad (Ff u)) t.heap) (gw_A N ad H.size)) 0 0 (gw_A N ad H.size))
    (hd : gw_pd y q.1 np) (w1 : Cond.methodLink own idx y ∈ TBL) (w2 : Cond.instanceMethod y ∈ TBL) (w3 : Cond.selects q.1 y y ∈ TBL) (w4 : Cond.initialized q.1 ∈ TBL) (w5 : Cond.code y bytes maxL (some ty) ∈ TBL) (hrm : rm.cells = 0 ∧ rm.slots = 0) (hR : rm.frames + 1 ≤ R.frames ∧ 8 + (maxL + 11) + rm.locals ≤ R.locals)
    (hn : As.length = np) (hst : st0 = As.reverse ++ .ref (ad o) :: rest) (hcat : (rest.map fun v => v.category).sum ≤ 8) (hf : cells ≤ R.cells ∧ slots ≤ R.slots) (hdg : decode cc pc = .ok (.invokevirtual idx, 3))
    (kk : ∀ (r : Int32) (u : S) (H1 : Heap) (locs1 : List Loc), post r u → GW D tys N ad (Ff u) A s H0 H1 locs1 → H.size ≤ H1.size → (∀ x : Nat, x < H.size → ¬ gw_A N ad H.size x → H1[x]? = H[x]?) → W p l e R s m args below meth c H1 locs1 cells slots Q (F0 m (pc + 3) ls (.int r :: rest))) : W p l e R s m args below meth c H locs cells slots Q (F0 m pc ls st0) :=
  va_calli (va_runV (As := As) (rest := rest) F hM ⟨gw_cb F hd w1 w4 w5 hrm hR, F.2.2.2.2 _ w2, F.2.2.2.2 _ w3⟩ ⟨gw_blind hEb, va_recv hW.2.1 hW.1 hc ((gw_get ho).trans (by rw [he])), gw_pre hW hE⟩ rfl hn hls hst (lv_room hcat) hdg hf) hW.2.2.2.1 (fun x _ h => hW.free x h) hW.free (fun r u t H1 locs1 ht _ hp hB hz hk hS => kk r u H1 locs1 hp (gw_after hW ht hB hS) hz hk)
theorem gw_callSi {ty : FieldType} {S : Type} {post : Int32 → S → Prop} {Ff : S → Nat → va_E} {C : String} (F : CallFix p m c cc nL s args TBL own) (hls : ls.size = nL) (hW : GW D tys N ad f A s H0 H locs) (hE : ∀ U : State, U.heap = H → s.WarmedH U.vm → E U) (hEb : gw_E E)
    (hM : Met l y (WSm y bytes maxL (some ty)) rm (va_Pc As (gw_B D tys N ad f H.size E)) (va_Qi post (fun u t => va_P D vwCl (gw_L N ad (Ff u)) t.heap) (gw_A N ad H.size)) 0 0 (gw_A N ad H.size))
    (hd : gw_pd y C np) (w1 : Cond.methodLink own idx y ∈ TBL) (w2 : Cond.static y ∈ TBL) (w4 : Cond.initialized C ∈ TBL) (w5 : Cond.code y bytes maxL (some ty) ∈ TBL) (hrm : rm.cells = 0 ∧ rm.slots = 0) (hR : rm.frames + 1 ≤ R.frames ∧ 8 + (maxL + 11) + rm.locals ≤ R.locals)
    (hn : As.length = np) (hst : st0 = As.reverse ++ rest) (hcat : (rest.map fun v => v.category).sum ≤ 8) (hf : cells ≤ R.cells ∧ slots ≤ R.slots) (hdg : decode cc pc = .ok (.invokestatic idx, 3))
    (kk : ∀ (r : Int32) (u : S) (H1 : Heap) (locs1 : List Loc), post r u → GW D tys N ad (Ff u) A s H0 H1 locs1 → H.size ≤ H1.size → (∀ x : Nat, x < H.size → ¬ gw_A N ad H.size x → H1[x]? = H[x]?) → W p l e R s m args below meth c H1 locs1 cells slots Q (F0 m (pc + 3) ls (.int r :: rest))) : W p l e R s m args below meth c H locs cells slots Q (F0 m pc ls st0) :=
  va_calli (va_runS (As := As) (rest := rest) F hM ⟨gw_cb F hd w1 w4 w5 hrm hR, F.2.2.2.2 _ w2⟩ ⟨gw_blind hEb, gw_pre hW hE⟩ rfl hn hls hst (lv_room hcat) hdg hf) hW.2.2.2.1 (fun x _ h => hW.free x h) hW.free (fun r u t H1 locs1 ht _ hp hB hz hk hS => kk r u H1 locs1 hp (gw_after hW ht hB hS) hz hk)
theorem gw_callVl {S : Type} {post : Int64 → S → Prop} {Ff : S → Nat → va_E} {o ci : Nat} {fs : List Value} {q : vw_C} (F : CallFix p m c cc nL s args TBL own) (hls : ls.size = nL) (hW : GW D tys N ad f A s H0 H locs) (hE : ∀ U : State, U.heap = H → s.WarmedH U.vm → E U) (hEb : gw_E E) (ho : o < N) (he : f o = .inr (ci, fs)) (hc : vwCl[ci]? = some q)
    (hM : Met l y (WSm y bytes maxL (some .long)) rm (va_Pc (.ref (ad o) :: As) (gw_B D tys N ad f H.size E)) (va_Ql post (fun u t => va_P D vwCl (gw_L N ad (Ff u)) t.heap) (gw_A N ad H.size)) 0 0 (gw_A N ad H.size))
    (hd : gw_pd y q.1 np) (w1 : Cond.methodLink own idx y ∈ TBL) (w2 : Cond.instanceMethod y ∈ TBL) (w3 : Cond.selects q.1 y y ∈ TBL) (w4 : Cond.initialized q.1 ∈ TBL) (w5 : Cond.code y bytes maxL (some .long) ∈ TBL) (hrm : rm.cells = 0 ∧ rm.slots = 0) (hR : rm.frames + 1 ≤ R.frames ∧ 8 + (maxL + 11) + rm.locals ≤ R.locals)
    (hn : As.length = np) (hst : st0 = As.reverse ++ .ref (ad o) :: rest) (hcat : (rest.map fun v => v.category).sum ≤ 8) (hf : cells ≤ R.cells ∧ slots ≤ R.slots) (hdg : decode cc pc = .ok (.invokevirtual idx, 3))
    (kk : ∀ (r : Int64) (u : S) (H1 : Heap) (locs1 : List Loc), post r u → GW D tys N ad (Ff u) A s H0 H1 locs1 → H.size ≤ H1.size → (∀ x : Nat, x < H.size → ¬ gw_A N ad H.size x → H1[x]? = H[x]?) → W p l e R s m args below meth c H1 locs1 cells slots Q (F0 m (pc + 3) ls (.long r :: rest))) : W p l e R s m args below meth c H locs cells slots Q (F0 m pc ls st0) :=
  va_calll (va_runV (As := As) (rest := rest) F hM ⟨gw_cb F hd w1 w4 w5 hrm hR, F.2.2.2.2 _ w2, F.2.2.2.2 _ w3⟩ ⟨gw_blind hEb, va_recv hW.2.1 hW.1 hc ((gw_get ho).trans (by rw [he])), gw_pre hW hE⟩ rfl hn hls hst (lv_room hcat) hdg hf) hW.2.2.2.1 (fun x _ h => hW.free x h) hW.free (fun r u t H1 locs1 ht _ hp hB hz hk hS => kk r u H1 locs1 hp (gw_after hW ht hB hS) hz hk)
theorem gw_callSl {S : Type} {post : Int64 → S → Prop} {Ff : S → Nat → va_E} {C : String} (F : CallFix p m c cc nL s args TBL own) (hls : ls.size = nL) (hW : GW D tys N ad f A s H0 H locs) (hE : ∀ U : State, U.heap = H → s.WarmedH U.vm → E U) (hEb : gw_E E)
    (hM : Met l y (WSm y bytes maxL (some .long)) rm (va_Pc As (gw_B D tys N ad f H.size E)) (va_Ql post (fun u t => va_P D vwCl (gw_L N ad (Ff u)) t.heap) (gw_A N ad H.size)) 0 0 (gw_A N ad H.size))
    (hd : gw_pd y C np) (w1 : Cond.methodLink own idx y ∈ TBL) (w2 : Cond.static y ∈ TBL) (w4 : Cond.initialized C ∈ TBL) (w5 : Cond.code y bytes maxL (some .long) ∈ TBL) (hrm : rm.cells = 0 ∧ rm.slots = 0) (hR : rm.frames + 1 ≤ R.frames ∧ 8 + (maxL + 11) + rm.locals ≤ R.locals)
    (hn : As.length = np) (hst : st0 = As.reverse ++ rest) (hcat : (rest.map fun v => v.category).sum ≤ 8) (hf : cells ≤ R.cells ∧ slots ≤ R.slots) (hdg : decode cc pc = .ok (.invokestatic idx, 3))
    (kk : ∀ (r : Int64) (u : S) (H1 : Heap) (locs1 : List Loc), post r u → GW D tys N ad (Ff u) A s H0 H1 locs1 → H.size ≤ H1.size → (∀ x : Nat, x < H.size → ¬ gw_A N ad H.size x → H1[x]? = H[x]?) → W p l e R s m args below meth c H1 locs1 cells slots Q (F0 m (pc + 3) ls (.long r :: rest))) : W p l e R s m args below meth c H locs cells slots Q (F0 m pc ls st0) :=
  va_calll (va_runS (As := As) (rest := rest) F hM ⟨gw_cb F hd w1 w4 w5 hrm hR, F.2.2.2.2 _ w2⟩ ⟨gw_blind hEb, gw_pre hW hE⟩ rfl hn hls hst (lv_room hcat) hdg hf) hW.2.2.2.1 (fun x _ h => hW.free x h) hW.free (fun r u t H1 locs1 ht _ hp hB hz hk hS => kk r u H1 locs1 hp (gw_after hW ht hB hS) hz hk)
theorem gw_callVv {S : Type} {post : S → Prop} {Ff : S → Nat → va_E} {o ci : Nat} {fs : List Value} {q : vw_C} (F : CallFix p m c cc nL s args TBL own) (hls : ls.size = nL) (hW : GW D tys N ad f A s H0 H locs) (hE : ∀ U : State, U.heap = H → s.WarmedH U.vm → E U) (hEb : gw_E E) (ho : o < N) (he : f o = .inr (ci, fs)) (hc : vwCl[ci]? = some q)
    (hM : Met l y (WSm y bytes maxL none) rm (va_Pc (.ref (ad o) :: As) (gw_B D tys N ad f H.size E)) (va_Qv post (fun u t => va_P D vwCl (gw_L N ad (Ff u)) t.heap) (gw_A N ad H.size)) 0 0 (gw_A N ad H.size))
    (hd : gw_pd y q.1 np) (w1 : Cond.methodLink own idx y ∈ TBL) (w2 : Cond.instanceMethod y ∈ TBL) (w3 : Cond.selects q.1 y y ∈ TBL) (w4 : Cond.initialized q.1 ∈ TBL) (w5 : Cond.code y bytes maxL none ∈ TBL) (hrm : rm.cells = 0 ∧ rm.slots = 0) (hR : rm.frames + 1 ≤ R.frames ∧ 8 + (maxL + 11) + rm.locals ≤ R.locals)
    (hn : As.length = np) (hst : st0 = As.reverse ++ .ref (ad o) :: rest) (hcat : (rest.map fun v => v.category).sum ≤ 8) (hf : cells ≤ R.cells ∧ slots ≤ R.slots) (hdg : decode cc pc = .ok (.invokevirtual idx, 3))
    (kk : ∀ (u : S) (H1 : Heap) (locs1 : List Loc), post u → GW D tys N ad (Ff u) A s H0 H1 locs1 → H.size ≤ H1.size → (∀ x : Nat, x < H.size → ¬ gw_A N ad H.size x → H1[x]? = H[x]?) → W p l e R s m args below meth c H1 locs1 cells slots Q (F0 m (pc + 3) ls rest)) : W p l e R s m args below meth c H locs cells slots Q (F0 m pc ls st0) :=
  va_callv (va_runV (As := As) (rest := rest) F hM ⟨gw_cb F hd w1 w4 w5 hrm hR, F.2.2.2.2 _ w2, F.2.2.2.2 _ w3⟩ ⟨gw_blind hEb, va_recv hW.2.1 hW.1 hc ((gw_get ho).trans (by rw [he])), gw_pre hW hE⟩ rfl hn hls hst (lv_room hcat) hdg hf) hW.2.2.2.1 (fun x _ h => hW.free x h) hW.free (fun u t H1 locs1 ht _ hp hB hz hk hS => kk u H1 locs1 hp (gw_after hW ht hB hS) hz hk)
theorem gw_callSv {S : Type} {post : S → Prop} {Ff : S → Nat → va_E} {C : String} (F : CallFix p m c cc nL s args TBL own) (hls : ls.size = nL) (hW : GW D tys N ad f A s H0 H locs) (hE : ∀ U : State, U.heap = H → s.WarmedH U.vm → E U) (hEb : gw_E E)
    (hM : Met l y (WSm y bytes maxL none) rm (va_Pc As (gw_B D tys N ad f H.size E)) (va_Qv post (fun u t => va_P D vwCl (gw_L N ad (Ff u)) t.heap) (gw_A N ad H.size)) 0 0 (gw_A N ad H.size))
    (hd : gw_pd y C np) (w1 : Cond.methodLink own idx y ∈ TBL) (w2 : Cond.static y ∈ TBL) (w4 : Cond.initialized C ∈ TBL) (w5 : Cond.code y bytes maxL none ∈ TBL) (hrm : rm.cells = 0 ∧ rm.slots = 0) (hR : rm.frames + 1 ≤ R.frames ∧ 8 + (maxL + 11) + rm.locals ≤ R.locals)
    (hn : As.length = np) (hst : st0 = As.reverse ++ rest) (hcat : (rest.map fun v => v.category).sum ≤ 8) (hf : cells ≤ R.cells ∧ slots ≤ R.slots) (hdg : decode cc pc = .ok (.invokestatic idx, 3))
    (kk : ∀ (u : S) (H1 : Heap) (locs1 : List Loc), post u → GW D tys N ad (Ff u) A s H0 H1 locs1 → H.size ≤ H1.size → (∀ x : Nat, x < H.size → ¬ gw_A N ad H.size x → H1[x]? = H[x]?) → W p l e R s m args below meth c H1 locs1 cells slots Q (F0 m (pc + 3) ls rest)) : W p l e R s m args below meth c H locs cells slots Q (F0 m pc ls st0) :=
  va_callv (va_runS (As := As) (rest := rest) F hM ⟨gw_cb F hd w1 w4 w5 hrm hR, F.2.2.2.2 _ w2⟩ ⟨gw_blind hEb, gw_pre hW hE⟩ rfl hn hls hst (lv_room hcat) hdg hf) hW.2.2.2.1 (fun x _ h => hW.free x h) hW.free (fun u t H1 locs1 ht _ hp hB hz hk hS => kk u H1 locs1 hp (gw_after hW ht hB hS) hz hk)
/-- a call of a pure static method -/
theorem gw_callP {r : Int32} {C : String} {ty : FieldType} (F : CallFix p m c cc nL s args TBL own) (hls : ls.size = nL)
    (hM : Met l y (WSm y bytes maxL (some ty)) rm (fun v _ => v = As.toArray) (QcRead r) 0 0 (fun _ => False))
    (hd : gw_pd y C np) (w1 : Cond.methodLink own idx y ∈ TBL) (w2 : Cond.static y ∈ TBL) (w4 : Cond.initialized C ∈ TBL) (w5 : Cond.code y bytes maxL (some ty) ∈ TBL) (hrm : rm.cells = 0 ∧ rm.slots = 0) (hR : rm.frames + 1 ≤ R.frames ∧ 8 + (maxL + 11) + rm.locals ≤ R.locals)
    (hn : As.length = np) (hst : st0 = As.reverse ++ rest) (hcat : (rest.map fun v => v.category).sum ≤ 8) (hf : cells ≤ R.cells ∧ slots ≤ R.slots) (hdg : decode cc pc = .ok (.invokestatic idx, 3))
    (kk : W p l e R s m args below meth c H locs cells slots Q (F0 m (pc + 3) ls (.int r :: rest))) : W p l e R s m args below meth c H locs cells slots Q (F0 m pc ls st0) :=
  W.callR (W.runS (As := As) (rest := rest) F hM ⟨gw_cb F hd w1 w4 w5 hrm hR, F.2.2.2.2 _ w2⟩ preEq rfl hn hls hst (lv_room hcat) hdg hf) kk
/-- a call of a nest mate's pure static method -/
theorem gw_callN {r : Int32} {C host : String} {ty : FieldType} (F : CallFix p m c cc nL s args TBL own) (hls : ls.size = nL)
    (hM : Met l y (WSm y bytes maxL (some ty)) rm (fun v _ => v = As.toArray) (QcRead r) 0 0 (fun _ => False))
    (hd : gw_pd y C np) (w1 : va_Nw (.methodLinkNest own idx y host) s) (w2 : Cond.static y ∈ TBL) (w4 : Cond.initialized C ∈ TBL) (w5 : Cond.code y bytes maxL (some ty) ∈ TBL) (hrm : rm.cells = 0 ∧ rm.slots = 0) (hR : rm.frames + 1 ≤ R.frames ∧ 8 + (maxL + 11) + rm.locals ≤ R.locals)
    (hn : As.length = np) (hst : st0 = As.reverse ++ rest) (hcat : (rest.map fun v => v.category).sum ≤ 8) (hf : cells ≤ R.cells ∧ slots ≤ R.slots) (hdg : decode cc pc = .ok (.invokestatic idx, 3))
    (kk : W p l e R s m args below meth c H locs cells slots Q (F0 m (pc + 3) ls (.int r :: rest))) : W p l e R s m args below meth c H locs cells slots Q (F0 m pc ls st0) := by
  have hr := va_runSN (l := l) (e := e) (R := R) (below := below) (meth := meth) (H := H) (locs := locs) (cells := cells) (slots := slots) (As := As) (rest := rest) (g := F0 m pc ls st0) F hM ⟨va_cnB (Ts := TBL) np F.2.2.2.2 (good_WSm w5) rfl hrm.1 hrm.2 w1 (by rw [hd.1]; exact F.2.2.2.2 _ w4) hd.2 hR, F.2.2.2.2 _ w2, trivial⟩ preEq rfl hn hls hst (lv_room hcat) hdg hf
  intro T hT X
  obtain ⟨v, st₀, t, T', L, h0, X', hL, e1, e2, ⟨hv, hh⟩, st⟩ := hr T hT X
  cases hv
  obtain ⟨t2, a1, b1⟩ := kk T' (by rw [e1, hh, h0]) (Stand.forget X' (fun q h => (hL q h).elim))
  exact ⟨t2, st t2 a1, b1⟩
/-- a field read, written; an int read, written; a length; a reference read -/
theorem gw_getf {C : String} {T : u_T} {n ci o : Nat} {fs : List Value} {v : Value} (F : CallFix p m c cc nL s args TBL own) (hW : GW D tys N ad f A s H0 H locs) (ho : o < N) (he : f o = .inr (ci, fs)) (hc : vwCl[ci]? = some (C, T, n)) (hin : ∀ w ∈ u_ws C T n, w ∈ TBL) (k : Nat) (hk : k < n) (hl : Cond.fieldLink own idx (T k).1 (T k).2.1 (T k).2.2.1 ∈ TBL) (hv : fs[k]? = some v) (hdg : decode cc pc = .ok (.getfield idx, 3))
    (kk : W p l e R s m args below meth c H locs cells slots Q (F0 m (pc + 3) ls (v :: rest))) : W p l e R s m args below meth c H locs cells slots Q (F0 m pc ls (.ref (ad o) :: rest)) :=
  va_get F.1 F.2.1 F.2.2.2.2 hin F.2.2.2.1 hW.2.1 hW.1 o ((gw_get ho).trans (by rw [he])) hc k hk (F.2.2.2.2 _ hl) (fun _ h => h) hv hdg kk
theorem gw_putf {C : String} {T : u_T} {n ci o : Nat} {fs fs' : List Value} {v : Value} {g : Nat → va_E} {ty : FieldType} (F : CallFix p m c cc nL s args TBL own) (hW : GW D tys N ad f A s H0 H locs) (ho : o < N) (he : f o = .inr (ci, fs)) (hc : vwCl[ci]? = some (C, T, n)) (hin : ∀ w ∈ u_ws C T n, w ∈ TBL) (ty0 : Nat → FieldType) (hty : ∀ k, k < n → parseFieldDescriptor (T k).2.2.1 = some (ty0 k)) (hnm : ∀ a, a < n → ∀ b, b < n → a ≠ b → (T a).2.1 ≠ (T b).2.1)
    (k : Nat) (hk : k < n) (hl : Cond.fieldLink own idx (T k).1 (T k).2.1 (T k).2.2.1 ∈ TBL) (hfin : (T k).2.2.2 = false) (htk : ty0 k = ty) (hn : narrow ty v = v) (hfit : fits ty v = true) (hkl : k < fs.length) (hg : g o = .inr (ci, fs')) (hs : fs.set k v = fs') (hne : ∀ q, q ≠ o → g q = f q) (hdg : decode cc pc = .ok (.putfield idx, 3))
    (kk : ∀ (H1 : Heap) (locs1 : List Loc), GW D tys N ad g A s H0 H1 locs1 → W p l e R s m args below meth c H1 locs1 cells slots Q (F0 m (pc + 3) ls rest)) : W p l e R s m args below meth c H locs cells slots Q (F0 m pc ls (v :: .ref (ad o) :: rest)) :=
  va_put F.1 F.2.1 F.2.2.2.2 hin ty0 hty hnm F.2.2.2.1 hW.2.1 hW.1 hW.2.2.1 hW.2.2.2.1 o ((gw_get ho).trans (by rw [he])) hc k hk (F.2.2.2.2 _ hl) (fun _ h => h) hfin (hty k hk) (by rw [htk]; exact hn) (by rw [htk]; exact hfit) hkl hdg (fun H1 locs1 hP hD hS => kk H1 locs1 ⟨by rw [gw_set ho (hg.trans (by rw [← hs])) hne] at hP; exact hP, hW.2.1, by rw [gw_set ho (hg.trans (by rw [← hs])) hne] at hD; exact hD, hS, hW.2.2.2.2⟩)
theorem gw_iald {cA : ClassId} {n o t0 : Nat} {a : Nat → Int32} {i : Int32} (F : CallFix p m c cc nL s args TBL own) (hW : GW D tys N ad f A s H0 H locs) (ho : o < N) (he : f o = .inl (cA, n, .inl a)) (ht : tys[t0]? = some (cA, .int)) (hin : vp_in i n) (hdg : decode cc pc = .ok (.iaload, 1))
    (kk : W p l e R s m args below meth c H locs cells slots Q (F0 m (pc + 1) ls (.int (a i.toNatClampNeg) :: rest))) : W p l e R s m args below meth c H locs cells slots Q (F0 m pc ls (.int i :: .ref (ad o) :: rest)) :=
  va_iald F.1 F.2.1 hW.2.1 hW.1 o t0 ((gw_get ho).trans (by rw [he])) ht hin hdg kk
theorem gw_iast {cA : ClassId} {n o t0 : Nat} {a : Nat → Int32} {i x : Int32} {g : Nat → va_E} (F : CallFix p m c cc nL s args TBL own) (hW : GW D tys N ad f A s H0 H locs) (ho : o < N) (he : f o = .inl (cA, n, .inl a)) (ht : tys[t0]? = some (cA, .int)) (hin : vp_in i n) (hg : g o = .inl (cA, n, .inl (upd a i.toNatClampNeg x))) (hne : ∀ q, q ≠ o → g q = f q) (hdg : decode cc pc = .ok (.iastore, 1))
    (kk : ∀ (H1 : Heap) (locs1 : List Loc), GW D tys N ad g A s H0 H1 locs1 → W p l e R s m args below meth c H1 locs1 cells slots Q (F0 m (pc + 1) ls rest)) : W p l e R s m args below meth c H locs cells slots Q (F0 m pc ls (.int x :: .int i :: .ref (ad o) :: rest)) :=
  va_iast F.1 F.2.1 hW.2.1 hW.1 hW.2.2.1 hW.2.2.2.1 o t0 ((gw_get ho).trans (by rw [he])) ht hin hdg (fun H1 locs1 hP hD hS => kk H1 locs1 ⟨by rw [gw_set ho hg hne] at hP; exact hP, hW.2.1, by rw [gw_set ho hg hne] at hD; exact hD, hS, hW.2.2.2.2⟩)
theorem gw_alen {cA : ClassId} {o t0 : Nat} {a : vp_A} {ty : FieldType} {v : Int32} (F : CallFix p m c cc nL s args TBL own) (hW : GW D tys N ad f A s H0 H locs) (ho : o < N) (he : f o = .inl (cA, a)) (ht : tys[t0]? = some (cA, ty)) (hv : Int32.ofNat a.1 = v) (hdg : decode cc pc = .ok (.arraylength, 1))
    (kk : W p l e R s m args below meth c H locs cells slots Q (F0 m (pc + 1) ls (.int v :: rest))) : W p l e R s m args below meth c H locs cells slots Q (F0 m pc ls (.ref (ad o) :: rest)) :=
  va_alen F.1 F.2.1 hW.2.1 hW.1 o t0 ((gw_get ho).trans (by rw [he])) ht hv hdg kk
theorem gw_aald {cA : ClassId} {C : String} {n o t0 o' : Nat} {a : Nat → Option Nat} {i : Int32} (F : CallFix p m c cc nL s args TBL own) (hW : GW D tys N ad f A s H0 H locs) (ho : o < N) (he : f o = .inl (cA, n, .inr (.inr (.inr (.inr a))))) (ht : tys[t0]? = some (cA, .object C)) (hin : vp_in i n) (ha : a i.toNatClampNeg = some (ad o')) (hdg : decode cc pc = .ok (.aaload, 1))
    (kk : W p l e R s m args below meth c H locs cells slots Q (F0 m (pc + 1) ls (.ref (ad o') :: rest))) : W p l e R s m args below meth c H locs cells slots Q (F0 m pc ls (.int i :: .ref (ad o) :: rest)) :=
  va_aldq F.1 F.2.1 hW.2.1 hW.1 o t0 ((gw_get ho).trans (by rw [he])) ht hin hdg (by rw [ha]; exact kk)
end GWS
