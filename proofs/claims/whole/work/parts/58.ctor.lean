/-! ===== worlds told as lists: what constructors make ===== -/
def lw_B (D : va_G) (tys : List (ClassId × FieldType)) (ws : va_W) (sz : Nat) (E : State → Prop) : State → Prop := fun U => U.heap.size = sz ∧ va_P D vwCl ws U.heap ∧ va_K D vwCl tys U ∧ va_D (fun _ => True) ws ∧ E U
def LWd (D : va_G) (tys : List (ClassId × FieldType)) (ws : va_W) (A : Nat → Prop) (s : State) (H0 H : Heap) (locs : List Loc) : Prop := va_P D vwCl ws H ∧ va_K D vwCl tys s ∧ va_D A ws ∧ va_S A H0 H locs ∧ ∀ q, H0.size ≤ q → A q
def lw_Q {S : Type} (D : va_G) (post : S → Prop) (w1 : S → va_W) (t1 : S → List (ClassId × FieldType)) (A : Nat → Prop) : Array Value → State → Outcome → State → Prop := va_Qv post (fun u t => va_P D vwCl (w1 u) t.heap ∧ va_K D vwCl (t1 u) t ∧ va_D A (w1 u)) A
theorem lw_blind {D : va_G} {tys : List (ClassId × FieldType)} {ws : va_W} {sz : Nat} {E : State → Prop} (hE : gw_E E) {av : List Value} : FrameBlind (va_Pc av (lw_B D tys ws sz E)) := fun a U g mk q => ⟨q.1, q.2.1, q.2.2.1, va_K.moved (u := U) (U := U.calling g mk a) (Vm.Alike.refl U.vm) q.2.2.2.1, q.2.2.2.2.1, hE U g mk a q.2.2.2.2.2⟩
section LWS
variable {p : Program} {l : Launch} {e : Env} {R : Room} {s : State} {m : MethodId} {args : Array Value} {below : List Frame} {meth : Method} {c : Code} {H H0 : Heap} {locs : List Loc} {cells slots : Nat} {Q : State → Prop}
variable {cc bytes : ByteArray} {pc nL maxL idx np N sz : Nat} {ls : Array Slot} {rest st0 As : List Value} {D : va_G} {A : Nat → Prop} {tys : List (ClassId × FieldType)} {ad : Nat → Nat} {f : Nat → va_E} {own : String} {y : MethodName} {rm : Room} {E : State → Prop}
variable {tysL : List (ClassId × FieldType)} {ws wc wr : va_W} {mc ms c2 s2 a : Nat}
theorem lw_start {n : Nat} {S : Type} {post : S → Prop} {w1 : S → va_W} {t1 : S → List (ClassId × FieldType)} (hy : plainName y.cls = true) (ho : y.cls = own) (hlen : (lg_sl As).length ≤ n)
    (body : ∀ (p : Program) (e : Env) (s : State) (m : MethodId) (ar : Array Value) (below : List Frame) (meth : Method) (c : Code) (A : Nat → Prop) (Q : State → Prop), CallFix p m c cc n s ar TBL own → E s → s.heap.size = sz → meth.name = y.name → LWd D tysL ws A s s.heap s.heap [] →
      (∀ (u : S) (H : Heap) (locs : List Loc) (pc : Nat) (ls : Array Slot) (ws' : va_W) (tys' : List (ClassId × FieldType)), LWd D tys' ws' A s s.heap H locs → w1 u = ws' → t1 u = tys' → post u → decode cc pc = .ok (.return_, 1) → W p l e rm s m ar below meth c H locs mc ms Q (F0 m pc ls [])) →
      ∀ ls : Array Slot, lv_has ls n (lv_args 0 As) → W p l e rm s m ar below meth c s.heap [] 0 0 Q (F0 m 0 ls [])) :
    Met l y (WSm y cc n none) rm (va_Pc As (lw_B D tysL ws sz E)) (lw_Q D post w1 t1 (va_A ws sz)) mc ms (va_A ws sz) := by
  refine Met.ofW (cc := cc) (maxL := n) (ret := none) hy rfl ?_
  intro p e s m args below meth c s₁ B hml hv
  obtain ⟨rfl, hsz, hP, hK, hD, hE⟩ := hv
  have hts := atoms_spec (ws := WSm y cc n none) B.pre
  have hown : s.vm.findClass own = some m.cls := by rw [← ho]; exact findClass_of_methodNamed B.named
  rw [lg_entry_eq]
  exact body p e s m _ below meth c _ _ ⟨B.exec, B.bytes, hml, hown, fun w hw => hts w (List.mem_cons_of_mem _ hw)⟩ hE hsz (name_of_methodNamed B.named B.method).1 ⟨hP, hK, hD.self, va_S.rf, fun q hq => Or.inr (by rw [← hsz]; exact hq)⟩
    (fun u H locs pc ls ws' tys' hW h1 h2 hp hd => W.vret B.exec B.bytes B.returns (fun t ht hw => ⟨⟨u, rfl, hp, by rw [ht, h1]; exact hW.1, by rw [h2]; exact va_K.moved hw.alike hW.2.1, by rw [h1]; exact hW.2.2.1⟩, hW.2.2.2.1.F ht⟩) hW.2.2.2.1.2.2 hd B.notSynchronized) _ (lv_entry As hlen)
theorem lw_get {C : String} {T : u_T} {n ci : Nat} {fs : List Value} {v : Value} (F : CallFix p m c cc nL s args TBL own) (hW : LWd D tysL ws A s H0 H locs) (q0 : Nat) (he : ws[q0]? = some (a, .inr (ci, fs))) (hc : vwCl[ci]? = some (C, T, n)) (hin : ∀ w ∈ u_ws C T n, w ∈ TBL) (k : Nat) (hk : k < n) (hl : Cond.fieldLink own idx (T k).1 (T k).2.1 (T k).2.2.1 ∈ TBL) (hv : fs[k]? = some v) (hdg : decode cc pc = .ok (.getfield idx, 3))
    (kk : W p l e R s m args below meth c H locs cells slots Q (F0 m (pc + 3) ls (v :: rest))) : W p l e R s m args below meth c H locs cells slots Q (F0 m pc ls (.ref a :: rest)) :=
  va_get F.1 F.2.1 F.2.2.2.2 hin F.2.2.2.1 hW.2.1 hW.1 q0 he hc k hk (F.2.2.2.2 _ hl) (fun _ h => h) hv hdg kk
theorem lw_put {C : String} {T : u_T} {n ci : Nat} {fs : List Value} {v : Value} {ty : FieldType} (F : CallFix p m c cc nL s args TBL own) (hW : LWd D tysL ws A s H0 H locs) (q0 : Nat) (he : ws[q0]? = some (a, .inr (ci, fs))) (hc : vwCl[ci]? = some (C, T, n)) (hin : ∀ w ∈ u_ws C T n, w ∈ TBL) (ty0 : Nat → FieldType) (hty : ∀ k, k < n → parseFieldDescriptor (T k).2.2.1 = some (ty0 k)) (hnm : ∀ a, a < n → ∀ b, b < n → a ≠ b → (T a).2.1 ≠ (T b).2.1)
    (k : Nat) (hk : k < n) (hl : Cond.fieldLink own idx (T k).1 (T k).2.1 (T k).2.2.1 ∈ TBL) (hin2 : meth.name = "<init>") (hdecl : (T k).1 = own) (htk : ty0 k = ty) (hn : narrow ty v = v) (hfit : fits ty v = true) (hkl : k < fs.length) (hdg : decode cc pc = .ok (.putfield idx, 3))
    (kk : ∀ (H1 : Heap) (locs1 : List Loc), LWd D tysL (ws.set q0 (a, .inr (ci, fs.set k v))) A s H0 H1 locs1 → W p l e R s m args below meth c H1 locs1 cells slots Q (F0 m (pc + 3) ls rest)) : W p l e R s m args below meth c H locs cells slots Q (F0 m pc ls (v :: .ref a :: rest)) := by
  cases hfin : (T k).2.2.2 with
  | false => exact va_put F.1 F.2.1 F.2.2.2.2 hin ty0 hty hnm F.2.2.2.1 hW.2.1 hW.1 hW.2.2.1 hW.2.2.2.1 q0 he hc k hk (F.2.2.2.2 _ hl) (fun _ h => h) hfin (hty k hk) (by rw [htk]; exact hn) (by rw [htk]; exact hfit) hkl hdg (fun H1 locs1 hP hD hS => kk H1 locs1 ⟨hP, hW.2.1, hD, hS, hW.2.2.2.2⟩)
  | true => exact va_putF F.1 F.2.1 F.2.2.2.2 hin ty0 hty hnm F.2.2.2.1 hW.2.1 hW.1 hW.2.2.1 hW.2.2.2.1 q0 he hc k hk (F.2.2.2.2 _ hl) (fun _ h => h) hfin hin2 hdecl (hty k hk) (by rw [htk]; exact hn) (by rw [htk]; exact hfit) hkl hdg (fun H1 locs1 hP hD hS => kk H1 locs1 ⟨hP, hW.2.1, hD, hS, hW.2.2.2.2⟩)
theorem lw_iast {cA : ClassId} {n t0 : Nat} {f : Nat → Int32} {i x : Int32} (F : CallFix p m c cc nL s args TBL own) (hW : LWd D tysL ws A s H0 H locs) (q0 : Nat) (he : ws[q0]? = some (a, .inl (cA, n, .inl f))) (ht : tysL[t0]? = some (cA, .int)) (hin : vp_in i n) (hdg : decode cc pc = .ok (.iastore, 1))
    (kk : ∀ (H1 : Heap) (locs1 : List Loc), LWd D tysL (ws.set q0 (a, .inl (cA, n, .inl (upd f i.toNatClampNeg x)))) A s H0 H1 locs1 → W p l e R s m args below meth c H1 locs1 cells slots Q (F0 m (pc + 1) ls rest)) : W p l e R s m args below meth c H locs cells slots Q (F0 m pc ls (.int x :: .int i :: .ref a :: rest)) :=
  va_iast F.1 F.2.1 hW.2.1 hW.1 hW.2.2.1 hW.2.2.2.1 q0 t0 he ht hin hdg (fun H1 locs1 hP hD hS => kk H1 locs1 ⟨hP, hW.2.1, hD, hS, hW.2.2.2.2⟩)
theorem lw_iald {cA : ClassId} {n t0 : Nat} {f : Nat → Int32} {i : Int32} (F : CallFix p m c cc nL s args TBL own) (hW : LWd D tysL ws A s H0 H locs) (q0 : Nat) (he : ws[q0]? = some (a, .inl (cA, n, .inl f))) (ht : tysL[t0]? = some (cA, .int)) (hin : vp_in i n) (hdg : decode cc pc = .ok (.iaload, 1))
    (kk : W p l e R s m args below meth c H locs cells slots Q (F0 m (pc + 1) ls (.int (f i.toNatClampNeg) :: rest))) : W p l e R s m args below meth c H locs cells slots Q (F0 m pc ls (.int i :: .ref a :: rest)) :=
  va_iald F.1 F.2.1 hW.2.1 hW.1 q0 t0 he ht hin hdg kk
theorem lw_aast {cA : ClassId} {n t0 qk ci v : Nat} {r : vw_C} {vs : List Value} {f : Nat → Option Nat} {i : Int32} (F : CallFix p m c cc nL s args TBL own) (hW : LWd D tysL ws A s H0 H locs) (q0 : Nat) (he : ws[q0]? = some (a, .inl (cA, n, .inr (.inr (.inr (.inr f)))))) (ht : tysL[t0]? = some (cA, .object r.1)) (hv : ws[qk]? = some (v, .inr (ci, vs))) (hc : vwCl[ci]? = some r) (hin : vp_in i n) (hdg : decode cc pc = .ok (.aastore, 1))
    (kk : ∀ (H1 : Heap) (locs1 : List Loc), LWd D tysL (ws.set q0 (a, .inl (cA, n, .inr (.inr (.inr (.inr (va_up f i.toNatClampNeg (some v)))))))) A s H0 H1 locs1 → W p l e R s m args below meth c H1 locs1 cells slots Q (F0 m (pc + 1) ls rest)) : W p l e R s m args below meth c H locs cells slots Q (F0 m pc ls (.ref v :: .int i :: .ref a :: rest)) :=
  va_astq F.1 F.2.1 hW.2.1 hW.1 hW.2.2.1 hW.2.2.2.1 q0 t0 qk ci he ht hv hc hin hdg (fun H1 locs1 hP hD hS => kk H1 locs1 ⟨hP, hW.2.1, hD, hS, hW.2.2.2.2⟩)
theorem lw_new {C : String} {T : u_T} {n ci : Nat} {fs : List Value} (F : CallFix p m c cc nL s args TBL own) (hW : LWd D tysL ws A s H0 H locs) (hc : vwCl[ci]? = some (C, T, n)) (hin : ∀ w ∈ u_ws C T n, w ∈ TBL) (ty : Nat → FieldType) (hty : ∀ k, k < n → parseFieldDescriptor (T k).2.2.1 = some (ty k)) (w1 : Cond.classLink own idx C ∈ TBL) (w2 : Cond.instantiable C n ∈ TBL) (w3 : Cond.initialized C ∈ TBL) (hfs : ∀ j, j < n → defaultValue (ty j) = vp_V fs j) (hc2 : cells + 1 = c2) (hs2 : slots + n = s2) (hR : c2 ≤ R.cells ∧ s2 ≤ R.slots) (hdg : decode cc pc = .ok (.new idx, 3))
    (kk : ∀ (q : Nat) (H1 : Heap), LWd D tysL (ws ++ [(q, .inr (ci, fs))]) A s H0 H1 locs → W p l e R s m args below meth c H1 locs c2 s2 Q (F0 m (pc + 3) ls (.ref q :: rest))) : W p l e R s m args below meth c H locs cells slots Q (F0 m pc ls rest) := by
  subst hc2; subst hs2
  exact va_new F.1 F.2.1 F.2.2.2.2 hin ty hty F.2.2.2.1 (F.2.2.2.2 _ w1) (F.2.2.2.2 _ w2) (F.2.2.2.2 _ w3) hW.2.1 hW.1 hW.2.2.1 hW.2.2.2.1 hW.2.2.2.2 hc hfs hR.1 hR.2 hdg (fun q H1 hP hD hS => kk q H1 ⟨hP, hW.2.1, hD, hS, hW.2.2.2.2⟩)
theorem lw_newi {n : Int32} {N' : Nat} (F : CallFix p m c cc nL s args TBL own) (hW : LWd D tysL ws A s H0 H locs) (hn : ¬ n < 0) (hN : n.toNatClampNeg = N') (hb : N' * 4 ≤ 536870912) (hc2 : cells + 1 = c2) (hs2 : slots + N' = s2) (hR : c2 ≤ R.cells ∧ s2 ≤ R.slots) (hdg : decode cc pc = .ok (.newarray .int, 2))
    (kk : ∀ (q : Nat) (cA : ClassId) (H1 : Heap), LWd D (tysL ++ [(cA, .int)]) (ws ++ [(q, .inl (cA, N', .inl (fun _ => 0)))]) A s H0 H1 locs → W p l e R s m args below meth c H1 locs c2 s2 Q (F0 m (pc + 2) ls (.ref q :: rest))) : W p l e R s m args below meth c H locs cells slots Q (F0 m pc ls (.int n :: rest)) := by
  subst hc2; subst hs2
  exact va_newa (atype := .int) F.1 F.2.1 (F.2.2.2.2 _ ac_FieldType_int) (ty := .int) rfl hW.2.1 hW.1 hW.2.2.1 hW.2.2.2.1 hW.2.2.2.2 (a0 := (N', .inl (fun _ => 0))) (fun _ => rfl) hn hN hb hR.1 hR.2 hdg (fun q cA H1 hK hP hD hS => kk q cA H1 ⟨hP, hK, hD, hS, hW.2.2.2.2⟩)
theorem lw_newq {C : String} {n : Int32} {N' : Nat} (F : CallFix p m c cc nL s args TBL own) (hW : LWd D tysL ws A s H0 H locs) (w1 : Cond.classLink own idx C ∈ TBL) (ho : va_AO C s) (hn : ¬ n < 0) (hN : n.toNatClampNeg = N') (hb : N' * 4 ≤ 536870912) (hc2 : cells + 1 = c2) (hs2 : slots + N' = s2) (hR : c2 ≤ R.cells ∧ s2 ≤ R.slots) (hdg : decode cc pc = .ok (.anewarray idx, 3))
    (kk : ∀ (q : Nat) (cA : ClassId) (H1 : Heap), LWd D (tysL ++ [(cA, .object C)]) (ws ++ [(q, .inl (cA, N', .inr (.inr (.inr (.inr (fun _ => none))))))]) A s H0 H1 locs → W p l e R s m args below meth c H1 locs c2 s2 Q (F0 m (pc + 3) ls (.ref q :: rest))) : W p l e R s m args below meth c H locs cells slots Q (F0 m pc ls (.int n :: rest)) := by
  subst hc2; subst hs2
  exact va_newq F.1 F.2.1 F.2.2.2.1 (F.2.2.2.2 _ w1) ho hW.2.1 hW.1 hW.2.2.1 hW.2.2.2.1 hW.2.2.2.2 hn hN hb hR.1 hR.2 hdg (fun q cA H1 hK hP hD hS => kk q cA H1 ⟨hP, hK, hD, hS, hW.2.2.2.2⟩)
theorem lw_same {ty : FieldType} {c1 c3 : ClassId} {i j : Nat} (hW : LWd D tysL ws A s H0 H locs) (h1 : tysL[i]? = some (c1, ty)) (h2 : tysL[j]? = some (c3, ty)) : c1 = c3 := by
  have a1 := (hW.2.1.2 i _ h1).2
  have a2 := (hW.2.1.2 j _ h2).2
  cases ty with
  | object C =>
    obtain ⟨_, _, _, _, _, e1⟩ := a1
    obtain ⟨_, _, _, _, _, e2⟩ := a2
    exact Option.some.inj (e1.symm.trans e2)
  | _ => exact Option.some.inj (a1.symm.trans a2)
theorem lw_tys {t' : List (ClassId × FieldType)} (hW : LWd D tysL ws A s H0 H locs) (is : List Nat) (hs : is.filterMap (fun i => tysL[i]?) = t') : LWd D t' ws A s H0 H locs := ⟨hW.1, hW.2.1.sub is hs, hW.2.2⟩
theorem lw_obj {own' : String} {idx' : Nat} (F : CallFix p m c cc nL s args TBL own) (hls : ls.size = nL) (w : Cond.methodLink own idx (⟨"java/lang/Object", "<init>", "()V"⟩ : MethodName) ∈ TBL) (hR : 1 ≤ R.frames ∧ 20 ≤ R.locals) (hcat : (rest.map fun v => v.category).sum ≤ 8) (hdg : decode cc pc = .ok (.invokespecial idx, 3))
    (kk : W p l e R s m args below meth c H locs cells slots Q (F0 m (pc + 3) ls rest)) : W p l e R s m args below meth c H locs cells slots Q (F0 m pc ls (.ref a :: rest)) :=
  W.objInit F.1 F.2.1 F.2.2.2.1 (F.2.2.2.2 _ w) (F.2.2.2.2 _ im_java_lang_Object_init_V_MethodName) (F.2.2.2.2 _ cd_67a468) rfl (by rw [F.2.2.1]; exact hls) rfl hdg hR.1 (by have : (F0 m pc ls (.ref a :: rest)).monitorRoom = 0 := rfl; rw [this]; omega) kk
/-- a constructor's call: cut, call, join -/
theorem lw_callI {S : Type} {post : S → Prop} {w1 : S → va_W} {t1 : S → List (ClassId × FieldType)} {tc : List (ClassId × FieldType)} {C : String} {b : Nat} (F : CallFix p m c cc nL s args TBL own) (hls : ls.size = nL) (hW : LWd D tysL ws A s H0 H locs) (hE : ∀ U : State, U.heap = H → s.WarmedH U.vm → E U) (hEb : gw_E E)
    (isC isR isT : List Nat) (hC : isC.map (fun i => ws[i]?) = wc.map some) (hR : isR.map (fun i => ws[i]?) = wr.map some) (hnC : va_nd isC = true) (hnR : va_nd isR = true) (hdis : ∀ i ∈ isR, i ∉ isC) (hT : isT.filterMap (fun i => tysL[i]?) = tc)
    (hM : Met l y (WSm y bytes maxL none) rm (va_Pc (.ref b :: As) (lw_B D tc wc H.size E)) (lw_Q D post w1 t1 (va_A wc H.size)) mc ms (va_A wc H.size))
    (hd : gw_pd y C np) (w1' : Cond.methodLink own idx y ∈ TBL) (w2 : Cond.instanceMethod y ∈ TBL) (w4 : Cond.initialized C ∈ TBL) (w5 : Cond.code y bytes maxL none ∈ TBL) (hy1 : y.name = "<init>") (hrm : rm.cells = mc ∧ rm.slots = ms) (hRm : rm.frames + 1 ≤ R.frames ∧ 8 + (maxL + 11) + rm.locals ≤ R.locals)
    (hn : As.length = np) (hst : st0 = As.reverse ++ .ref b :: rest) (hcat : (rest.map fun v => v.category).sum ≤ 8) (hc2 : cells + mc = c2) (hs2 : slots + ms = s2) (hf : c2 ≤ R.cells ∧ s2 ≤ R.slots) (hdg : decode cc pc = .ok (.invokespecial idx, 3))
    (kk : ∀ (u : S) (H1 : Heap) (locs1 : List Loc), post u → LWd D (tysL ++ t1 u) (wr ++ w1 u) A s H0 H1 locs1 → W p l e R s m args below meth c H1 locs1 c2 s2 Q (F0 m (pc + 3) ls rest)) : W p l e R s m args below meth c H locs cells slots Q (F0 m pc ls st0) := by
  subst hc2; subst hs2
  have hPc : va_P D vwCl wc H := fun k q hq => by
    have h1 : (isC.map (fun i => ws[i]?))[k]? = some (some q) := by rw [hC, List.getElem?_map, hq]; rfl
    rw [List.getElem?_map] at h1
    cases hi : isC[k]? with
    | none => rw [hi] at h1; cases h1
    | some i => rw [hi] at h1; exact hW.1 i q (Option.some.inj h1)
  have hDc : va_D A wc := hW.2.2.1.sub isC hnC hC
  have hFc := va_free (wc := wc) hW.2.2.1 hW.2.2.2.1 hW.2.2.2.2 isC hC
  refine va_callv (va_runI (As := As) (rest := rest) F hM ⟨callB_of (Ts := TBL) np F.2.2.2.2 (good_WSm w5) rfl hrm.1 hrm.2 (by rw [hd.1]; exact F.2.2.2.2 _ w4) (F.2.2.2.2 _ w1') hd.2 hRm, hy1, F.2.2.2.2 _ w2⟩ ⟨lw_blind hEb, fun U hU hw => ⟨rfl, by rw [hU], by rw [hU]; exact hPc, va_K.moved hw.alike (hW.2.1.sub isT hT), hDc.weaken (fun _ _ _ _ => trivial), hE U hU hw⟩⟩ rfl hn hls hst (lv_room hcat) hdg hf) hW.2.2.2.1 (fun x _ h => hFc x h) hFc (fun u t H1 locs1 ht hvm hp hB hz hk hS => ?_)
  obtain ⟨hP1, hK1, hD1⟩ := hB
  rw [ht] at hP1
  obtain ⟨hP, hD⟩ := va_join (wr := wr) (w1 := w1 u) hW.1 hW.2.2.1 isC isR hC hR hnR hdis hk hFc hP1 hD1
  exact kk u H1 locs1 hp ⟨hP, hW.2.1.app (va_K.moved hvm.symm hK1), hD, hS, hW.2.2.2.2⟩
/-- a call that changes nothing: Guest's constructor, a nest mate -/
def lw_0 (l : Launch) (y : MethodName) (cc : ByteArray) (nL : Nat) (rm : Room) (As : List Value) : Prop := Met l y (WSm y cc nL none) rm (fun v _ => v = As.toArray) (va_Qv (fun _ : Unit => True) (fun _ _ => True) (fun _ => False)) 0 0 (fun _ => False)
theorem lw_callN0 {C host : String} {b : Nat} (F : CallFix p m c cc nL s args TBL own) (hls : ls.size = nL) (hW : LWd D tysL ws A s H0 H locs) (hM : lw_0 l y bytes maxL rm (.ref b :: As))
    (hd : gw_pd y C np) (w1' : va_Nw (.methodLinkNest own idx y host) s) (w2 : Cond.instanceMethod y ∈ TBL) (w4 : Cond.initialized C ∈ TBL) (w5 : Cond.code y bytes maxL none ∈ TBL) (hy1 : y.name = "<init>") (hrm : rm.cells = 0 ∧ rm.slots = 0) (hRm : rm.frames + 1 ≤ R.frames ∧ 8 + (maxL + 11) + rm.locals ≤ R.locals)
    (hn : As.length = np) (hst : st0 = As.reverse ++ .ref b :: rest) (hcat : (rest.map fun v => v.category).sum ≤ 8) (hf : cells ≤ R.cells ∧ slots ≤ R.slots) (hdg : decode cc pc = .ok (.invokespecial idx, 3))
    (kk : ∀ (H1 : Heap) (locs1 : List Loc), LWd D tysL ws A s H0 H1 locs1 → W p l e R s m args below meth c H1 locs1 cells slots Q (F0 m (pc + 3) ls rest)) : W p l e R s m args below meth c H locs cells slots Q (F0 m pc ls st0) := by
  refine va_callv (va_runIN (As := As) (rest := rest) F hM ⟨va_cnB (Ts := TBL) np F.2.2.2.2 (good_WSm w5) rfl hrm.1 hrm.2 w1' (by rw [hd.1]; exact F.2.2.2.2 _ w4) hd.2 hRm, hy1, F.2.2.2.2 _ w2⟩ ⟨fun _ _ _ _ q => q, fun _ _ _ => rfl⟩ rfl hn hls hst (lv_room hcat) hdg hf) hW.2.2.2.1 (fun x _ h => h.elim) (fun x h => h.elim) (fun u t H1 locs1 ht hvm hp hB hz hk hS => ?_)
  exact kk H1 locs1 ⟨hW.1.kept (fun k q hq => hk q.1 ((hW.1 k q hq).lt) (fun h => h)), hW.2.1, hW.2.2.1, hS, hW.2.2.2.2⟩
end LWS
abbrev rm_yX0_init : Room := { frames := 1, cells := 0, slots := 0, locals := 20 }
theorem kX0_init (l : Launch) (a : Nat) : lw_0 l yX0_init cX0_init 1 rm_yX0_init [.ref a] := by
  refine Met.ofW (cc := cX0_init) (maxL := 1) (ret := none) (by decide +kernel) rfl ?_
  intro p e s m args below meth c s₁ B hml hv
  subst hv
  have hts := atoms_spec (ws := WSm yX0_init cX0_init 1 none) B.pre
  have hown : s.vm.findClass RX0 = some m.cls := findClass_of_methodNamed B.named
  rw [lg_entry_eq]
  have F : CallFix p m c cX0_init 1 s _ TBL RX0 := ⟨B.exec, B.bytes, hml, hown, fun w hw => hts w (List.mem_cons_of_mem _ hw)⟩
  have hl := lv_entry ([.ref a]) (n := 1) (Nat.le_of_ble_eq_true rfl)
  generalize (lg_sl ([.ref a]) ++ List.replicate (1 - (lg_sl ([.ref a])).length) Slot.unset).toArray = ls at hl ⊢
  have hl : lv_has ls 1 [(0, .ref a)] := hl
  refine lv_aload_n B.exec B.bytes dX0_init_0 rfl (lv_at hl 0 rfl) ?_
  refine lw_obj (own' := RX0) (idx' := 0) F hl.1 ml_RX0_3 ⟨Nat.le_refl _, Nat.le_refl _⟩ (Nat.le_of_ble_eq_true rfl) dX0_init_1 ?_
  exact W.vret B.exec B.bytes B.returns (fun t ht hw => ⟨⟨(), rfl, trivial, trivial⟩, (va_S.rf (A := fun _ => False)).F ht⟩) (fun _ h => by cases h) dX0_init_4 B.notSynchronized
abbrev rm_yX1_init : Room := { frames := 1, cells := 1, slots := 64, locals := 20 }
set_option maxHeartbeats 4000000 in
set_option maxRecDepth 100000 in
theorem kX1_init {l : Launch} {D : va_G} {h0 sz : Nat}   : Met l yX1_init (WSm yX1_init cX1_init 1 none) rm_yX1_init (va_Pc [.ref h0] (lw_B D [] [(h0, .inr (1, [.null, .int 0]))] sz gw_T)) (lw_Q D (fun _ : Nat × ClassId => True) (fun u => match u with | ⟨q_1, cA_2⟩ => [(h0, .inr (1, [.ref q_1, .int 0])), (q_1, .inl (cA_2, 64, .inl (fun _ => 0)))]) (fun u => match u with | ⟨q_1, cA_2⟩ => [(cA_2, .int)]) (va_A [(h0, .inr (1, [.null, .int 0]))] sz)) 1 64 (va_A [(h0, .inr (1, [.null, .int 0]))] sz) := by
  refine lw_start (own := RX1) (by decide +kernel) rfl (Nat.le_of_ble_eq_true rfl) ?_
  intro p e s m ar below meth c A Q F hE hsz hnm hW hret ls hl
  obtain ⟨hx, hb, hml, hown, hts⟩ := id F
  have hl : lv_has ls 1 [(0, .ref h0)] := hl
  refine lv_aload_n hx hb dX1_init_0 rfl (lv_at hl 0 rfl) ?_
  refine lw_obj (own' := RX1) (idx' := 0) F hl.1 ml_RX1_3 ⟨Nat.le_of_ble_eq_true rfl, Nat.le_of_ble_eq_true rfl⟩ (Nat.le_of_ble_eq_true rfl) dX1_init_1 ?_
  refine lv_aload_n hx hb dX1_init_4 rfl (lv_at hl 0 rfl) ?_
  refine lv_bipush (v := 64) hx hb dX1_init_5 (by decide) ?_
  refine lw_newi (c2 := 1) (s2 := 64) (N' := 64) F hW (by decide) rfl (by decide) rfl rfl ⟨Nat.le_of_ble_eq_true rfl, Nat.le_of_ble_eq_true rfl⟩ dX1_init_7 (fun q_1 cA_2 H hW => ?_)
  have hW : LWd D [(cA_2, .int)] [(h0, .inr (1, [.null, .int 0])), (q_1, .inl (cA_2, 64, .inl (fun _ => 0)))] A s s.heap H _ := hW
  refine lw_put (ci := 1) (fs := [.null, .int 0]) F hW 0 rfl (C := RX1) (T := TX1) (n := 2) rfl in_RX1 tyX1 tyX1_ok nmX1 0 (by decide) fl_RX1_9 hnm (by decide +kernel) rfl rfl rfl (show 0 < 2 by decide) dX1_init_9 (fun H locs hW => ?_)
  have hW : LWd D [(cA_2, .int)] [(h0, .inr (1, [.ref q_1, .int 0])), (q_1, .inl (cA_2, 64, .inl (fun _ => 0)))] A s s.heap H _ := hW
  exact hret (q_1, cA_2) _ _ _ _ _ _ hW rfl rfl trivial dX1_init_12
abbrev rm_yX3_init : Room := { frames := 1, cells := 1, slots := 40, locals := 20 }
set_option maxHeartbeats 4000000 in
set_option maxRecDepth 100000 in
theorem kX3_init {l : Launch} {D : va_G} {h0 sz : Nat}   : Met l yX3_init (WSm yX3_init cX3_init 1 none) rm_yX3_init (va_Pc [.ref h0] (lw_B D [] [(h0, .inr (3, [.null, .int 0, .int 0]))] sz gw_T)) (lw_Q D (fun _ : Nat × ClassId => True) (fun u => match u with | ⟨q_1, cA_2⟩ => [(h0, .inr (3, [.ref q_1, .int (-1), .int 0])), (q_1, .inl (cA_2, 40, .inl (fun _ => 0)))]) (fun u => match u with | ⟨q_1, cA_2⟩ => [(cA_2, .int)]) (va_A [(h0, .inr (3, [.null, .int 0, .int 0]))] sz)) 1 40 (va_A [(h0, .inr (3, [.null, .int 0, .int 0]))] sz) := by
  refine lw_start (own := RX3) (by decide +kernel) rfl (Nat.le_of_ble_eq_true rfl) ?_
  intro p e s m ar below meth c A Q F hE hsz hnm hW hret ls hl
  obtain ⟨hx, hb, hml, hown, hts⟩ := id F
  have hl : lv_has ls 1 [(0, .ref h0)] := hl
  refine lv_aload_n hx hb dX3_init_0 rfl (lv_at hl 0 rfl) ?_
  refine lw_obj (own' := RX3) (idx' := 0) F hl.1 ml_RX3_3 ⟨Nat.le_of_ble_eq_true rfl, Nat.le_of_ble_eq_true rfl⟩ (Nat.le_of_ble_eq_true rfl) dX3_init_1 ?_
  refine lv_aload_n hx hb dX3_init_4 rfl (lv_at hl 0 rfl) ?_
  refine lv_bipush (v := 40) hx hb dX3_init_5 (by decide) ?_
  refine lw_newi (c2 := 1) (s2 := 40) (N' := 40) F hW (by decide) rfl (by decide) rfl rfl ⟨Nat.le_of_ble_eq_true rfl, Nat.le_of_ble_eq_true rfl⟩ dX3_init_7 (fun q_1 cA_2 H hW => ?_)
  have hW : LWd D [(cA_2, .int)] [(h0, .inr (3, [.null, .int 0, .int 0])), (q_1, .inl (cA_2, 40, .inl (fun _ => 0)))] A s s.heap H _ := hW
  refine lw_put (ci := 3) (fs := [.null, .int 0, .int 0]) F hW 0 rfl (C := RX3) (T := TX3) (n := 3) rfl in_RX3 tyX3 tyX3_ok nmX3 0 (by decide) fl_RX3_9 hnm (by decide +kernel) rfl rfl rfl (show 0 < 3 by decide) dX3_init_9 (fun H locs hW => ?_)
  have hW : LWd D [(cA_2, .int)] [(h0, .inr (3, [.ref q_1, .int 0, .int 0])), (q_1, .inl (cA_2, 40, .inl (fun _ => 0)))] A s s.heap H _ := hW
  refine lv_aload_n hx hb dX3_init_12 rfl (lv_at hl 0 rfl) ?_
  refine lv_iconst (v := (-1)) hx hb dX3_init_13 (by decide) ?_
  refine lw_put (ci := 3) (fs := [.ref q_1, .int 0, .int 0]) F hW 0 rfl (C := RX3) (T := TX3) (n := 3) rfl in_RX3 tyX3 tyX3_ok nmX3 1 (by decide) fl_RX3_15 hnm (by decide +kernel) rfl rfl rfl (show 1 < 3 by decide) dX3_init_14 (fun H locs hW => ?_)
  have hW : LWd D [(cA_2, .int)] [(h0, .inr (3, [.ref q_1, .int (-1), .int 0])), (q_1, .inl (cA_2, 40, .inl (fun _ => 0)))] A s s.heap H _ := hW
  exact hret (q_1, cA_2) _ _ _ _ _ _ hW rfl rfl trivial dX3_init_17
abbrev rm_yX5_init : Room := { frames := 1, cells := 1, slots := 160, locals := 20 }
set_option maxHeartbeats 4000000 in
set_option maxRecDepth 100000 in
theorem kX5_init {l : Launch} {D : va_G} {h0 sz : Nat}   : Met l yX5_init (WSm yX5_init cX5_init 1 none) rm_yX5_init (va_Pc [.ref h0] (lw_B D [] [(h0, .inr (5, [.null, .int 0, .int 0, .int 0, .int 0, .int 0]))] sz gw_T)) (lw_Q D (fun _ : Nat × ClassId => True) (fun u => match u with | ⟨q_1, cA_2⟩ => [(h0, .inr (5, [.ref q_1, .int 0, .int 0, .int 0, .int 0, .int 0])), (q_1, .inl (cA_2, 160, .inl (fun _ => 0)))]) (fun u => match u with | ⟨q_1, cA_2⟩ => [(cA_2, .int)]) (va_A [(h0, .inr (5, [.null, .int 0, .int 0, .int 0, .int 0, .int 0]))] sz)) 1 160 (va_A [(h0, .inr (5, [.null, .int 0, .int 0, .int 0, .int 0, .int 0]))] sz) := by
  refine lw_start (own := RX5) (by decide +kernel) rfl (Nat.le_of_ble_eq_true rfl) ?_
  intro p e s m ar below meth c A Q F hE hsz hnm hW hret ls hl
  obtain ⟨hx, hb, hml, hown, hts⟩ := id F
  have hl : lv_has ls 1 [(0, .ref h0)] := hl
  refine lv_aload_n hx hb dX5_init_0 rfl (lv_at hl 0 rfl) ?_
  refine lw_obj (own' := RX5) (idx' := 0) F hl.1 ml_RX5_3 ⟨Nat.le_of_ble_eq_true rfl, Nat.le_of_ble_eq_true rfl⟩ (Nat.le_of_ble_eq_true rfl) dX5_init_1 ?_
  refine lv_aload_n hx hb dX5_init_4 rfl (lv_at hl 0 rfl) ?_
  refine lv_sipush (v := 160) hx hb dX5_init_5 (by decide) ?_
  refine lw_newi (c2 := 1) (s2 := 160) (N' := 160) F hW (by decide) rfl (by decide) rfl rfl ⟨Nat.le_of_ble_eq_true rfl, Nat.le_of_ble_eq_true rfl⟩ dX5_init_8 (fun q_1 cA_2 H hW => ?_)
  have hW : LWd D [(cA_2, .int)] [(h0, .inr (5, [.null, .int 0, .int 0, .int 0, .int 0, .int 0])), (q_1, .inl (cA_2, 160, .inl (fun _ => 0)))] A s s.heap H _ := hW
  refine lw_put (ci := 5) (fs := [.null, .int 0, .int 0, .int 0, .int 0, .int 0]) F hW 0 rfl (C := RX5) (T := TX5) (n := 6) rfl in_RX5 tyX5 tyX5_ok nmX5 0 (by decide) fl_RX5_9 hnm (by decide +kernel) rfl rfl rfl (show 0 < 6 by decide) dX5_init_10 (fun H locs hW => ?_)
  have hW : LWd D [(cA_2, .int)] [(h0, .inr (5, [.ref q_1, .int 0, .int 0, .int 0, .int 0, .int 0])), (q_1, .inl (cA_2, 160, .inl (fun _ => 0)))] A s s.heap H _ := hW
  exact hret (q_1, cA_2) _ _ _ _ _ _ hW rfl rfl trivial dX5_init_13
abbrev rm_yX2_init : Room := { frames := 1, cells := 2, slots := 164, locals := 20 }
set_option maxHeartbeats 4000000 in
set_option maxRecDepth 100000 in
theorem kX2_init {l : Launch} {D : va_G} {h0 sz : Nat} {tp : Nat}  : Met l yX2_init (WSm yX2_init cX2_init 2 none) rm_yX2_init (va_Pc [.ref h0, .ref tp] (lw_B D [] [(h0, .inr (2, [.null, .null, .null, .int 0]))] sz gw_T)) (lw_Q D (fun _ : Nat × Nat × ClassId => True) (fun u => match u with | ⟨q_1, q_3, cA_2⟩ => [(h0, .inr (2, [.ref tp, .ref q_1, .ref q_3, .int 0])), (q_1, .inl (cA_2, 160, .inl (fun _ => 0))), (q_3, .inl (cA_2, 4, .inl (fun _ => 0)))]) (fun u => match u with | ⟨q_1, q_3, cA_2⟩ => [(cA_2, .int)]) (va_A [(h0, .inr (2, [.null, .null, .null, .int 0]))] sz)) 2 164 (va_A [(h0, .inr (2, [.null, .null, .null, .int 0]))] sz) := by
  refine lw_start (own := RX2) (by decide +kernel) rfl (Nat.le_of_ble_eq_true rfl) ?_
  intro p e s m ar below meth c A Q F hE hsz hnm hW hret ls hl
  obtain ⟨hx, hb, hml, hown, hts⟩ := id F
  have hl : lv_has ls 2 [(0, .ref h0), (1, .ref tp)] := hl
  refine lv_aload_n hx hb dX2_init_0 rfl (lv_at hl 0 rfl) ?_
  refine lw_obj (own' := RX2) (idx' := 0) F hl.1 ml_RX2_3 ⟨Nat.le_of_ble_eq_true rfl, Nat.le_of_ble_eq_true rfl⟩ (Nat.le_of_ble_eq_true rfl) dX2_init_1 ?_
  refine lv_aload_n hx hb dX2_init_4 rfl (lv_at hl 0 rfl) ?_
  refine lv_aload_n hx hb dX2_init_5 rfl (lv_at hl 1 rfl) ?_
  refine lw_put (ci := 2) (fs := [.null, .null, .null, .int 0]) F hW 0 rfl (C := RX2) (T := TX2) (n := 4) rfl in_RX2 tyX2 tyX2_ok nmX2 0 (by decide) fl_RX2_9 hnm (by decide +kernel) rfl rfl rfl (show 0 < 4 by decide) dX2_init_6 (fun H locs hW => ?_)
  have hW : LWd D [] [(h0, .inr (2, [.ref tp, .null, .null, .int 0]))] A s s.heap H _ := hW
  refine lv_aload_n hx hb dX2_init_9 rfl (lv_at hl 0 rfl) ?_
  refine lv_sipush (v := 160) hx hb dX2_init_10 (by decide) ?_
  refine lw_newi (c2 := 1) (s2 := 160) (N' := 160) F hW (by decide) rfl (by decide) rfl rfl ⟨Nat.le_of_ble_eq_true rfl, Nat.le_of_ble_eq_true rfl⟩ dX2_init_13 (fun q_1 cA_2 H hW => ?_)
  have hW : LWd D [(cA_2, .int)] [(h0, .inr (2, [.ref tp, .null, .null, .int 0])), (q_1, .inl (cA_2, 160, .inl (fun _ => 0)))] A s s.heap H _ := hW
  refine lw_put (ci := 2) (fs := [.ref tp, .null, .null, .int 0]) F hW 0 rfl (C := RX2) (T := TX2) (n := 4) rfl in_RX2 tyX2 tyX2_ok nmX2 1 (by decide) fl_RX2_15 hnm (by decide +kernel) rfl rfl rfl (show 1 < 4 by decide) dX2_init_15 (fun H locs hW => ?_)
  have hW : LWd D [(cA_2, .int)] [(h0, .inr (2, [.ref tp, .ref q_1, .null, .int 0])), (q_1, .inl (cA_2, 160, .inl (fun _ => 0)))] A s s.heap H _ := hW
  refine lv_aload_n hx hb dX2_init_18 rfl (lv_at hl 0 rfl) ?_
  refine lv_iconst (v := 4) hx hb dX2_init_19 (by decide) ?_
  refine lw_newi (c2 := 2) (s2 := 164) (N' := 4) F hW (by decide) rfl (by decide) rfl rfl ⟨Nat.le_of_ble_eq_true rfl, Nat.le_of_ble_eq_true rfl⟩ dX2_init_20 (fun q_3 cA_4 H hW => ?_)
  have hW : LWd D [(cA_2, .int), (cA_4, .int)] [(h0, .inr (2, [.ref tp, .ref q_1, .null, .int 0])), (q_1, .inl (cA_2, 160, .inl (fun _ => 0))), (q_3, .inl (cA_4, 4, .inl (fun _ => 0)))] A s s.heap H _ := hW
  obtain rfl : cA_2 = cA_4 := lw_same (i := 0) (j := 1) hW rfl rfl
  have hW := lw_tys (t' := [(cA_2, .int)]) hW [0] rfl
  have hW : LWd D [(cA_2, .int)] [(h0, .inr (2, [.ref tp, .ref q_1, .null, .int 0])), (q_1, .inl (cA_2, 160, .inl (fun _ => 0))), (q_3, .inl (cA_2, 4, .inl (fun _ => 0)))] A s s.heap H _ := hW
  refine lw_put (ci := 2) (fs := [.ref tp, .ref q_1, .null, .int 0]) F hW 0 rfl (C := RX2) (T := TX2) (n := 4) rfl in_RX2 tyX2 tyX2_ok nmX2 2 (by decide) fl_RX2_19 hnm (by decide +kernel) rfl rfl rfl (show 2 < 4 by decide) dX2_init_22 (fun H locs hW => ?_)
  have hW : LWd D [(cA_2, .int)] [(h0, .inr (2, [.ref tp, .ref q_1, .ref q_3, .int 0])), (q_1, .inl (cA_2, 160, .inl (fun _ => 0))), (q_3, .inl (cA_2, 4, .inl (fun _ => 0)))] A s s.heap H _ := hW
  exact hret (q_1, q_3, cA_2) _ _ _ _ _ _ hW rfl rfl trivial dX2_init_25
abbrev rm_yX6_init : Room := { frames := 1, cells := 0, slots := 0, locals := 20 }
set_option maxHeartbeats 4000000 in
set_option maxRecDepth 100000 in
theorem kX6_init {l : Launch} {D : va_G} {h0 sz : Nat} {n0 : Int32} {a1 a2 a3 : Nat}  : Met l yX6_init (WSm yX6_init cX6_init 5 none) rm_yX6_init (va_Pc [.ref h0, .int n0, .ref a1, .ref a2, .ref a3] (lw_B D [] [(h0, .inr (6, [.int 0, .null, .null, .null]))] sz gw_T)) (lw_Q D (fun _ : Unit => True) (fun u => match u with | () => [(h0, .inr (6, [.int n0, .ref a1, .ref a2, .ref a3]))]) (fun u => match u with | () => []) (va_A [(h0, .inr (6, [.int 0, .null, .null, .null]))] sz)) 0 0 (va_A [(h0, .inr (6, [.int 0, .null, .null, .null]))] sz) := by
  refine lw_start (own := RX6) (by decide +kernel) rfl (Nat.le_of_ble_eq_true rfl) ?_
  intro p e s m ar below meth c A Q F hE hsz hnm hW hret ls hl
  obtain ⟨hx, hb, hml, hown, hts⟩ := id F
  have hl : lv_has ls 5 [(0, .ref h0), (1, .int n0), (2, .ref a1), (3, .ref a2), (4, .ref a3)] := hl
  refine lv_aload_n hx hb dX6_init_0 rfl (lv_at hl 0 rfl) ?_
  refine lw_obj (own' := RX6) (idx' := 0) F hl.1 ml_RX6_3 ⟨Nat.le_of_ble_eq_true rfl, Nat.le_of_ble_eq_true rfl⟩ (Nat.le_of_ble_eq_true rfl) dX6_init_1 ?_
  refine lv_aload_n hx hb dX6_init_4 rfl (lv_at hl 0 rfl) ?_
  refine lv_iload_n hx hb dX6_init_5 rfl (lv_at hl 1 rfl) ?_
  refine lw_put (ci := 6) (fs := [.int 0, .null, .null, .null]) F hW 0 rfl (C := RX6) (T := TX6) (n := 4) rfl in_RX6 tyX6 tyX6_ok nmX6 0 (by decide) fl_RX6_9 hnm (by decide +kernel) rfl rfl rfl (show 0 < 4 by decide) dX6_init_6 (fun H locs hW => ?_)
  have hW : LWd D [] [(h0, .inr (6, [.int n0, .null, .null, .null]))] A s s.heap H _ := hW
  refine lv_aload_n hx hb dX6_init_9 rfl (lv_at hl 0 rfl) ?_
  refine lv_aload_n hx hb dX6_init_10 rfl (lv_at hl 2 rfl) ?_
  refine lw_put (ci := 6) (fs := [.int n0, .null, .null, .null]) F hW 0 rfl (C := RX6) (T := TX6) (n := 4) rfl in_RX6 tyX6 tyX6_ok nmX6 1 (by decide) fl_RX6_15 hnm (by decide +kernel) rfl rfl rfl (show 1 < 4 by decide) dX6_init_11 (fun H locs hW => ?_)
  have hW : LWd D [] [(h0, .inr (6, [.int n0, .ref a1, .null, .null]))] A s s.heap H _ := hW
  refine lv_aload_n hx hb dX6_init_14 rfl (lv_at hl 0 rfl) ?_
  refine lv_aload_n hx hb dX6_init_15 rfl (lv_at hl 3 rfl) ?_
  refine lw_put (ci := 6) (fs := [.int n0, .ref a1, .null, .null]) F hW 0 rfl (C := RX6) (T := TX6) (n := 4) rfl in_RX6 tyX6 tyX6_ok nmX6 2 (by decide) fl_RX6_19 hnm (by decide +kernel) rfl rfl rfl (show 2 < 4 by decide) dX6_init_16 (fun H locs hW => ?_)
  have hW : LWd D [] [(h0, .inr (6, [.int n0, .ref a1, .ref a2, .null]))] A s s.heap H _ := hW
  refine lv_aload_n hx hb dX6_init_19 rfl (lv_at hl 0 rfl) ?_
  refine lv_aload hx hb dX6_init_20 (lv_at hl 4 rfl) ?_
  refine lw_put (ci := 6) (fs := [.int n0, .ref a1, .ref a2, .null]) F hW 0 rfl (C := RX6) (T := TX6) (n := 4) rfl in_RX6 tyX6 tyX6_ok nmX6 3 (by decide) fl_RX6_22 hnm (by decide +kernel) rfl rfl rfl (show 3 < 4 by decide) dX6_init_22 (fun H locs hW => ?_)
  have hW : LWd D [] [(h0, .inr (6, [.int n0, .ref a1, .ref a2, .ref a3]))] A s s.heap H _ := hW
  exact hret () _ _ _ _ _ _ hW rfl rfl trivial dX6_init_25
