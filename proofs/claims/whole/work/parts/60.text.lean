/-! ===== Arrays.copyOf, text(): a world that grows by a text ===== -/
theorem gl_old {N : Nat} {ad : Nat → Nat} {f : Nat → va_E} {news : va_W} {o : Nat} (h : o < N) : (gw_L N ad f ++ news)[o]? = some (ad o, f o) := by
  rw [List.getElem?_append_left (by rw [gw_len]; exact h)]; exact gw_get h
theorem gl_new {N : Nat} {ad : Nat → Nat} {f : Nat → va_E} {news : va_W} (k : Nat) : (gw_L N ad f ++ news)[N + k]? = news[k]? := by
  rw [List.getElem?_append_right (by rw [gw_len]; omega), gw_len, Nat.add_sub_cancel_left]
theorem gl_set {N : Nat} {ad : Nat → Nat} {f : Nat → va_E} {news : va_W} {o : Nat} {e : va_E} (h : o < N) : (gw_L N ad f ++ news).set o (ad o, e) = gw_L N ad (va_up f o e) ++ news := by
  rw [List.set_append_left _ _ (by rw [gw_len]; exact h), gw_set (g := va_up f o e) h (va_up_self _ _ _) (fun q hq => va_up_ne _ _ hq)]
theorem gl_nd (N : Nat) : va_nd (List.range N ++ [N, N + 2]) = true := by
  have key : ∀ l : List Nat, l.Nodup → va_nd l = true := by
    intro l
    induction l with
    | nil => intro _; rfl
    | cons a l ih =>
      intro h
      rw [List.nodup_cons] at h
      show (decide (a ∉ l) && va_nd l) = true
      rw [ih h.2, decide_eq_true h.1]; rfl
  apply key
  rw [List.nodup_append]
  refine ⟨List.nodup_range, by simp, ?_⟩
  intro a ha b hb
  rw [List.mem_range] at ha
  simp at hb
  omega
theorem gl_R {N : Nat} {ad : Nat → Nat} {f : Nat → va_E} {c1 c2 c3 : Nat × va_E} : (List.range N ++ [N, N + 2]).map (fun i => (gw_L N ad f ++ [c1, c2, c3])[i]?) = (gw_L N ad f ++ [c1, c3]).map some := by
  rw [List.map_append, List.map_append]
  congr 1
  · rw [show gw_L N ad f = (List.range N).map fun o => (ad o, f o) from rfl, List.map_map]
    apply List.map_congr_left
    intro o ho
    rw [List.mem_range] at ho
    exact gl_old (f := f) ho
  · show [(gw_L N ad f ++ [c1, c2, c3])[N + 0]?, (gw_L N ad f ++ [c1, c2, c3])[N + 2]?] = _
    rw [gl_new, gl_new]; rfl
section TXT
variable {p : Program} {l : Launch} {e : Env} {R : Room} {s : State} {m : MethodId} {args : Array Value} {below : List Frame} {meth : Method} {c : Code} {H H0 : Heap} {locs : List Loc} {cells slots : Nat} {Q : State → Prop}
variable {cc bytes : ByteArray} {pc nL maxL idx np N sz : Nat} {ls : Array Slot} {rest st0 As : List Value} {D : va_G} {A : Nat → Prop} {tys : List (ClassId × FieldType)} {ad : Nat → Nat} {f : Nat → va_E} {own : String} {y : MethodName} {rm : Room} {E : State → Prop}
variable {tysL : List (ClassId × FieldType)} {ws : va_W} {c2 s2 a : Nat}
theorem lw_put0 {C : String} {T : u_T} {n ci : Nat} {fs : List Value} {v : Value} {ty : FieldType} (F : CallFix p m c cc nL s args TBL own) (hW : LWd D tysL ws A s H0 H locs) (q0 : Nat) (he : ws[q0]? = some (a, .inr (ci, fs))) (hc : vwCl[ci]? = some (C, T, n)) (hin : ∀ w ∈ u_ws C T n, w ∈ TBL) (ty0 : Nat → FieldType) (hty : ∀ k, k < n → parseFieldDescriptor (T k).2.2.1 = some (ty0 k)) (hnm : ∀ a, a < n → ∀ b, b < n → a ≠ b → (T a).2.1 ≠ (T b).2.1)
    (k : Nat) (hk : k < n) (hl : Cond.fieldLink own idx (T k).1 (T k).2.1 (T k).2.2.1 ∈ TBL) (hfin : (T k).2.2.2 = false) (htk : ty0 k = ty) (hn : narrow ty v = v) (hfit : fits ty v = true) (hkl : k < fs.length) (hdg : decode cc pc = .ok (.putfield idx, 3))
    (kk : ∀ (H1 : Heap) (locs1 : List Loc), LWd D tysL (ws.set q0 (a, .inr (ci, fs.set k v))) A s H0 H1 locs1 → W p l e R s m args below meth c H1 locs1 cells slots Q (F0 m (pc + 3) ls rest)) : W p l e R s m args below meth c H locs cells slots Q (F0 m pc ls (v :: .ref a :: rest)) :=
  va_put F.1 F.2.1 F.2.2.2.2 hin ty0 hty hnm F.2.2.2.1 hW.2.1 hW.1 hW.2.2.1 hW.2.2.2.1 q0 he hc k hk (F.2.2.2.2 _ hl) (fun _ h => h) hfin (hty k hk) (by rw [htk]; exact hn) (by rw [htk]; exact hfit) hkl hdg (fun H1 locs1 hP hD hS => kk H1 locs1 ⟨hP, hW.2.1, hD, hS, hW.2.2.2.2⟩)
theorem lw_clone {cA : ClassId} {n : Nat} {f : Nat → Int32} {ixx : Nat} (F : CallFix p m c cc nL s args TBL own) (hls : ls.size = nL) (hW : LWd D tysL ws A s H0 H locs) (q0 t0 : Nat) (he : ws[q0]? = some (a, .inl (cA, n, .inl f))) (ht : tysL[t0]? = some (cA, .int)) (hcl : va_Nw (.castable "[I" "java/lang/Cloneable") s) (w : Cond.methodLink own idx (⟨"[I", "clone", "()Ljava/lang/Object;"⟩ : MethodName) ∈ TBL) (hR : 1 ≤ R.frames ∧ 22 ≤ R.locals) (hcat : (rest.map fun v => v.category).sum ≤ 8) (hc2 : cells + 1 = c2) (hs2 : slots + n = s2) (hf : c2 ≤ R.cells ∧ s2 ≤ R.slots) (hdg : decode cc pc = .ok (.invokevirtual idx, 3))
    (kk : ∀ (q : Nat) (H1 : Heap), LWd D tysL (ws ++ [(q, .inl (cA, n, .inl f))]) A s H0 H1 locs → W p l e R s m args below meth c H1 locs c2 s2 Q (F0 m (pc + 3) ls (.ref q :: rest))) : W p l e R s m args below meth c H locs cells slots Q (F0 m pc ls (.ref a :: rest)) := by
  subst hc2; subst hs2
  exact va_clone F.1 F.2.1 (F.2.2.1.trans hls.symm) F.2.2.2.1 (F.2.2.2.2 _ w) (F.2.2.2.2 _ sm_I_java_lang_Object_clone_Ljava_lang_Object) (F.2.2.2.2 _ nat_java_lang_Object_clone_Ljava_lang_Object_MethodName) (F.2.2.2.2 _ im_java_lang_Object_clone_Ljava_lang_Object_MethodName) (F.2.2.2.2 _ se__I_clone_Ljava_lang_Object_MethodName_) hcl hW.2.1 hW.1 hW.2.2.1 hW.2.2.2.1 hW.2.2.2.2 q0 t0 he ht (hW.2.1.2 t0 _ ht).2 (va_fit (F := fun j => .int (f j)) (fun i _ => rfl)) hR.1 (Nat.le_trans (Nat.add_le_add_right hcat 14) hR.2) hf.1 hf.2 hdg (fun q H1 hK hP hD hS => kk q H1 ⟨hP, hW.2.1, hD, hS, hW.2.2.2.2⟩)
theorem gl_aret {S : Type} {post : S → Prop} {B : S → Nat → State → Prop} (F : CallFix p m c cc nL s args TBL own) (hr : meth.sig.returnType = some (.array .int)) (hlk : meth.locks = false) (hS : va_S A s.heap H locs) (u : S) {q : Nat} (hp : post u) (hB : ∀ t : State, t.heap = H → B u q t) (hdg : decode cc pc = .ok (.areturn, 1)) : W p l e R s m args below meth c H locs cells slots (MQ below (va_Qr post B A) args s cells slots A) (F0 m pc ls [.ref q]) :=
  W.aret F.1 F.2.1 hr (Or.inr ⟨_, rfl⟩) (Or.inr ⟨_, rfl⟩) (fun t ht _ => ⟨⟨u, q, rfl, hp, hB t ht⟩, hS.F ht⟩) hS.2.2 hdg hlk
end TXT
theorem gw_startG {l : Launch} {cc : ByteArray} {N sz : Nat} {As : List Value} {D : va_G} {tys : List (ClassId × FieldType)} {ad : Nat → Nat} {f : Nat → va_E} {own : String} {y : MethodName} {rm : Room} {E : State → Prop} {n mc ms : Nat} {ret : Option FieldType} {Qc : Array Value → State → Outcome → State → Prop} (hy : plainFor y = true) (ho : y.cls = own) (hlen : (lg_sl As).length ≤ n)
    (body : ∀ (p : Program) (e : Env) (s : State) (m : MethodId) (below : List Frame) (meth : Method) (c : Code), CallFix p m c cc n s As.toArray TBL own → meth.sig.returnType = ret → meth.locks = false → E s → s.heap.size = sz → GW D tys N ad f (gw_A N ad sz) s s.heap s.heap [] →
      ∀ ls : Array Slot, lv_has ls n (lv_args 0 As) → W p l e rm s m As.toArray below meth c s.heap [] 0 0 (MQ below Qc As.toArray s mc ms (gw_A N ad sz)) (F0 m 0 ls [])) :
    Met l y (WSm y cc n ret) rm (va_Pc As (gw_B D tys N ad f sz E)) Qc mc ms (gw_A N ad sz) := by
  refine va_MetF (cc := cc) (maxL := n) (ret := ret) hy rfl ?_
  intro p e s m args below meth c s₁ B hml hv
  obtain ⟨rfl, hsz, hP, hK, hD, hE⟩ := hv
  have hts := atoms_spec (ws := WSm y cc n ret) B.pre
  have hown : s.vm.findClass own = some m.cls := by rw [← ho]; exact findClass_of_methodNamed B.named
  rw [lg_entry_eq]
  exact body p e s m below meth c ⟨B.exec, B.bytes, hml, hown, fun w hw => hts w (List.mem_cons_of_mem _ hw)⟩ B.returns B.notSynchronized hE hsz ⟨hP, hK, gw_Dc hD (fun o ho => Or.inl ⟨o, ho, rfl⟩), va_S.rf, fun q hq => Or.inr (by rw [← hsz]; exact hq)⟩ _ (lv_entry As hlen)
theorem cp_min {k0 : Nat} (hk : k0 ≤ 160) : (if nI k0 < 160 then nI k0 else 160) = nI k0 := by
  by_cases q : nI k0 < 160
  · rw [if_pos q]
  · rw [if_neg q]
    have := mi_nlt (a := k0) (b := 160) q (by omega) (by decide)
    rw [show k0 = 160 by omega]; rfl
def CT : State → Prop := fun U => va_Nw (.castable "[I" "java/lang/Cloneable") U
theorem CT_E : gw_E CT := fun _ _ _ _ h => h
abbrev rm_yJ7_copyOf_59c91 : Room := { frames := 1, cells := 1, slots := 160, locals := 30 }
set_option maxHeartbeats 4000000 in
set_option maxRecDepth 100000 in
/-- Arrays.copyOf of the reader's code -/
theorem kJ7_copyOf {l : Launch} {D : va_G} {cs : Nat → ClassId} {ad : Nat → Nat} {n : Nat} {ρ σ : Nat → Nat → Int32} {TT τ : Nat → Nat → Nat → Int32} {sz k0 : Nat} (hk : k0 ≤ 160) : Met l yJ7_copyOf_59c91 (WSm yJ7_copyOf_59c91 cJ7_copyOf_59c91 3 (some (.array .int))) rm_yJ7_copyOf_59c91 (va_Pc [.ref (ad 4), .int (nI k0)] (gw_B D (xtys cs) (42 + 3 * n) ad (xent ad cs n ρ TT τ σ) sz CT)) (va_Qr (fun g : Nat → Int32 => ∀ j, j < k0 → g j = σ 4 j) (fun g q t => va_P D vwCl (gw_L (42 + 3 * n) ad (xent ad cs n ρ TT τ σ) ++ [(q, .inl (cs 0, k0, .inl g))]) t.heap ∧ va_D (gw_A (42 + 3 * n) ad sz) (gw_L (42 + 3 * n) ad (xent ad cs n ρ TT τ σ) ++ [(q, .inl (cs 0, k0, .inl g))])) (gw_A (42 + 3 * n) ad sz)) 1 160 (gw_A (42 + 3 * n) ad sz) := by
  refine gw_startG (own := RJ7) (by decide +kernel) rfl (Nat.le_of_ble_eq_true rfl) ?_
  intro p e s m below meth c F hr hlk hE hsz hW ls hl
  obtain ⟨hx, hb, hml, hown, hts⟩ := id F
  have hl : lv_has ls 3 [(0, .ref (ad 4)), (1, .int (nI k0))] := hl
  refine lv_iload_n hx hb dJ7_copyOf_59c91_0 rfl (lv_at hl 1 rfl) ?_
  refine lv_aload_n hx hb dJ7_copyOf_59c91_1 rfl (lv_at hl 0 rfl) ?_
  refine xr_Kl F hW dJ7_copyOf_59c91_2 ?_
  refine lv_icmp_ne (tgt := 14) hx hb dJ7_copyOf_59c91_3 (by decide) (fun c_1 => ?_) (fun c_1 => ?_)
  · refine lv_iload_n hx hb dJ7_copyOf_59c91_14 rfl (lv_at hl 1 rfl) ?_
    have hW : LWd D (xtys cs) (gw_L (42 + 3 * n) ad (xent ad cs n ρ TT τ σ)) (gw_A (42 + 3 * n) ad sz) s s.heap s.heap [] := hW
    refine lw_newi (c2 := 1) (s2 := k0) (N' := k0) F hW (nI_pos (by omega)) (nI_clamp (by omega)) (by omega) rfl (by omega) ⟨Nat.le_refl _, hk⟩ dJ7_copyOf_59c91_15 (fun q cA H hW => ?_)
    obtain rfl : cs 0 = cA := lw_same (i := 0) (j := 4) hW rfl rfl
    have hW := lw_tys (t' := xtys cs) hW [0, 1, 2, 3] rfl
    refine lv_astore_n (lv' := [(2, .ref q), (0, .ref (ad 4)), (1, .int (nI k0))]) hx hb dJ7_copyOf_59c91_17 rfl hl (by decide) rfl (fun ls hl => ?_)
    refine lv_aload_n hx hb dJ7_copyOf_59c91_18 rfl (lv_at hl 1 rfl) ?_
    refine lv_iconst (v := 0) hx hb dJ7_copyOf_59c91_19 (by decide) ?_
    refine lv_aload_n hx hb dJ7_copyOf_59c91_20 rfl (lv_at hl 0 rfl) ?_
    refine lv_iconst (v := 0) hx hb dJ7_copyOf_59c91_21 (by decide) ?_
    refine lv_aload_n hx hb dJ7_copyOf_59c91_22 rfl (lv_at hl 1 rfl) ?_
    refine va_alen hx hb hW.2.1 hW.1 4 0 (gl_old (by omega)) rfl (v := 160) rfl dJ7_copyOf_59c91_23 ?_
    refine lv_iload_n hx hb dJ7_copyOf_59c91_24 rfl (lv_at hl 2 rfl) ?_
    refine va_mmin hx hb (hml.trans hl.1.symm) hown (hts _ ml_RJ7_304) (hts _ st_yJ9_min_7cf53) (hts _ ini_RJ9) (hts _ cd_yJ9_min_7cf53) (Nat.le_refl _) (Nat.le_of_ble_eq_true rfl) (Nat.le_refl _) (Nat.le_trans hk (Nat.le_refl _)) dJ7_copyOf_59c91_25 ?_
    refine lv_as (z := nI k0) (cp_min hk) ?_
    refine va_copyi hx hb (hml.trans hl.1.symm) hown (hts _ ml_RJ7_150) (hts _ nat_java_lang_System_arraycopy_Ljava_lang_Object_ILjava_lang_Object_II_V_MethodName) (hts _ st_java_lang_System_arraycopy_Ljava_lang_Object_ILjava_lang_Object_II_V_MethodName) (hts _ ini_RJ10) hW.2.1 hW.1 hW.2.2.1 hW.2.2.2.1 4 (42 + 3 * n) 0 0 (gl_old (by omega)) (gl_new 0) rfl rfl rfl (by decide) (by decide) (nI_pos (by omega)) (by rw [nI_clamp (by omega)]; show 0 + k0 ≤ 160; omega) (by rw [nI_clamp (by omega)]; show 0 + k0 ≤ k0; omega) (fun i _ => rfl) (Nat.le_refl _) (Nat.le_of_ble_eq_true rfl) dJ7_copyOf_59c91_28 (fun H locs hP hD hS => ?_)
    refine lv_aload_n hx hb dJ7_copyOf_59c91_31 rfl (lv_at hl 0 rfl) ?_
    refine W.widen (k := 1) (n := 160) (Nat.le_refl _) hk ?_
    have he : ∀ e2, (gw_L (42 + 3 * n) ad (xent ad cs n ρ TT τ σ) ++ [(q, (Sum.inl (cs 0, k0, Sum.inl fun _ => 0) : va_E))]).set (42 + 3 * n) (q, e2) = gw_L (42 + 3 * n) ad (xent ad cs n ρ TT τ σ) ++ [(q, e2)] := fun e2 => by
      rw [List.set_append_right _ _ (by rw [gw_len]; omega), gw_len, Nat.sub_self]; rfl
    rw [he] at hP hD
    refine gl_aret F hr hlk hS _ ?_ (fun t ht => by rw [ht]; exact ⟨hP, hD⟩) dJ7_copyOf_59c91_32
    intro j hj
    rw [nI_clamp (by omega), pk_cpy_in (by show 0 ≤ j; omega) (by show j < 0 + k0; omega)]
    show σ 4 (0 + (j - 0)) = σ 4 j
    rw [Nat.zero_add, Nat.sub_zero]
  · have hk0 : k0 = 160 := nI_i (by omega) (by decide) c_1
    subst hk0
    refine lv_aload_n hx hb dJ7_copyOf_59c91_6 rfl (lv_at hl 0 rfl) ?_
    have hW : LWd D (xtys cs) (gw_L (42 + 3 * n) ad (xent ad cs n ρ TT τ σ)) (gw_A (42 + 3 * n) ad sz) s s.heap s.heap [] := hW
    refine lw_clone (ixx := 0) (c2 := 1) (s2 := 160) (n := 160) (f := σ 4) (cA := cs 0) F hl.1 hW 4 0 (gw_get (by omega)) rfl hE ml_RJ7_316 ⟨Nat.le_refl _, Nat.le_of_ble_eq_true rfl⟩ (Nat.le_of_ble_eq_true rfl) rfl rfl ⟨Nat.le_refl _, Nat.le_refl _⟩ dJ7_copyOf_59c91_7 (fun q H hW => ?_)
    refine va_castA hx hb hown (hts _ cl_RJ7_317) hW.1 (42 + 3 * n) (gl_new 0) (hW.2.1.2 0 _ rfl).2 dJ7_copyOf_59c91_10 ?_
    exact gl_aret F hr hlk hW.2.2.2.1 (σ 4) (fun _ _ => rfl) (fun t ht => by rw [ht]; exact ⟨hW.1, hW.2.2.1⟩) dJ7_copyOf_59c91_13
