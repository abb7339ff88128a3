section LVA
variable {p : Program} {l : Launch} {e : Env} {R : Room} {s : State} {m : MethodId} {args : Array Value} {below : List Frame} {meth : Method} {c : Code} {H : Heap} {locs : List Loc} {cells slots : Nat} {Q : State → Prop} {pc : Nat} {ls : Array Slot} {rest : List Value}
theorem lv_as {x z : Int32} (h : x = z) (k : W p l e R s m args below meth c H locs cells slots Q (F0 m pc ls (.int z :: rest))) : W p l e R s m args below meth c H locs cells slots Q (F0 m pc ls (.int x :: rest)) := by rw [h]; exact k
end LVA
theorem gw_stSF {l : Launch} {cc : ByteArray} {As : List Value} {own : String} {y : MethodName} {rm : Room} {n : Nat} {ty : FieldType} {r : Int32} (hy : plainFor y = true) (ho : y.cls = own) (hlen : (lg_sl As).length ≤ n)
    (body : ∀ (p : Program) (e : Env) (s : State) (m : MethodId) (a : Array Value) (below : List Frame) (meth : Method) (c : Code) (Q : State → Prop), CallFix p m c cc n s a TBL own →
      (∀ (v : Int32) (pc : Nat) (ls : Array Slot), narrow ty (.int v) = .int v → v = r → decode cc pc = .ok (.ireturn, 1) → W p l e rm s m a below meth c s.heap [] 0 0 Q (F0 m pc ls [.int v])) →
      ∀ ls : Array Slot, lv_has ls n (lv_args 0 As) → W p l e rm s m a below meth c s.heap [] 0 0 Q (F0 m 0 ls [])) :
    Met l y (WSm y cc n (some ty)) rm (fun v _ => v = As.toArray) (QcRead r) 0 0 (fun _ => False) := by
  refine va_MetF (cc := cc) (maxL := n) (ret := some ty) hy rfl ?_
  intro p e s m args below meth c s₁ B hml hv
  subst hv
  have hts := atoms_spec (ws := WSm y cc n (some ty)) B.pre
  have hown : s.vm.findClass own = some m.cls := by rw [← ho]; exact findClass_of_methodNamed B.named
  have F : CallFix p m c cc n s As.toArray TBL own := ⟨B.exec, B.bytes, hml, hown, fun w hw => hts w (List.mem_cons_of_mem _ hw)⟩
  rw [lg_entry_eq]
  exact body p e s m As.toArray below meth c _ F (fun v pc ls hn hv hd => gw_sret F B.returns B.notSynchronized hn hv hd) _ (lv_entry As hlen)
/-- bitCount's numbers -/
def bcS (x : Int32) : Int32 :=
  let u := fun (z k : Int32) => (z.toUInt32 >>> (k.toUInt32 &&& Int32.toUInt32 31)).toInt32
  let a := x - (u x 1 &&& 1431655765)
  let b := (a &&& 858993459) + (u a 2 &&& 858993459)
  let c := (b + u b 4) &&& 252645135
  let d := c + u c 8
  let e := d + u d 16
  e &&& 63
theorem bc_ones : ∀ j, j < 1024 → bcS (nI j) = onesS (nI j) := by
  have h : (List.range 1024).all (fun j => decide (bcS (nI j) = onesS (nI j))) = true := by decide +kernel
  intro j hj
  exact of_decide_eq_true (List.all_eq_true.mp h j (List.mem_range.mpr hj))
theorem zb_n {v : Int32} (h : v = 0 ∨ v = 1) : narrow .boolean (.int v) = .int v := by rcases h with rfl | rfl <;> rfl
theorem zb_f {v : Int32} (h : v = 0 ∨ v = 1) : fits .boolean (.int v) = true := by rcases h with rfl | rfl <;> rfl
theorem mi_nlt {a b : Nat} (h : ¬ nI a < nI b) (ha : a < 2 ^ 31) (hb : b < 2 ^ 31) : b ≤ a := Nat.le_of_not_lt fun q => h ((nI_ltI ha hb).mpr q)
theorem mi_lt {a b : Nat} (h : nI a < nI b) (ha : a < 2 ^ 31) (hb : b < 2 ^ 31) : a < b := (nI_ltI ha hb).mp h
theorem mi_nle {a b : Nat} (h : ¬ nI a ≤ nI b) (ha : a < 2 ^ 31) (hb : b < 2 ^ 31) : b < a := Nat.lt_of_not_le fun q => h ((nI_leI ha hb).mpr q)
theorem mi_le {a b : Nat} (h : nI a ≤ nI b) (ha : a < 2 ^ 31) (hb : b < 2 ^ 31) : a ≤ b := (nI_leI ha hb).mp h
/-- a guest's row, a table, the texts: what always holds of them -/
def okG (g : Nat → Int32) : Prop := (∃ j, j < 6 ∧ g 0 = nI j) ∧ (∃ j, j < 10 ∧ g 1 = nI j) ∧ (∃ j, j < 1024 ∧ g 2 = nI j) ∧ (∃ j, j < 100 ∧ g 3 = nI j) ∧ (∃ j, j < 100 ∧ g 4 = nI j) ∧ (∃ j, j < 100 ∧ g 5 = nI j) ∧ (g 6 = 0 ∨ g 6 = 1)
def lawN (T : Tb) : Nat := (T 6 3).toNatClampNeg
def okT (n : Nat) (T : Tb) : Prop := seatsN T ≤ 6 ∧ T 6 1 = nI (seatsN T) ∧ lawN T < n ∧ T 6 3 = nI (lawN T) ∧ ∀ q, q < seatsN T → okG (T q)
def comeR (g : Nat → Int32) (km w sh : Int32) : Nat → Int32 := upd (upd (upd (upd (upd (upd (upd g 0 (km / 10)) 1 (km - km / 10 * 10)) 2 w) 3 sh) 4 0) 5 0) 6 0
def copyR (g h : Nat → Int32) : Nat → Int32 := upd (upd (upd (upd (upd (upd (upd g 0 (h 0)) 1 (h 1)) 2 (h 2)) 3 (h 3)) 4 (h 4)) 5 (h 5)) 6 (h 6)
def stateS (g : Nat → Int32) (w : Int32) : Int32 := if w = 0 then g 2 else if w = 1 then g 3 else if w = 2 then g 4 else if w = 3 then g 5 else if g 6 = 0 then 0 else 1
def setR (g : Nat → Int32) (w v : Int32) : Nat → Int32 := if w = 0 then upd g 2 v else if w = 1 then upd g 3 v else if w = 2 then upd g 4 v else if w = 3 then upd g 5 v else upd g 6 (if v = 1 then 1 else 0)
set_option maxHeartbeats 800000 in
set_option maxRecDepth 100000 in
theorem kJ6_bitCount_0f7a4 {l : Launch} {x : Int32}  : PM l yJ6_bitCount_0f7a4 cJ6_bitCount_0f7a4 1 FieldType.int { frames := 0, cells := 0, slots := 0, locals := 0 } [.int x] (bcS x) := by
  refine gw_stS (own := RJ6) (by decide +kernel) rfl (Nat.le_of_ble_eq_true rfl) ?_
  intro p e s m ar below meth c Q F hret ls hl
  obtain ⟨hx, hb, hml, hown, hts⟩ := id F
  have hl : lv_has ls 1 [(0, .int x)] := hl
  refine lv_iload_n hx hb dJ6_bitCount_0f7a4_0 rfl (lv_at hl 0 rfl) ?_
  refine lv_iload_n hx hb dJ6_bitCount_0f7a4_1 rfl (lv_at hl 0 rfl) ?_
  refine lv_iconst (v := 1) hx hb dJ6_bitCount_0f7a4_2 (by decide) ?_
  refine lv_iushr hx hb dJ6_bitCount_0f7a4_3 rfl ?_
  refine lv_ldcw (v := 1431655765) hx hb hown (hts _ kc_RJ6_265) dJ6_bitCount_0f7a4_4 ?_
  refine lv_iand hx hb dJ6_bitCount_0f7a4_7 ?_
  refine lv_isub hx hb dJ6_bitCount_0f7a4_8 ?_
  refine lv_topi (fun v_1 ev_1 => ?_)
  refine lv_istore_n (lv' := [(0, .int v_1)]) hx hb dJ6_bitCount_0f7a4_9 rfl hl (by decide) rfl (fun ls hl => ?_)
  refine lv_iload_n hx hb dJ6_bitCount_0f7a4_10 rfl (lv_at hl 0 rfl) ?_
  refine lv_ldcw (v := 858993459) hx hb hown (hts _ kc_RJ6_266) dJ6_bitCount_0f7a4_11 ?_
  refine lv_iand hx hb dJ6_bitCount_0f7a4_14 ?_
  refine lv_iload_n hx hb dJ6_bitCount_0f7a4_15 rfl (lv_at hl 0 rfl) ?_
  refine lv_iconst (v := 2) hx hb dJ6_bitCount_0f7a4_16 (by decide) ?_
  refine lv_iushr hx hb dJ6_bitCount_0f7a4_17 rfl ?_
  refine lv_ldcw (v := 858993459) hx hb hown (hts _ kc_RJ6_266) dJ6_bitCount_0f7a4_18 ?_
  refine lv_iand hx hb dJ6_bitCount_0f7a4_21 ?_
  refine lv_iadd hx hb dJ6_bitCount_0f7a4_22 ?_
  refine lv_topi (fun v_2 ev_2 => ?_)
  refine lv_istore_n (lv' := [(0, .int v_2)]) hx hb dJ6_bitCount_0f7a4_23 rfl hl (by decide) rfl (fun ls hl => ?_)
  refine lv_iload_n hx hb dJ6_bitCount_0f7a4_24 rfl (lv_at hl 0 rfl) ?_
  refine lv_iload_n hx hb dJ6_bitCount_0f7a4_25 rfl (lv_at hl 0 rfl) ?_
  refine lv_iconst (v := 4) hx hb dJ6_bitCount_0f7a4_26 (by decide) ?_
  refine lv_iushr hx hb dJ6_bitCount_0f7a4_27 rfl ?_
  refine lv_iadd hx hb dJ6_bitCount_0f7a4_28 ?_
  refine lv_ldcw (v := 252645135) hx hb hown (hts _ kc_RJ6_267) dJ6_bitCount_0f7a4_29 ?_
  refine lv_iand hx hb dJ6_bitCount_0f7a4_32 ?_
  refine lv_topi (fun v_3 ev_3 => ?_)
  refine lv_istore_n (lv' := [(0, .int v_3)]) hx hb dJ6_bitCount_0f7a4_33 rfl hl (by decide) rfl (fun ls hl => ?_)
  refine lv_iload_n hx hb dJ6_bitCount_0f7a4_34 rfl (lv_at hl 0 rfl) ?_
  refine lv_iload_n hx hb dJ6_bitCount_0f7a4_35 rfl (lv_at hl 0 rfl) ?_
  refine lv_bipush (v := 8) hx hb dJ6_bitCount_0f7a4_36 (by decide) ?_
  refine lv_iushr hx hb dJ6_bitCount_0f7a4_38 rfl ?_
  refine lv_iadd hx hb dJ6_bitCount_0f7a4_39 ?_
  refine lv_topi (fun v_4 ev_4 => ?_)
  refine lv_istore_n (lv' := [(0, .int v_4)]) hx hb dJ6_bitCount_0f7a4_40 rfl hl (by decide) rfl (fun ls hl => ?_)
  refine lv_iload_n hx hb dJ6_bitCount_0f7a4_41 rfl (lv_at hl 0 rfl) ?_
  refine lv_iload_n hx hb dJ6_bitCount_0f7a4_42 rfl (lv_at hl 0 rfl) ?_
  refine lv_bipush (v := 16) hx hb dJ6_bitCount_0f7a4_43 (by decide) ?_
  refine lv_iushr hx hb dJ6_bitCount_0f7a4_45 rfl ?_
  refine lv_iadd hx hb dJ6_bitCount_0f7a4_46 ?_
  refine lv_topi (fun v_5 ev_5 => ?_)
  refine lv_istore_n (lv' := [(0, .int v_5)]) hx hb dJ6_bitCount_0f7a4_47 rfl hl (by decide) rfl (fun ls hl => ?_)
  refine lv_iload_n hx hb dJ6_bitCount_0f7a4_48 rfl (lv_at hl 0 rfl) ?_
  refine lv_bipush (v := 63) hx hb dJ6_bitCount_0f7a4_49 (by decide) ?_
  refine lv_iand hx hb dJ6_bitCount_0f7a4_51 ?_
  exact hret (v_5 &&& 63) _ _ rfl (by subst ev_5 ev_4 ev_3 ev_2 ev_1; rfl) dJ6_bitCount_0f7a4_52
set_option maxHeartbeats 800000 in
set_option maxRecDepth 100000 in
theorem kJ9_min_7cf53 {l : Launch} {x z : Int32}  : PM l yJ9_min_7cf53 cJ9_min_7cf53 2 FieldType.int { frames := 0, cells := 0, slots := 0, locals := 0 } [.int x, .int z] (if z < x then z else x) := by
  refine gw_stSF (own := RJ9) (by decide +kernel) rfl (Nat.le_of_ble_eq_true rfl) ?_
  intro p e s m ar below meth c Q F hret ls hl
  obtain ⟨hx, hb, hml, hown, hts⟩ := id F
  have hl : lv_has ls 2 [(0, .int x), (1, .int z)] := hl
  refine lv_iload_n hx hb dJ9_min_7cf53_0 rfl (lv_at hl 0 rfl) ?_
  refine lv_iload_n hx hb dJ9_min_7cf53_1 rfl (lv_at hl 1 rfl) ?_
  refine lv_icmp_gt (tgt := 9) hx hb dJ9_min_7cf53_2 (by decide) (fun c_1 => ?_) (fun c_1 => ?_)
  ·
    refine lv_iload_n hx hb dJ9_min_7cf53_9 rfl (lv_at hl 1 rfl) ?_
    exact hret z _ _ rfl (by (try simp only [i32_le, Decidable.not_not] at c_1); first | (simp only [i32_le, c_1, if_true, if_false, not_false_eq_true, not_true_eq_false]; done) | simp [c_1, i32_le]) dJ9_min_7cf53_10
  ·
    refine lv_iload_n hx hb dJ9_min_7cf53_5 rfl (lv_at hl 0 rfl) ?_
    refine lv_goto (tgt := 10) hx hb dJ9_min_7cf53_6 (by decide) ?_
    exact hret x _ _ rfl (by (try simp only [i32_le, Decidable.not_not] at c_1); first | (simp only [i32_le, c_1, if_true, if_false, not_false_eq_true, not_true_eq_false]; done) | simp [c_1, i32_le]) dJ9_min_7cf53_10
set_option maxHeartbeats 800000 in
set_option maxRecDepth 100000 in
theorem kJ9_max_7cf53 {l : Launch} {x z : Int32}  : PM l yJ9_max_7cf53 cJ9_max_7cf53 2 FieldType.int { frames := 0, cells := 0, slots := 0, locals := 0 } [.int x, .int z] (if x < z then z else x) := by
  refine gw_stSF (own := RJ9) (by decide +kernel) rfl (Nat.le_of_ble_eq_true rfl) ?_
  intro p e s m ar below meth c Q F hret ls hl
  obtain ⟨hx, hb, hml, hown, hts⟩ := id F
  have hl : lv_has ls 2 [(0, .int x), (1, .int z)] := hl
  refine lv_iload_n hx hb dJ9_max_7cf53_0 rfl (lv_at hl 0 rfl) ?_
  refine lv_iload_n hx hb dJ9_max_7cf53_1 rfl (lv_at hl 1 rfl) ?_
  refine lv_icmp_lt (tgt := 9) hx hb dJ9_max_7cf53_2 (by decide) (fun c_1 => ?_) (fun c_1 => ?_)
  ·
    refine lv_iload_n hx hb dJ9_max_7cf53_9 rfl (lv_at hl 1 rfl) ?_
    exact hret z _ _ rfl (by (try simp only [i32_le, Decidable.not_not] at c_1); first | (simp only [i32_le, c_1, if_true, if_false, not_false_eq_true, not_true_eq_false]; done) | simp [c_1, i32_le]) dJ9_max_7cf53_10
  ·
    refine lv_iload_n hx hb dJ9_max_7cf53_5 rfl (lv_at hl 0 rfl) ?_
    refine lv_goto (tgt := 10) hx hb dJ9_max_7cf53_6 (by decide) ?_
    exact hret x _ _ rfl (by (try simp only [i32_le, Decidable.not_not] at c_1); first | (simp only [i32_le, c_1, if_true, if_false, not_false_eq_true, not_true_eq_false]; done) | simp [c_1, i32_le]) dJ9_max_7cf53_10
abbrev rm_yX0_come : Room := { frames := 0, cells := 0, slots := 0, locals := 0 }
set_option maxHeartbeats 800000 in
set_option maxRecDepth 100000 in
theorem kX0_come {l : Launch} {D : va_G} {cs : Nat → ClassId} {ad : Nat → Nat} {n : Nat} {ρ σ : Nat → Nat → Int32} {TT τ : Nat → Nat → Nat → Int32} {sz : Nat} {b q : Nat} {km w sh : Int32} (hb : b < 3) (hq : q < 6) : XMv l yX0_come cX0_come 4 rm_yX0_come [.ref (ad (9 + 8 * b + 1 + 1 + q)), .int km, .int w, .int sh] D cs ad n ρ TT τ σ sz (fun (u : Nat → Nat → Nat → Int32) => u = va_up TT b (va_up (TT b) q (comeR (TT b q) km w sh))) (fun u : Nat → Nat → Nat → Int32 => xent ad cs n ρ u τ σ) := by
  refine gw_stV (Ff := fun u : Nat → Nat → Nat → Int32 => xent ad cs n ρ u τ σ) (own := RX0) (by decide +kernel) rfl (Nat.le_of_ble_eq_true rfl) ?_
  intro p e s m ar below meth c A Q F hE hsz hW hret ls hl
  obtain ⟨hx, hb, hml, hown, hts⟩ := id F
  have hl : lv_has ls 4 [(0, .ref (ad (9 + 8 * b + 1 + 1 + q))), (1, .int km), (2, .int w), (3, .int sh)] := hl
  refine lv_aload_n hx hb dX0_come_0 rfl (lv_at hl 0 rfl) ?_
  refine lv_iload_n hx hb dX0_come_1 rfl (lv_at hl 1 rfl) ?_
  refine lv_bipush (v := 10) hx hb dX0_come_2 (by decide) ?_
  refine lv_idiv hx hb dX0_come_4 (by decide) ?_
  refine xw_G (b := b) (q := q) F hW (by omega) (by omega) 0 (by decide) fl_RX0_9 rfl (ty := .int) rfl rfl rfl dX0_come_5 (fun H locs hW => ?_)
  refine lv_aload_n hx hb dX0_come_8 rfl (lv_at hl 0 rfl) ?_
  refine lv_iload_n hx hb dX0_come_9 rfl (lv_at hl 1 rfl) ?_
  refine lv_bipush (v := 10) hx hb dX0_come_10 (by decide) ?_
  refine lv_irem hx hb dX0_come_12 (by decide) ?_
  refine xw_G (b := b) (q := q) F hW (by omega) (by omega) 1 (by decide) fl_RX0_15 rfl (ty := .int) rfl rfl rfl dX0_come_13 (fun H locs hW => ?_)
  refine lv_aload_n hx hb dX0_come_16 rfl (lv_at hl 0 rfl) ?_
  refine lv_iload_n hx hb dX0_come_17 rfl (lv_at hl 2 rfl) ?_
  refine xw_G (b := b) (q := q) F hW (by omega) (by omega) 2 (by decide) fl_RX0_18 rfl (ty := .int) rfl rfl rfl dX0_come_18 (fun H locs hW => ?_)
  refine lv_aload_n hx hb dX0_come_21 rfl (lv_at hl 0 rfl) ?_
  refine lv_iload_n hx hb dX0_come_22 rfl (lv_at hl 3 rfl) ?_
  refine xw_G (b := b) (q := q) F hW (by omega) (by omega) 3 (by decide) fl_RX0_21 rfl (ty := .int) rfl rfl rfl dX0_come_23 (fun H locs hW => ?_)
  refine lv_aload_n hx hb dX0_come_26 rfl (lv_at hl 0 rfl) ?_
  refine lv_iconst (v := 0) hx hb dX0_come_27 (by decide) ?_
  refine xw_G (b := b) (q := q) F hW (by omega) (by omega) 4 (by decide) fl_RX0_24 rfl (ty := .int) rfl rfl rfl dX0_come_28 (fun H locs hW => ?_)
  refine lv_aload_n hx hb dX0_come_31 rfl (lv_at hl 0 rfl) ?_
  refine lv_iconst (v := 0) hx hb dX0_come_32 (by decide) ?_
  refine xw_G (b := b) (q := q) F hW (by omega) (by omega) 5 (by decide) fl_RX0_27 rfl (ty := .int) rfl rfl rfl dX0_come_33 (fun H locs hW => ?_)
  refine lv_aload_n hx hb dX0_come_36 rfl (lv_at hl 0 rfl) ?_
  refine lv_iconst (v := 0) hx hb dX0_come_37 (by decide) ?_
  refine xw_G (b := b) (q := q) F hW (by omega) (by omega) 6 (by decide) fl_RX0_30 rfl (ty := .boolean) rfl rfl rfl dX0_come_38 (fun H locs hW => ?_)
  exact hret _ _ _ _ _ _ hW rfl (by simp only [comeR, upT, va_up_self, bx_uu]) dX0_come_41
abbrev rm_yX0_become : Room := { frames := 0, cells := 0, slots := 0, locals := 0 }
set_option maxHeartbeats 800000 in
set_option maxRecDepth 100000 in
theorem kX0_become {l : Launch} {D : va_G} {cs : Nat → ClassId} {ad : Nat → Nat} {n : Nat} {ρ σ : Nat → Nat → Int32} {TT τ : Nat → Nat → Nat → Int32} {sz : Nat} {b q b2 q2 : Nat} (hb : b < 3) (hq : q < 6) (hb2 : b2 < 3) (hq2 : q2 < 6) (hbb : b2 ≠ b) (hz : TT b2 q2 6 = 0 ∨ TT b2 q2 6 = 1) : XMv l yX0_become cX0_become 2 rm_yX0_become [.ref (ad (9 + 8 * b + 1 + 1 + q)), .ref (ad (9 + 8 * b2 + 1 + 1 + q2))] D cs ad n ρ TT τ σ sz (fun (u : Nat → Nat → Nat → Int32) => u = va_up TT b (va_up (TT b) q (copyR (TT b q) (TT b2 q2)))) (fun u : Nat → Nat → Nat → Int32 => xent ad cs n ρ u τ σ) := by
  refine gw_stV (Ff := fun u : Nat → Nat → Nat → Int32 => xent ad cs n ρ u τ σ) (own := RX0) (by decide +kernel) rfl (Nat.le_of_ble_eq_true rfl) ?_
  intro p e s m ar below meth c A Q F hE hsz hW hret ls hl
  obtain ⟨hx, hb, hml, hown, hts⟩ := id F
  have hl : lv_has ls 2 [(0, .ref (ad (9 + 8 * b + 1 + 1 + q))), (1, .ref (ad (9 + 8 * b2 + 1 + 1 + q2)))] := hl
  refine lv_aload_n hx hb dX0_become_0 rfl (lv_at hl 0 rfl) ?_
  refine lv_aload_n hx hb dX0_become_1 rfl (lv_at hl 1 rfl) ?_
  refine xr_G (b := b2) (q := q2) F hW (by omega) (by omega) 0 (by decide) fl_RX0_9 dX0_become_2 ?_
  refine xw_G (b := b) (q := q) F hW (by omega) (by omega) 0 (by decide) fl_RX0_9 rfl (ty := .int) rfl rfl rfl dX0_become_5 (fun H locs hW => ?_)
  refine lv_aload_n hx hb dX0_become_8 rfl (lv_at hl 0 rfl) ?_
  refine lv_aload_n hx hb dX0_become_9 rfl (lv_at hl 1 rfl) ?_
  refine xr_G (b := b2) (q := q2) F hW (by omega) (by omega) 1 (by decide) fl_RX0_15 dX0_become_10 ?_
  refine xw_G (b := b) (q := q) F hW (by omega) (by omega) 1 (by decide) fl_RX0_15 rfl (ty := .int) rfl rfl rfl dX0_become_13 (fun H locs hW => ?_)
  refine lv_aload_n hx hb dX0_become_16 rfl (lv_at hl 0 rfl) ?_
  refine lv_aload_n hx hb dX0_become_17 rfl (lv_at hl 1 rfl) ?_
  refine xr_G (b := b2) (q := q2) F hW (by omega) (by omega) 2 (by decide) fl_RX0_18 dX0_become_18 ?_
  refine xw_G (b := b) (q := q) F hW (by omega) (by omega) 2 (by decide) fl_RX0_18 rfl (ty := .int) rfl rfl rfl dX0_become_21 (fun H locs hW => ?_)
  refine lv_aload_n hx hb dX0_become_24 rfl (lv_at hl 0 rfl) ?_
  refine lv_aload_n hx hb dX0_become_25 rfl (lv_at hl 1 rfl) ?_
  refine xr_G (b := b2) (q := q2) F hW (by omega) (by omega) 3 (by decide) fl_RX0_21 dX0_become_26 ?_
  refine xw_G (b := b) (q := q) F hW (by omega) (by omega) 3 (by decide) fl_RX0_21 rfl (ty := .int) rfl rfl rfl dX0_become_29 (fun H locs hW => ?_)
  refine lv_aload_n hx hb dX0_become_32 rfl (lv_at hl 0 rfl) ?_
  refine lv_aload_n hx hb dX0_become_33 rfl (lv_at hl 1 rfl) ?_
  refine xr_G (b := b2) (q := q2) F hW (by omega) (by omega) 4 (by decide) fl_RX0_24 dX0_become_34 ?_
  refine xw_G (b := b) (q := q) F hW (by omega) (by omega) 4 (by decide) fl_RX0_24 rfl (ty := .int) rfl rfl rfl dX0_become_37 (fun H locs hW => ?_)
  refine lv_aload_n hx hb dX0_become_40 rfl (lv_at hl 0 rfl) ?_
  refine lv_aload_n hx hb dX0_become_41 rfl (lv_at hl 1 rfl) ?_
  refine xr_G (b := b2) (q := q2) F hW (by omega) (by omega) 5 (by decide) fl_RX0_27 dX0_become_42 ?_
  refine xw_G (b := b) (q := q) F hW (by omega) (by omega) 5 (by decide) fl_RX0_27 rfl (ty := .int) rfl rfl rfl dX0_become_45 (fun H locs hW => ?_)
  refine lv_aload_n hx hb dX0_become_48 rfl (lv_at hl 0 rfl) ?_
  refine lv_aload_n hx hb dX0_become_49 rfl (lv_at hl 1 rfl) ?_
  refine xr_G (b := b2) (q := q2) F hW (by omega) (by omega) 6 (by decide) fl_RX0_30 dX0_become_50 ?_
  refine xw_G (b := b) (q := q) F hW (by omega) (by omega) 6 (by decide) fl_RX0_30 rfl (ty := .boolean) rfl (zb_n (by simp only [va_up_ne _ _ hbb]; exact hz)) (zb_f (by simp only [va_up_ne _ _ hbb]; exact hz)) dX0_become_53 (fun H locs hW => ?_)
  exact hret _ _ _ _ _ _ hW rfl (by simp only [copyR, upT, va_up_self, bx_uu, va_up_ne _ _ hbb]) dX0_become_56
abbrev rm_yX0_stateOf : Room := { frames := 0, cells := 0, slots := 0, locals := 0 }
set_option maxHeartbeats 800000 in
set_option maxRecDepth 100000 in
theorem kX0_stateOf {l : Launch} {D : va_G} {cs : Nat → ClassId} {ad : Nat → Nat} {n : Nat} {ρ σ : Nat → Nat → Int32} {TT τ : Nat → Nat → Nat → Int32} {sz : Nat} {b q : Nat} {w : Int32} (hb : b < 3) (hq : q < 6) : XMi l yX0_stateOf cX0_stateOf 2 FieldType.int rm_yX0_stateOf [.ref (ad (9 + 8 * b + 1 + 1 + q)), .int w] D cs ad n ρ TT τ σ sz (fun (r : Int32) (u : Unit) => r = stateS (TT b q) w) (fun u : Unit => xent ad cs n ρ TT τ σ) := by
  refine gw_stI (Ff := fun u : Unit => xent ad cs n ρ TT τ σ) (own := RX0) (by decide +kernel) rfl (Nat.le_of_ble_eq_true rfl) ?_
  intro p e s m ar below meth c A Q F hE hsz hW hret ls hl
  obtain ⟨hx, hb, hml, hown, hts⟩ := id F
  have hl : lv_has ls 2 [(0, .ref (ad (9 + 8 * b + 1 + 1 + q))), (1, .int w)] := hl
  refine lv_iload_n hx hb dX0_stateOf_0 rfl (lv_at hl 1 rfl) ?_
  by_cases c_1 : w = 0
  ·
    refine lv_tableIn (off := 31) (tgt := 32) hx hb dX0_stateOf_1 (by rw [c_1]; decide) (by rw [c_1]; decide) (by rw [c_1]; rfl) (by decide) ?_
    refine lv_aload_n hx hb dX0_stateOf_32 rfl (lv_at hl 0 rfl) ?_
    refine xr_G (b := b) (q := q) F hW (by omega) (by omega) 2 (by decide) fl_RX0_18 dX0_stateOf_33 ?_
    exact hret (TT b q 2) () _ _ _ _ _ hW rfl rfl (by (try simp only [i32_le, Decidable.not_not] at c_1); first | (simp only [stateS, i32_le, c_1, if_true, if_false, not_false_eq_true, not_true_eq_false]; done) | simp [stateS, c_1, i32_le]) dX0_stateOf_36
  ·
    by_cases c_2 : w = 1
    ·
      refine lv_tableIn (off := 36) (tgt := 37) hx hb dX0_stateOf_1 (by rw [c_2]; decide) (by rw [c_2]; decide) (by rw [c_2]; rfl) (by decide) ?_
      refine lv_aload_n hx hb dX0_stateOf_37 rfl (lv_at hl 0 rfl) ?_
      refine xr_G (b := b) (q := q) F hW (by omega) (by omega) 3 (by decide) fl_RX0_21 dX0_stateOf_38 ?_
      exact hret (TT b q 3) () _ _ _ _ _ hW rfl rfl (by (try simp only [i32_le, Decidable.not_not] at c_1); (try simp only [i32_le, Decidable.not_not] at c_2); first | (simp only [stateS, i32_le, c_1, c_2, if_true, if_false, not_false_eq_true, not_true_eq_false]; done) | simp [stateS, c_1, c_2, i32_le]) dX0_stateOf_41
    ·
      by_cases c_3 : w = 2
      ·
        refine lv_tableIn (off := 41) (tgt := 42) hx hb dX0_stateOf_1 (by rw [c_3]; decide) (by rw [c_3]; decide) (by rw [c_3]; rfl) (by decide) ?_
        refine lv_aload_n hx hb dX0_stateOf_42 rfl (lv_at hl 0 rfl) ?_
        refine xr_G (b := b) (q := q) F hW (by omega) (by omega) 4 (by decide) fl_RX0_24 dX0_stateOf_43 ?_
        exact hret (TT b q 4) () _ _ _ _ _ hW rfl rfl (by (try simp only [i32_le, Decidable.not_not] at c_1); (try simp only [i32_le, Decidable.not_not] at c_2); (try simp only [i32_le, Decidable.not_not] at c_3); first | (simp only [stateS, i32_le, c_1, c_2, c_3, if_true, if_false, not_false_eq_true, not_true_eq_false]; done) | simp [stateS, c_1, c_2, c_3, i32_le]) dX0_stateOf_46
      ·
        by_cases c_4 : w = 3
        ·
          refine lv_tableIn (off := 46) (tgt := 47) hx hb dX0_stateOf_1 (by rw [c_4]; decide) (by rw [c_4]; decide) (by rw [c_4]; rfl) (by decide) ?_
          refine lv_aload_n hx hb dX0_stateOf_47 rfl (lv_at hl 0 rfl) ?_
          refine xr_G (b := b) (q := q) F hW (by omega) (by omega) 5 (by decide) fl_RX0_27 dX0_stateOf_48 ?_
          exact hret (TT b q 5) () _ _ _ _ _ hW rfl rfl (by (try simp only [i32_le, Decidable.not_not] at c_1); (try simp only [i32_le, Decidable.not_not] at c_2); (try simp only [i32_le, Decidable.not_not] at c_3); (try simp only [i32_le, Decidable.not_not] at c_4); first | (simp only [stateS, i32_le, c_1, c_2, c_3, c_4, if_true, if_false, not_false_eq_true, not_true_eq_false]; done) | simp [stateS, c_1, c_2, c_3, c_4, i32_le]) dX0_stateOf_51
        ·
          refine lv_tableOut (tgt := 52) hx hb dX0_stateOf_1 (tb_out4_0 c_1 c_2 c_3 c_4) (by decide) ?_
          refine lv_aload_n hx hb dX0_stateOf_52 rfl (lv_at hl 0 rfl) ?_
          refine xr_G (b := b) (q := q) F hW (by omega) (by omega) 6 (by decide) fl_RX0_30 dX0_stateOf_53 ?_
          refine lv_if_eq (tgt := 63) hx hb dX0_stateOf_56 (by decide) (fun c_5 => ?_) (fun c_5 => ?_)
          ·
            refine lv_iconst (v := 0) hx hb dX0_stateOf_63 (by decide) ?_
            exact hret 0 () _ _ _ _ _ hW rfl rfl (by (try simp only [i32_le, Decidable.not_not] at c_1); (try simp only [i32_le, Decidable.not_not] at c_2); (try simp only [i32_le, Decidable.not_not] at c_3); (try simp only [i32_le, Decidable.not_not] at c_4); (try simp only [i32_le, Decidable.not_not] at c_5); first | (simp only [stateS, i32_le, c_1, c_2, c_3, c_4, c_5, if_true, if_false, not_false_eq_true, not_true_eq_false]; done) | simp [stateS, c_1, c_2, c_3, c_4, c_5, i32_le]) dX0_stateOf_64
          ·
            refine lv_iconst (v := 1) hx hb dX0_stateOf_59 (by decide) ?_
            refine lv_goto (tgt := 64) hx hb dX0_stateOf_60 (by decide) ?_
            exact hret 1 () _ _ _ _ _ hW rfl rfl (by (try simp only [i32_le, Decidable.not_not] at c_1); (try simp only [i32_le, Decidable.not_not] at c_2); (try simp only [i32_le, Decidable.not_not] at c_3); (try simp only [i32_le, Decidable.not_not] at c_4); (try simp only [i32_le, Decidable.not_not] at c_5); first | (simp only [stateS, i32_le, c_1, c_2, c_3, c_4, c_5, if_true, if_false, not_false_eq_true, not_true_eq_false]; done) | simp [stateS, c_1, c_2, c_3, c_4, c_5, i32_le]) dX0_stateOf_64
abbrev rm_yX0_setState : Room := { frames := 0, cells := 0, slots := 0, locals := 0 }
set_option maxHeartbeats 800000 in
set_option maxRecDepth 100000 in
theorem kX0_setState {l : Launch} {D : va_G} {cs : Nat → ClassId} {ad : Nat → Nat} {n : Nat} {ρ σ : Nat → Nat → Int32} {TT τ : Nat → Nat → Nat → Int32} {sz : Nat} {b q : Nat} {w v : Int32} (hb : b < 3) (hq : q < 6) : XMv l yX0_setState cX0_setState 3 rm_yX0_setState [.ref (ad (9 + 8 * b + 1 + 1 + q)), .int w, .int v] D cs ad n ρ TT τ σ sz (fun (u : Nat → Nat → Nat → Int32) => u = va_up TT b (va_up (TT b) q (setR (TT b q) w v))) (fun u : Nat → Nat → Nat → Int32 => xent ad cs n ρ u τ σ) := by
  refine gw_stV (Ff := fun u : Nat → Nat → Nat → Int32 => xent ad cs n ρ u τ σ) (own := RX0) (by decide +kernel) rfl (Nat.le_of_ble_eq_true rfl) ?_
  intro p e s m ar below meth c A Q F hE hsz hW hret ls hl
  obtain ⟨hx, hb, hml, hown, hts⟩ := id F
  have hl : lv_has ls 3 [(0, .ref (ad (9 + 8 * b + 1 + 1 + q))), (1, .int w), (2, .int v)] := hl
  refine lv_iload_n hx hb dX0_setState_0 rfl (lv_at hl 1 rfl) ?_
  by_cases c_1 : w = 0
  ·
    refine lv_tableIn (off := 31) (tgt := 32) hx hb dX0_setState_1 (by rw [c_1]; decide) (by rw [c_1]; decide) (by rw [c_1]; rfl) (by decide) ?_
    refine lv_aload_n hx hb dX0_setState_32 rfl (lv_at hl 0 rfl) ?_
    refine lv_iload_n hx hb dX0_setState_33 rfl (lv_at hl 2 rfl) ?_
    refine xw_G (b := b) (q := q) F hW (by omega) (by omega) 2 (by decide) fl_RX0_18 rfl (ty := .int) rfl rfl rfl dX0_setState_34 (fun H locs hW => ?_)
    refine lv_goto (tgt := 78) hx hb dX0_setState_37 (by decide) ?_
    exact hret _ _ _ _ _ _ hW rfl (by (try simp only [i32_le, Decidable.not_not] at c_1); first | (simp only [setR, upT, i32_le, c_1, if_true, if_false, not_false_eq_true, not_true_eq_false]; done) | simp [setR, upT, c_1, i32_le]) dX0_setState_78
  ·
    by_cases c_2 : w = 1
    ·
      refine lv_tableIn (off := 39) (tgt := 40) hx hb dX0_setState_1 (by rw [c_2]; decide) (by rw [c_2]; decide) (by rw [c_2]; rfl) (by decide) ?_
      refine lv_aload_n hx hb dX0_setState_40 rfl (lv_at hl 0 rfl) ?_
      refine lv_iload_n hx hb dX0_setState_41 rfl (lv_at hl 2 rfl) ?_
      refine xw_G (b := b) (q := q) F hW (by omega) (by omega) 3 (by decide) fl_RX0_21 rfl (ty := .int) rfl rfl rfl dX0_setState_42 (fun H locs hW => ?_)
      refine lv_goto (tgt := 78) hx hb dX0_setState_45 (by decide) ?_
      exact hret _ _ _ _ _ _ hW rfl (by (try simp only [i32_le, Decidable.not_not] at c_1); (try simp only [i32_le, Decidable.not_not] at c_2); first | (simp only [setR, upT, i32_le, c_1, c_2, if_true, if_false, not_false_eq_true, not_true_eq_false]; done) | simp [setR, upT, c_1, c_2, i32_le]) dX0_setState_78
    ·
      by_cases c_3 : w = 2
      ·
        refine lv_tableIn (off := 47) (tgt := 48) hx hb dX0_setState_1 (by rw [c_3]; decide) (by rw [c_3]; decide) (by rw [c_3]; rfl) (by decide) ?_
        refine lv_aload_n hx hb dX0_setState_48 rfl (lv_at hl 0 rfl) ?_
        refine lv_iload_n hx hb dX0_setState_49 rfl (lv_at hl 2 rfl) ?_
        refine xw_G (b := b) (q := q) F hW (by omega) (by omega) 4 (by decide) fl_RX0_24 rfl (ty := .int) rfl rfl rfl dX0_setState_50 (fun H locs hW => ?_)
        refine lv_goto (tgt := 78) hx hb dX0_setState_53 (by decide) ?_
        exact hret _ _ _ _ _ _ hW rfl (by (try simp only [i32_le, Decidable.not_not] at c_1); (try simp only [i32_le, Decidable.not_not] at c_2); (try simp only [i32_le, Decidable.not_not] at c_3); first | (simp only [setR, upT, i32_le, c_1, c_2, c_3, if_true, if_false, not_false_eq_true, not_true_eq_false]; done) | simp [setR, upT, c_1, c_2, c_3, i32_le]) dX0_setState_78
      ·
        by_cases c_4 : w = 3
        ·
          refine lv_tableIn (off := 55) (tgt := 56) hx hb dX0_setState_1 (by rw [c_4]; decide) (by rw [c_4]; decide) (by rw [c_4]; rfl) (by decide) ?_
          refine lv_aload_n hx hb dX0_setState_56 rfl (lv_at hl 0 rfl) ?_
          refine lv_iload_n hx hb dX0_setState_57 rfl (lv_at hl 2 rfl) ?_
          refine xw_G (b := b) (q := q) F hW (by omega) (by omega) 5 (by decide) fl_RX0_27 rfl (ty := .int) rfl rfl rfl dX0_setState_58 (fun H locs hW => ?_)
          refine lv_goto (tgt := 78) hx hb dX0_setState_61 (by decide) ?_
          exact hret _ _ _ _ _ _ hW rfl (by (try simp only [i32_le, Decidable.not_not] at c_1); (try simp only [i32_le, Decidable.not_not] at c_2); (try simp only [i32_le, Decidable.not_not] at c_3); (try simp only [i32_le, Decidable.not_not] at c_4); first | (simp only [setR, upT, i32_le, c_1, c_2, c_3, c_4, if_true, if_false, not_false_eq_true, not_true_eq_false]; done) | simp [setR, upT, c_1, c_2, c_3, c_4, i32_le]) dX0_setState_78
        ·
          refine lv_tableOut (tgt := 64) hx hb dX0_setState_1 (tb_out4_0 c_1 c_2 c_3 c_4) (by decide) ?_
          refine lv_aload_n hx hb dX0_setState_64 rfl (lv_at hl 0 rfl) ?_
          refine lv_iload_n hx hb dX0_setState_65 rfl (lv_at hl 2 rfl) ?_
          refine lv_iconst (v := 1) hx hb dX0_setState_66 (by decide) ?_
          refine lv_icmp_ne (tgt := 74) hx hb dX0_setState_67 (by decide) (fun c_5 => ?_) (fun c_5 => ?_)
          ·
            refine lv_iconst (v := 0) hx hb dX0_setState_74 (by decide) ?_
            refine xw_G (b := b) (q := q) F hW (by omega) (by omega) 6 (by decide) fl_RX0_30 rfl (ty := .boolean) rfl rfl rfl dX0_setState_75 (fun H locs hW => ?_)
            exact hret _ _ _ _ _ _ hW rfl (by (try simp only [i32_le, Decidable.not_not] at c_1); (try simp only [i32_le, Decidable.not_not] at c_2); (try simp only [i32_le, Decidable.not_not] at c_3); (try simp only [i32_le, Decidable.not_not] at c_4); (try simp only [i32_le, Decidable.not_not] at c_5); first | (simp only [setR, upT, i32_le, c_1, c_2, c_3, c_4, c_5, if_true, if_false, not_false_eq_true, not_true_eq_false]; done) | simp [setR, upT, c_1, c_2, c_3, c_4, c_5, i32_le]) dX0_setState_78
          ·
            refine lv_iconst (v := 1) hx hb dX0_setState_70 (by decide) ?_
            refine lv_goto (tgt := 75) hx hb dX0_setState_71 (by decide) ?_
            refine xw_G (b := b) (q := q) F hW (by omega) (by omega) 6 (by decide) fl_RX0_30 rfl (ty := .boolean) rfl rfl rfl dX0_setState_75 (fun H locs hW => ?_)
            exact hret _ _ _ _ _ _ hW rfl (by (try simp only [i32_le, Decidable.not_not] at c_1); (try simp only [i32_le, Decidable.not_not] at c_2); (try simp only [i32_le, Decidable.not_not] at c_3); (try simp only [i32_le, Decidable.not_not] at c_4); (try simp only [i32_le, Decidable.not_not] at c_5); first | (simp only [setR, upT, i32_le, c_1, c_2, c_3, c_4, c_5, if_true, if_false, not_false_eq_true, not_true_eq_false]; done) | simp [setR, upT, c_1, c_2, c_3, c_4, c_5, i32_le]) dX0_setState_78
abbrev rm_yX4_seatsOne : Room := { frames := 0, cells := 0, slots := 0, locals := 0 }
set_option maxHeartbeats 800000 in
set_option maxRecDepth 100000 in
theorem kX4_seatsOne {l : Launch} {D : va_G} {cs : Nat → ClassId} {ad : Nat → Nat} {n : Nat} {ρ σ : Nat → Nat → Int32} {TT τ : Nat → Nat → Nat → Int32} {sz : Nat} {b : Nat} {v : Int32} (hb : b < 3) : XMi l yX4_seatsOne cX4_seatsOne 2 FieldType.boolean rm_yX4_seatsOne [.ref (ad (9 + 8 * b)), .int v] D cs ad n ρ TT τ σ sz (fun (r : Int32) (u : Unit) => r = if v < 0 then 0 else if TT b 6 1 ≤ v then 0 else 1) (fun u : Unit => xent ad cs n ρ TT τ σ) := by
  refine gw_stI (Ff := fun u : Unit => xent ad cs n ρ TT τ σ) (own := RX4) (by decide +kernel) rfl (Nat.le_of_ble_eq_true rfl) ?_
  intro p e s m ar below meth c A Q F hE hsz hW hret ls hl
  obtain ⟨hx, hb, hml, hown, hts⟩ := id F
  have hl : lv_has ls 2 [(0, .ref (ad (9 + 8 * b))), (1, .int v)] := hl
  refine lv_iload_n hx hb dX4_seatsOne_0 rfl (lv_at hl 1 rfl) ?_
  refine lv_if_lt (tgt := 16) hx hb dX4_seatsOne_1 (by decide) (fun c_1 => ?_) (fun c_1 => ?_)
  ·
    refine lv_iconst (v := 0) hx hb dX4_seatsOne_16 (by decide) ?_
    exact hret 0 () _ _ _ _ _ hW rfl rfl (by (try simp only [i32_le, Decidable.not_not] at c_1); first | (simp only [i32_le, c_1, if_true, if_false, not_false_eq_true, not_true_eq_false]; done) | simp [c_1, i32_le]) dX4_seatsOne_17
  ·
    refine lv_iload_n hx hb dX4_seatsOne_4 rfl (lv_at hl 1 rfl) ?_
    refine lv_aload_n hx hb dX4_seatsOne_5 rfl (lv_at hl 0 rfl) ?_
    refine xr_Ti (b := b) F hW (by omega) 1 (by decide) fl_RX4_22 dX4_seatsOne_6 ?_
    refine lv_icmp_ge (tgt := 16) hx hb dX4_seatsOne_9 (by decide) (fun c_2 => ?_) (fun c_2 => ?_)
    ·
      refine lv_iconst (v := 0) hx hb dX4_seatsOne_16 (by decide) ?_
      exact hret 0 () _ _ _ _ _ hW rfl rfl (by (try simp only [i32_le, Decidable.not_not] at c_1); (try simp only [i32_le, Decidable.not_not] at c_2); first | (simp only [i32_le, c_1, c_2, if_true, if_false, not_false_eq_true, not_true_eq_false]; done) | simp [c_1, c_2, i32_le]) dX4_seatsOne_17
    ·
      refine lv_iconst (v := 1) hx hb dX4_seatsOne_12 (by decide) ?_
      refine lv_goto (tgt := 17) hx hb dX4_seatsOne_13 (by decide) ?_
      exact hret 1 () _ _ _ _ _ hW rfl rfl (by (try simp only [i32_le, Decidable.not_not] at c_1); (try simp only [i32_le, Decidable.not_not] at c_2); first | (simp only [i32_le, c_1, c_2, if_true, if_false, not_false_eq_true, not_true_eq_false]; done) | simp [c_1, c_2, i32_le]) dX4_seatsOne_17
abbrev rm_yX4_mindedByBred : Room := { frames := 0, cells := 0, slots := 0, locals := 0 }
set_option maxHeartbeats 800000 in
set_option maxRecDepth 100000 in
theorem kX4_mindedByBred {l : Launch} {D : va_G} {cs : Nat → ClassId} {ad : Nat → Nat} {n : Nat} {ρ σ : Nat → Nat → Int32} {TT τ : Nat → Nat → Nat → Int32} {sz : Nat} {b q : Nat} {v : Int32} (hb : b < 3) (hq : q < 6) : XMi l yX4_mindedByBred cX4_mindedByBred 2 FieldType.int rm_yX4_mindedByBred [.ref (ad (9 + 8 * b + 1 + 1 + q)), .int v] D cs ad n ρ TT τ σ sz (fun (r : Int32) (u : Unit) => r = bredS (TT b q) v) (fun u : Unit => xent ad cs n ρ TT τ σ) := by
  refine gw_stI (Ff := fun u : Unit => xent ad cs n ρ TT τ σ) (own := RX4) (by decide +kernel) rfl (Nat.le_of_ble_eq_true rfl) ?_
  intro p e s m ar below meth c A Q F hE hsz hW hret ls hl
  obtain ⟨hx, hb, hml, hown, hts⟩ := id F
  have hl : lv_has ls 2 [(0, .ref (ad (9 + 8 * b + 1 + 1 + q))), (1, .int v)] := hl
  refine lv_iload_n hx hb dX4_mindedByBred_0 rfl (lv_at hl 1 rfl) ?_
  refine lv_if_eq (tgt := 10) hx hb dX4_mindedByBred_1 (by decide) (fun c_1 => ?_) (fun c_1 => ?_)
  ·
    refine lv_aload_n hx hb dX4_mindedByBred_10 rfl (lv_at hl 0 rfl) ?_
    refine xr_G (b := b) (q := q) F hW (by omega) (by omega) 2 (by decide) fl_RX4_55 dX4_mindedByBred_11 ?_
    refine lv_iconst (v := 1) hx hb dX4_mindedByBred_14 (by decide) ?_
    refine lv_aload_n hx hb dX4_mindedByBred_15 rfl (lv_at hl 0 rfl) ?_
    refine xr_G (b := b) (q := q) F hW (by omega) (by omega) 1 (by decide) fl_RX4_52 dX4_mindedByBred_16 ?_
    refine lv_ishl hx hb dX4_mindedByBred_19 ?_
    refine lv_ior hx hb dX4_mindedByBred_20 ?_
    exact hret ((TT b q 2) ||| (1 <<< ((TT b q 1) &&& 31))) () _ _ _ _ _ hW rfl rfl (by (try simp only [i32_le, Decidable.not_not] at c_1); first | (simp only [bredS, oneS, i32_le, c_1, if_true, if_false, not_false_eq_true, not_true_eq_false]; done) | simp [bredS, oneS, c_1, i32_le]) dX4_mindedByBred_21
  ·
    refine lv_sipush (v := 1023) hx hb dX4_mindedByBred_4 (by decide) ?_
    refine lv_goto (tgt := 21) hx hb dX4_mindedByBred_7 (by decide) ?_
    exact hret 1023 () _ _ _ _ _ hW rfl rfl (by (try simp only [i32_le, Decidable.not_not] at c_1); first | (simp only [bredS, oneS, i32_le, c_1, if_true, if_false, not_false_eq_true, not_true_eq_false]; done) | simp [bredS, oneS, c_1, i32_le]) dX4_mindedByBred_21
abbrev rm_yX4_mindedByHungry : Room := { frames := 0, cells := 0, slots := 0, locals := 0 }
set_option maxHeartbeats 800000 in
set_option maxRecDepth 100000 in
theorem kX4_mindedByHungry {l : Launch} {D : va_G} {cs : Nat → ClassId} {ad : Nat → Nat} {n : Nat} {ρ σ : Nat → Nat → Int32} {TT τ : Nat → Nat → Nat → Int32} {sz : Nat} {b q : Nat} {v : Int32} (hb : b < 3) (hq : q < 6) : XMi l yX4_mindedByHungry cX4_mindedByHungry 2 FieldType.int rm_yX4_mindedByHungry [.ref (ad (9 + 8 * b + 1 + 1 + q)), .int v] D cs ad n ρ TT τ σ sz (fun (r : Int32) (u : Unit) => r = hungS (TT b q) v) (fun u : Unit => xent ad cs n ρ TT τ σ) := by
  refine gw_stI (Ff := fun u : Unit => xent ad cs n ρ TT τ σ) (own := RX4) (by decide +kernel) rfl (Nat.le_of_ble_eq_true rfl) ?_
  intro p e s m ar below meth c A Q F hE hsz hW hret ls hl
  obtain ⟨hx, hb, hml, hown, hts⟩ := id F
  have hl : lv_has ls 2 [(0, .ref (ad (9 + 8 * b + 1 + 1 + q))), (1, .int v)] := hl
  refine lv_iload_n hx hb dX4_mindedByHungry_0 rfl (lv_at hl 1 rfl) ?_
  refine lv_if_eq (tgt := 11) hx hb dX4_mindedByHungry_1 (by decide) (fun c_1 => ?_) (fun c_1 => ?_)
  ·
    refine lv_iconst (v := 0) hx hb dX4_mindedByHungry_11 (by decide) ?_
    exact hret 0 () _ _ _ _ _ hW rfl rfl (by (try simp only [i32_le, Decidable.not_not] at c_1); first | (simp only [hungS, i32_le, c_1, if_true, if_false, not_false_eq_true, not_true_eq_false]; done) | simp [hungS, c_1, i32_le]) dX4_mindedByHungry_12
  ·
    refine lv_aload_n hx hb dX4_mindedByHungry_4 rfl (lv_at hl 0 rfl) ?_
    refine xr_G (b := b) (q := q) F hW (by omega) (by omega) 2 (by decide) fl_RX4_55 dX4_mindedByHungry_5 ?_
    refine lv_goto (tgt := 12) hx hb dX4_mindedByHungry_8 (by decide) ?_
    exact hret (TT b q 2) () _ _ _ _ _ hW rfl rfl (by (try simp only [i32_le, Decidable.not_not] at c_1); first | (simp only [hungS, i32_le, c_1, if_true, if_false, not_false_eq_true, not_true_eq_false]; done) | simp [hungS, c_1, i32_le]) dX4_mindedByHungry_12
abbrev rm_yX1_lay : Room := { frames := 0, cells := 0, slots := 0, locals := 0 }
set_option maxHeartbeats 800000 in
set_option maxRecDepth 100000 in
theorem kX1_lay {l : Launch} {D : va_G} {cs : Nat → ClassId} {ad : Nat → Nat} {n : Nat} {ρ σ : Nat → Nat → Int32} {TT τ : Nat → Nat → Nat → Int32} {sz : Nat} {h : Nat} {v : Int32} (hh : ρ 6 1 = nI h) (h6 : h < 64) : XMv l yX1_lay cX1_lay 2 rm_yX1_lay [.ref (ad 6), .int v] D cs ad n ρ TT τ σ sz (fun (u : Nat → Nat → Int32) => u = upR (upR ρ 7 h v) 6 1 (nI (h + 1))) (fun u : Nat → Nat → Int32 => xent ad cs n u TT τ σ) := by
  refine gw_stV (Ff := fun u : Nat → Nat → Int32 => xent ad cs n u TT τ σ) (own := RX1) (by decide +kernel) rfl (Nat.le_of_ble_eq_true rfl) ?_
  intro p e s m ar below meth c A Q F hE hsz hW hret ls hl
  obtain ⟨hx, hb, hml, hown, hts⟩ := id F
  have hl : lv_has ls 2 [(0, .ref (ad 6)), (1, .int v)] := hl
  refine lv_aload_n hx hb dX1_lay_0 rfl (lv_at hl 0 rfl) ?_
  refine xr_I F hW 1 (by decide) rfl fl_RX1_15 dX1_lay_1 ?_
  refine lv_as (z := nI h) (hh) ?_
  refine lv_if_lt (tgt := 39) hx hb dX1_lay_4 (by decide) (fun c_1 => ?_) (fun c_1 => ?_)
  ·
    exact absurd c_1 (nI_pos (by omega))
  ·
    refine lv_aload_n hx hb dX1_lay_7 rfl (lv_at hl 0 rfl) ?_
    refine xr_I F hW 1 (by decide) rfl fl_RX1_15 dX1_lay_8 ?_
    refine lv_as (z := nI h) (hh) ?_
    refine lv_aload_n hx hb dX1_lay_11 rfl (lv_at hl 0 rfl) ?_
    refine xr_I F hW 0 (by decide) rfl fl_RX1_9 dX1_lay_12 ?_
    refine xr_Ul F hW dX1_lay_15 ?_
    refine lv_icmp_ge (tgt := 39) hx hb dX1_lay_16 (by decide) (fun c_2 => ?_) (fun c_2 => ?_)
    ·
      exact absurd c_2 (nI_ge (a := h) (b := 64) (by omega) (by decide))
    ·
      refine lv_aload_n hx hb dX1_lay_19 rfl (lv_at hl 0 rfl) ?_
      refine xr_I F hW 0 (by decide) rfl fl_RX1_9 dX1_lay_20 ?_
      refine lv_aload_n hx hb dX1_lay_23 rfl (lv_at hl 0 rfl) ?_
      refine xr_I F hW 1 (by decide) rfl fl_RX1_15 dX1_lay_24 ?_
      refine lv_as (z := nI h) (hh) ?_
      refine lv_iload_n hx hb dX1_lay_27 rfl (lv_at hl 1 rfl) ?_
      refine xw_Ue F hW (vp_in_nI (by omega) (by decide)) dX1_lay_28 (fun H locs hW => ?_)
      refine lv_aload_n hx hb dX1_lay_29 rfl (lv_at hl 0 rfl) ?_
      refine lv_dup hx hb dX1_lay_30 rfl ?_
      refine xr_I F hW 1 (by decide) rfl fl_RX1_15 dX1_lay_31 ?_
      refine lv_iconst (v := 1) hx hb dX1_lay_34 (by decide) ?_
      refine lv_iadd hx hb dX1_lay_35 ?_
      refine xw_I F hW 1 (by decide) fl_RX1_15 rfl (ty := .int) rfl rfl rfl rfl dX1_lay_36 (fun H locs hW => ?_)
      exact hret _ _ _ _ _ _ hW rfl (by simp only [nI_clamp (show h < 2 ^ 31 by omega), nI_1, show ∀ k, upR ρ 7 k v 6 1 = ρ 6 1 from fun _ => rfl, hh]) dX1_lay_39
abbrev rm_yX1_lift : Room := { frames := 0, cells := 0, slots := 0, locals := 0 }
set_option maxHeartbeats 800000 in
set_option maxRecDepth 100000 in
theorem kX1_lift {l : Launch} {D : va_G} {cs : Nat → ClassId} {ad : Nat → Nat} {n : Nat} {ρ σ : Nat → Nat → Int32} {TT τ : Nat → Nat → Nat → Int32} {sz : Nat} {h : Nat} (hh : ρ 6 1 = nI (h + 1)) (h6 : h < 64) : XMi l yX1_lift cX1_lift 1 FieldType.int rm_yX1_lift [.ref (ad 6)] D cs ad n ρ TT τ σ sz (fun (r : Int32) (u : Nat → Nat → Int32) => r = ρ 7 h ∧ u = upR ρ 6 1 (nI h)) (fun u : Nat → Nat → Int32 => xent ad cs n u TT τ σ) := by
  refine gw_stI (Ff := fun u : Nat → Nat → Int32 => xent ad cs n u TT τ σ) (own := RX1) (by decide +kernel) rfl (Nat.le_of_ble_eq_true rfl) ?_
  intro p e s m ar below meth c A Q F hE hsz hW hret ls hl
  obtain ⟨hx, hb, hml, hown, hts⟩ := id F
  have hl : lv_has ls 1 [(0, .ref (ad 6))] := hl
  refine lv_aload_n hx hb dX1_lift_0 rfl (lv_at hl 0 rfl) ?_
  refine xr_I F hW 1 (by decide) rfl fl_RX1_15 dX1_lift_1 ?_
  refine lv_as (z := nI (h + 1)) (hh) ?_
  refine lv_iconst (v := 1) hx hb dX1_lift_4 (by decide) ?_
  refine lv_icmp_lt (tgt := 20) hx hb dX1_lift_5 (by decide) (fun c_1 => ?_) (fun c_1 => ?_)
  ·
    exact absurd c_1 (nI_nlt (a := h + 1) (b := 1) (by omega) (by omega))
  ·
    refine lv_aload_n hx hb dX1_lift_8 rfl (lv_at hl 0 rfl) ?_
    refine xr_I F hW 1 (by decide) rfl fl_RX1_15 dX1_lift_9 ?_
    refine lv_aload_n hx hb dX1_lift_12 rfl (lv_at hl 0 rfl) ?_
    refine xr_I F hW 0 (by decide) rfl fl_RX1_9 dX1_lift_13 ?_
    refine xr_Ul F hW dX1_lift_16 ?_
    refine lv_icmp_le (tgt := 22) hx hb dX1_lift_17 (by decide) (fun c_2 => ?_) (fun c_2 => ?_)
    ·
      refine lv_aload_n hx hb dX1_lift_22 rfl (lv_at hl 0 rfl) ?_
      refine lv_dup hx hb dX1_lift_23 rfl ?_
      refine xr_I F hW 1 (by decide) rfl fl_RX1_15 dX1_lift_24 ?_
      refine lv_iconst (v := 1) hx hb dX1_lift_27 (by decide) ?_
      refine lv_isub hx hb dX1_lift_28 ?_
      refine xw_I F hW 1 (by decide) fl_RX1_15 rfl (ty := .int) rfl rfl rfl rfl dX1_lift_29 (fun H locs hW => ?_)
      refine lv_aload_n hx hb dX1_lift_32 rfl (lv_at hl 0 rfl) ?_
      refine xr_I F hW 0 (by decide) rfl fl_RX1_9 dX1_lift_33 ?_
      refine lv_aload_n hx hb dX1_lift_36 rfl (lv_at hl 0 rfl) ?_
      refine xr_I F hW 1 (by decide) rfl fl_RX1_15 dX1_lift_37 ?_
      refine lv_as (z := nI h) (by show upR ρ 6 1 (ρ 6 1 - 1) 6 1 = _; rw [upR_self, pk_us, hh, nI_pred]) ?_
      refine xr_Ue F hW (vp_in_nI (by omega) (by decide)) dX1_lift_40 ?_
      exact hret ((upR ρ 6 1 ((ρ 6 1) - 1)) 7 (nI h).toNatClampNeg) _ _ _ _ _ _ hW rfl rfl (by exact ⟨by rw [nI_clamp (show h < 2 ^ 31 by omega)]; rfl, by rw [hh, nI_pred]⟩) dX1_lift_41
    ·
      exact absurd (by rw [hh]; exact nI_le (a := h + 1) (b := 64) (by omega) (by decide)) c_2
