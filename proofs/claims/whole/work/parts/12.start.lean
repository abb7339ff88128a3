/-! ===== a method proved from its start to an abstract end Q ===== -/
section GST
variable {l : Launch} {cc : ByteArray} {N sz : Nat} {As : List Value} {D : va_G} {tys : List (ClassId × FieldType)} {ad : Nat → Nat} {f : Nat → va_E} {own : String} {y : MethodName} {rm : Room} {E : State → Prop}
theorem gw_stI {n : Nat} {ty : FieldType} {S : Type} {post : Int32 → S → Prop} {Ff : S → Nat → va_E} (hy : plainName y.cls = true) (ho : y.cls = own) (hlen : (lg_sl As).length ≤ n)
    (body : ∀ (p : Program) (e : Env) (s : State) (m : MethodId) (a : Array Value) (below : List Frame) (meth : Method) (c : Code) (A : Nat → Prop) (Q : State → Prop), CallFix p m c cc n s a TBL own → E s → s.heap.size = sz → GW D tys N ad f A s s.heap s.heap [] →
      (∀ (v : Int32) (u : S) (H : Heap) (locs : List Loc) (pc : Nat) (ls : Array Slot) (g : Nat → va_E), GW D tys N ad g A s s.heap H locs → Ff u = g → narrow ty (.int v) = .int v → post v u → decode cc pc = .ok (.ireturn, 1) → W p l e rm s m a below meth c H locs 0 0 Q (F0 m pc ls [.int v])) →
      ∀ ls : Array Slot, lv_has ls n (lv_args 0 As) → W p l e rm s m a below meth c s.heap [] 0 0 Q (F0 m 0 ls [])) :
    Met l y (WSm y cc n (some ty)) rm (va_Pc As (gw_B D tys N ad f sz E)) (va_Qi post (fun u t => va_P D vwCl (gw_L N ad (Ff u)) t.heap) (gw_A N ad sz)) 0 0 (gw_A N ad sz) :=
  gw_start hy ho hlen fun p e s m below meth c F hr hk hE hsz hG ls hl => body p e s m As.toArray below meth c _ _ F hE hsz hG (fun v u H locs pc ls g hG hf hn hp hd => gw_iret F hr hk hn hG u hf hp hd) ls hl
theorem gw_stL {n : Nat} {S : Type} {post : Int64 → S → Prop} {Ff : S → Nat → va_E} (hy : plainName y.cls = true) (ho : y.cls = own) (hlen : (lg_sl As).length ≤ n)
    (body : ∀ (p : Program) (e : Env) (s : State) (m : MethodId) (a : Array Value) (below : List Frame) (meth : Method) (c : Code) (A : Nat → Prop) (Q : State → Prop), CallFix p m c cc n s a TBL own → E s → s.heap.size = sz → GW D tys N ad f A s s.heap s.heap [] →
      (∀ (v : Int64) (u : S) (H : Heap) (locs : List Loc) (pc : Nat) (ls : Array Slot) (g : Nat → va_E), GW D tys N ad g A s s.heap H locs → Ff u = g → post v u → decode cc pc = .ok (.lreturn, 1) → W p l e rm s m a below meth c H locs 0 0 Q (F0 m pc ls [.long v])) →
      ∀ ls : Array Slot, lv_has ls n (lv_args 0 As) → W p l e rm s m a below meth c s.heap [] 0 0 Q (F0 m 0 ls [])) :
    Met l y (WSm y cc n (some .long)) rm (va_Pc As (gw_B D tys N ad f sz E)) (va_Ql post (fun u t => va_P D vwCl (gw_L N ad (Ff u)) t.heap) (gw_A N ad sz)) 0 0 (gw_A N ad sz) :=
  gw_start hy ho hlen fun p e s m below meth c F hr hk hE hsz hG ls hl => body p e s m As.toArray below meth c _ _ F hE hsz hG (fun v u H locs pc ls g hG hf hp hd => gw_lret F hr hk hG u hf hp hd) ls hl
theorem gw_stV {n : Nat} {S : Type} {post : S → Prop} {Ff : S → Nat → va_E} (hy : plainName y.cls = true) (ho : y.cls = own) (hlen : (lg_sl As).length ≤ n)
    (body : ∀ (p : Program) (e : Env) (s : State) (m : MethodId) (a : Array Value) (below : List Frame) (meth : Method) (c : Code) (A : Nat → Prop) (Q : State → Prop), CallFix p m c cc n s a TBL own → E s → s.heap.size = sz → GW D tys N ad f A s s.heap s.heap [] →
      (∀ (u : S) (H : Heap) (locs : List Loc) (pc : Nat) (ls : Array Slot) (g : Nat → va_E), GW D tys N ad g A s s.heap H locs → Ff u = g → post u → decode cc pc = .ok (.return_, 1) → W p l e rm s m a below meth c H locs 0 0 Q (F0 m pc ls [])) →
      ∀ ls : Array Slot, lv_has ls n (lv_args 0 As) → W p l e rm s m a below meth c s.heap [] 0 0 Q (F0 m 0 ls [])) :
    Met l y (WSm y cc n none) rm (va_Pc As (gw_B D tys N ad f sz E)) (va_Qv post (fun u t => va_P D vwCl (gw_L N ad (Ff u)) t.heap) (gw_A N ad sz)) 0 0 (gw_A N ad sz) :=
  gw_start hy ho hlen fun p e s m below meth c F hr hk hE hsz hG ls hl => body p e s m As.toArray below meth c _ _ F hE hsz hG (fun u H locs pc ls g hG hf hp hd => gw_vret F hr hk hG u hf hp hd) ls hl
theorem gw_stS {n : Nat} {ty : FieldType} {r : Int32} (hy : plainName y.cls = true) (ho : y.cls = own) (hlen : (lg_sl As).length ≤ n)
    (body : ∀ (p : Program) (e : Env) (s : State) (m : MethodId) (a : Array Value) (below : List Frame) (meth : Method) (c : Code) (Q : State → Prop), CallFix p m c cc n s a TBL own →
      (∀ (v : Int32) (pc : Nat) (ls : Array Slot), narrow ty (.int v) = .int v → v = r → decode cc pc = .ok (.ireturn, 1) → W p l e rm s m a below meth c s.heap [] 0 0 Q (F0 m pc ls [.int v])) →
      ∀ ls : Array Slot, lv_has ls n (lv_args 0 As) → W p l e rm s m a below meth c s.heap [] 0 0 Q (F0 m 0 ls [])) :
    Met l y (WSm y cc n (some ty)) rm (fun v _ => v = As.toArray) (QcRead r) 0 0 (fun _ => False) :=
  gw_startS hy ho hlen fun p e s m below meth c F hr hk ls hl => body p e s m As.toArray below meth c _ F (fun v pc ls hn hv hd => gw_sret F hr hk hn hv hd) ls hl
end GST
