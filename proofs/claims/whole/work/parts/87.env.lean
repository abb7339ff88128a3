/-! ===== the law: its words (out of the skeleton), and what holds at its start ===== -/
def R_law : String := "StalemateDinnerLaw"
def lw_P (b : Addr) (xs : List Int32) (args : Array Value) (s : State) : Prop := args = #[.ref b] ∧ s.IntsAt b xs ∧ xs.length ≤ 3584 ∧ (Jvm.Cond.and given_1 narrow_1).before args s = true
def lw_Qz (_ : Array Value) (s : State) (o : Outcome) (t : State) : Prop := o = .returned (some (.int 1)) ∧ Framed s o t [] 600000 7302250
def lw_Z (below : List Frame) (a : Array Value) (s : State) : State → Prop := fun t => ∃ o, t.status = .running ∧ Ended t below o ∧ lw_Qz a s o t
/-- the law's own end, with 1 on the stack, nothing written that was there before, its room as the claim has it -/
theorem lw_ret {p : Program} {l : Launch} {e : Env} {s : State} {m : MethodId} {below : List Frame} {meth : Method} {c : Code} {b : Nat} (hx : p.tables.exec = Jvm.exec) (hb : c.code = code) (hr : meth.sig.returnType = ret) (hlocks : meth.locks = false) {pc : Nat} {H : Heap} {ls : Array Slot} (hdg : decode code pc = .ok (.ireturn, 1)) : W p l e room_1 s m #[Value.ref b] below meth c H [] 600000 7302250 (lw_Z below #[Value.ref b] s) (F0 m pc ls [.int 1]) := by
  intro T hT X
  obtain ⟨fs, hret, hrun, hended, hW, hframe⟩ := X.leave (v := some (.int 1)) (hlocks := hlocks) (fun h => by rw [hr] at h; cases h)
  have hmeth' : T.vm.method? m = some meth := X.method'
  refine ⟨T.setFrames fs, ?_, .returned (some (.int 1)), hrun, hended, rfl, ⟨_, rfl⟩, hW, hframe⟩
  jvm_step X.here [X.here.top, hx, hb, hdg, hmeth', hr, ret, narrow_b1]
  (try refine ⟨rfl, ?_⟩); (try refine ⟨rfl, ?_⟩)
  first | (intro acts; rw [hret _ acts rfl rfl rfl]) | rw [hret _ _ rfl rfl rfl]
  exact Steps.refl _
/-- what holds at the law's entry: the machine, the code, the tables' words (any of lw_tbl by 'hts w (by decide +kernel)'), the script of L ints xs at the cell b, what the Statement gives of the start (any of its parts by flat_of_before) -/
def lw_At (p : Program) (s : State) (m : MethodId) (meth : Method) (c : Code) (b L : Nat) (xs : Nat → Int32) : Prop :=
  p.tables.exec = Jvm.exec ∧ c.code = code ∧ meth.sig.returnType = ret ∧ c.maxLocals = 4 ∧ s.vm.findClass R_law = some m.cls ∧ (∀ w ∈ lw_tbl, w.before #[Value.ref b] s = true) ∧ va_X b L xs s s.heap ∧ b < s.heap.size ∧ meth.locks = false ∧ (Jvm.Cond.and given_1 narrow_1).before #[Value.ref b] s = true
theorem mt_1 {w : Cond} (k : Nat) (h : tables_1_1[k]? = some w) : w ∈ lw_tbl := List.mem_append_right _ (List.mem_append_left _ (List.mem_of_getElem? h))
theorem mt_2 {w : Cond} (k : Nat) (h : tables_1_2[k]? = some w) : w ∈ lw_tbl := List.mem_append_right _ (List.mem_append_right _ (List.mem_append_left _ (List.mem_of_getElem? h)))
theorem mt_3 {w : Cond} (k : Nat) (h : tables_1_3[k]? = some w) : w ∈ lw_tbl := List.mem_append_right _ (List.mem_append_right _ (List.mem_append_right _ (List.mem_append_left _ (List.mem_of_getElem? h))))
theorem mt_4 {w : Cond} (k : Nat) (h : tables_1_4[k]? = some w) : w ∈ lw_tbl := List.mem_append_right _ (List.mem_append_right _ (List.mem_append_right _ (List.mem_append_right _ (List.mem_append_left _ (List.mem_of_getElem? h)))))
def XL (tk : Nat) (adK adV : Nat → Nat) (A : Nat → Prop) : State → Prop := fun U => XE U ∧ va_Z RX7 "KIND_ABOVE" "[I" (.ref tk) A U U.heap ∧ va_T .int tk 6 (fun j => .int (kaN j)) A U U.heap ∧ va_Z RJ0 "COMPACT_STRINGS" "Z" (.int 1) A U U.heap ∧ va_Zq RJ3 "SIOOBE_FORMATTER" "Ljava/util/function/BiFunction;" A U U.heap ∧ vk_S 12 lenW bytW adK adV A U U.heap ∧ (∀ i, i < 12 → vk_R RX5 (idxW.getD i 0) (txW.getD i "") (adK i) U) ∧ CT U
section XLS
variable {D : va_G} {cs : Nat → ClassId} {n : Nat} {ad : Nat → Nat} {ρ σ : Nat → Nat → Int32} {TT τ : Nat → Nat → Nat → Int32} {A : Nat → Prop} {tk : Nat} {adK adV : Nat → Nat} {s : State} {H : Heap} {locs : List Loc}
theorem xl_E (h : XL tk adK adV A s) : ∀ U : State, U.heap = H → s.WarmedH U.vm → XE U := fun U _ hw => va_Nw.warmM hw h.1
theorem xl_Z (h : XL tk adK adV A s) (hW : XW D cs ad n ρ TT τ σ A s s.heap H locs) : ∀ U : State, U.heap = H → s.WarmedH U.vm → XZ n ad H.size tk U := by
  intro U hU hw
  subst hU
  have hS := hW.2.2.2.1
  have hk : ∀ a : Nat, a < s.heap.size → ¬ A a → U.heap[a]? = s.heap[a]? := fun a ha hg => hS.2.1 a ha hg
  have hn : ∀ q, gw_A (42 + 3 * n) ad U.heap.size q → A q := hW.free
  exact ⟨va_Nw.warmM hw h.1, va_Z.moved hw.alike (va_Z.narrow (va_Z.kept h.2.1 hk) hn), va_T.moved hw.alike (va_T.narrow (va_T.kept h.2.2.1 hk) hn)⟩
theorem xl_T (h : XL tk adK adV A s) (hW : XW D cs ad n ρ TT τ σ A s s.heap H locs) : ∀ U : State, U.heap = H → s.WarmedH U.vm → XT n ad H.size adK adV U := by
  intro U hU hw
  subst hU
  have hS := hW.2.2.2.1
  have hk : ∀ a : Nat, a < s.heap.size → ¬ A a → U.heap[a]? = s.heap[a]? := fun a ha hg => hS.2.1 a ha hg
  have hn : ∀ q, gw_A (42 + 3 * n) ad U.heap.size q → A q := hW.free
  exact ⟨⟨va_Nw.warmM hw h.1, va_Z.moved hw.alike (va_Z.narrow (va_Z.kept h.2.2.2.1 hk) hn), va_Zq.moved hw.alike (va_Zq.narrow (va_Zq.kept h.2.2.2.2.1 hk) hn), vk_S.moved hw.alike (vk_S.narrow (vk_S.kept h.2.2.2.2.2.1 hk) hn), fun i hi => vk_R.warm hw (h.2.2.2.2.2.2.1 i hi)⟩, va_Nw.warmC hw h.2.2.2.2.2.2.2⟩
end XLS
abbrev tmW (i : Nat) : Term := .string RX5 (idxW.getD i 0)
set_option maxRecDepth 100000 in
theorem gv_ex : ∀ i, i < 12 → Cond.exactly (tmW i) "java/lang/String" ∈ flatC (Jvm.Cond.and given_1 narrow_1) := by decide +kernel
set_option maxRecDepth 100000 in
theorem gv_co : ∀ i, i < 12 → Cond.eq (.field (tmW i) "java/lang/String" "coder" "B") (.int 0) ∈ flatC (Jvm.Cond.and given_1 narrow_1) := by decide +kernel
set_option maxRecDepth 100000 in
theorem gv_ar : ∀ i, i < 12 → Cond.arrayOf (.field (tmW i) "java/lang/String" "value" "[B") .byte ∈ flatC (Jvm.Cond.and given_1 narrow_1) := by decide +kernel
set_option maxRecDepth 100000 in
theorem gv_le : ∀ i, i < 12 → Cond.eq (.length (.field (tmW i) "java/lang/String" "value" "[B")) (.int (Int32.ofNat (lenW.getD i 0))) ∈ flatC (Jvm.Cond.and given_1 narrow_1) := by decide +kernel
set_option maxRecDepth 100000 in
theorem gv_el : ∀ i, i < 12 → ∀ j, j < lenW.getD i 0 → Cond.eq (.elem (.field (tmW i) "java/lang/String" "value" "[B") (.int (Int32.ofNat j))) (.int ((bytW.getD i []).getD j 0)) ∈ flatC (Jvm.Cond.and given_1 narrow_1) := by decide +kernel
set_option maxRecDepth 100000 in
theorem gv_ne : ∀ i, i < 12 → ∀ j, j < 12 → i ≠ j → Cond.not (Cond.eq (tmW i) (tmW j)) ∈ flatC (Jvm.Cond.and given_1 narrow_1) ∨ Cond.not (Cond.eq (tmW j) (tmW i)) ∈ flatC (Jvm.Cond.and given_1 narrow_1) := by decide +kernel
set_option maxRecDepth 100000 in
theorem gv_st : Cond.eq (.static RJ0 "COMPACT_STRINGS" "Z") (.int 1) ∈ flatC (Jvm.Cond.and given_1 narrow_1) ∧ Cond.isRef (.static RJ3 "SIOOBE_FORMATTER" "Ljava/util/function/BiFunction;") ∈ flatC (Jvm.Cond.and given_1 narrow_1) ∧ Cond.arrayOf (.static RX7 "KIND_ABOVE" "[I") .int ∈ flatC (Jvm.Cond.and given_1 narrow_1) ∧ Cond.eq (.length (.static RX7 "KIND_ABOVE" "[I")) (.int 6) ∈ flatC (Jvm.Cond.and given_1 narrow_1) := by decide +kernel
set_option maxRecDepth 100000 in
theorem gv_ka : ∀ j, j < 6 → Cond.eq (.elem (.static RX7 "KIND_ABOVE" "[I") (.int (Int32.ofNat j))) (.int (kaN j)) ∈ flatC (Jvm.Cond.and given_1 narrow_1) := by decide +kernel
theorem lenW_31 : ∀ i, i < 12 → lenW.getD i 0 < 2 ^ 31 := fun i hi => by have := lenW_lt i hi; omega
/-- what the law may lean on -/
theorem env_0 {p : Program} {s : State} {m : MethodId} {meth : Method} {c : Code} {b L : Nat} {xs : Nat → Int32} (C0 : lw_At p s m meth c b L xs) : (∃ tk adK adV, XL tk adK adV (fun q : Nat => s.heap.size ≤ q) s) ∧ XN s := by
  obtain ⟨hx, hb, hr, hml, hown, hts, hX, hbl, hlocks, hgv⟩ := id C0
  have hs := flat_of_before _ hgv
  have hA : ∀ a : Nat, a < s.heap.size → ¬ (fun q : Nat => s.heap.size ≤ q) a := fun a h => Nat.not_le.mpr h
  obtain ⟨adK, adV, hSt, hev⟩ := vk_Sof (A := fun q : Nat => s.heap.size ≤ q) (N := 12) (tm := tmW) (len := lenW) (byt := bytW) lenW_31 (fun i hi => hs _ (gv_ex i hi)) (fun i hi => hs _ (gv_co i hi)) (fun i hi => hs _ (gv_ar i hi)) (fun i hi => hs _ (gv_le i hi)) (fun i hi j hj => hs _ (gv_el i hi j hj)) (fun i j hi hj hne => (gv_ne i hi j hj hne).imp (hs _) (hs _)) hA
  obtain ⟨tk, htk, hT⟩ := va_Tof (A := fun q : Nat => s.heap.size ≤ q) (ty := .int) (N := 6) (f := fun j => .int (kaN j)) (by decide) (hs _ gv_st.2.2.1) (va_eqt (hs _ gv_st.2.2.2)) (fun j hj => va_eqt (hs _ (gv_ka j hj))) hA
  have hstr : ∀ i, i < 12 → (Cond.stringRef RX5 (idxW.getD i 0) (txW.getD i "")).before #[Value.ref b] s = true := by
    intro i hi
    rcases i with _ | _ | _ | _ | _ | _ | _ | _ | _ | _ | _ | _ | i
    · exact hts _ (mt_2 86 rfl)
    · exact hts _ (mt_2 139 rfl)
    · exact hts _ (mt_2 140 rfl)
    · exact hts _ (mt_2 141 rfl)
    · exact hts _ (mt_2 142 rfl)
    · exact hts _ (mt_2 143 rfl)
    · exact hts _ (mt_2 144 rfl)
    · exact hts _ (mt_2 145 rfl)
    · exact hts _ (mt_2 146 rfl)
    · exact hts _ (mt_2 147 rfl)
    · exact hts _ (mt_2 148 rfl)
    · exact hts _ (mt_2 149 rfl)
    · omega
  refine ⟨⟨tk, adK, adV, va_Nw.of rfl (hts _ (mt_3 18 rfl)), va_Zref (hts _ (mt_4 27 rfl)) (hts _ (mt_1 1 rfl)) htk hA, hT, va_Zof (hts _ (mt_2 100 rfl)) (hts _ (mt_1 12 rfl)) (va_eqi (hs _ gv_st.1)) hA, va_Zqof (hts _ (mt_2 116 rfl)) (hts _ (mt_1 14 rfl)) (hs _ gv_st.2.1) hA, hSt, fun i hi => vk_R.of (hstr i hi) (hev i hi), va_Nw.of rfl (hts _ (mt_2 205 rfl))⟩, va_AO.of (hts _ (mt_1 120 rfl)), va_AO.of (hts _ (mt_1 185 rfl)), va_AO.of (hts _ (mt_1 93 rfl)), va_Nw.of rfl (hts _ (mt_1 122 rfl))⟩
